set_option maxRecDepth 100000 in
theorem jk_403_b1064 {L : Nat} {xs : Nat → Int32} {x1 : Option Nat} {x2 : Option Nat} {x3 : Option Nat} {x4 : Int} {h : jH} {o : ((Int × jH) ⊕ jH)} {r : mm_R} (e : jd_403_b1064 L xs x1 x2 x3 x4 h = some o) (K : jsm (fun s => (∀ lv : jL, lv 0 = some (jR (some 1000000)) → lv 1 = some (jR x1) → lv 2 = some (jR x2) → lv 3 = some (jR x3) → lv 4 = some (jI s.1) → ey (mm_xt L xs) 72 403 23 lv [] s.2 r)) (fun x => (∀ lv : jL, ey (mm_xt L xs) 72 403 3175 lv [] x r)) o) : ∀ lv : jL, lv 0 = some (jR (some 1000000)) → lv 1 = some (jR x1) → lv 2 = some (jR x2) → lv 3 = some (jR x3) → lv 4 = some (jI x4) → ey (mm_xt L xs) 72 403 1064 lv [] h r := by
  intro lv f0 f1 f2 f3 f4
  unfold jd_403_b1064 at e
  refine ey_aload_n (cd_403 rfl) f1 ?_
  refine ey_aload_n (cd_403 rfl) f0 ?_
  refine ey_iload (cd_403 rfl) f4 ?_
  refine ey_iconst (cd_403 rfl) ?_
  refine ey_iadd (cd_403 rfl) ?_
  obtain ⟨v365, e366, e⟩ := jbind e
  refine ey_iasc (cd_403 rfl) e366 ?_
  refine ey_aload_n (cd_403 rfl) f0 ?_
  refine ey_iload (cd_403 rfl) f4 ?_
  refine ey_iconst (cd_403 rfl) ?_
  refine ey_iadd (cd_403 rfl) ?_
  obtain ⟨v367, e368, e⟩ := jbind e
  refine ey_iasc (cd_403 rfl) e368 ?_
  refine ey_aload_n (cd_403 rfl) f3 ?_
  obtain ⟨q369, e370, e⟩ := jbind e
  refine ey_cs (s0 := [jR x3, jI v367, jI v365, jR x1]) (s1 := []) (st' := [jI q369.1]) (cd_403 rfl) mt_403 mt_374 rfl (by decide) rfl rfl (jsml_s rfl) rfl (mm_Runs.up (d := 2) (by decide) (ok_374 e370)) ?_
  refine ey_istore (cd_403 rfl) mt_403 rfl ?_
  refine ey_aload_n (cd_403 rfl) f2 ?_
  refine ey_aload_n (cd_403 rfl) f0 ?_
  refine ey_iload (cd_403 rfl) (jup_pi (lv := lv) (j := 4) (v := jI q369.1) (z := x4) f4) ?_
  refine ey_iconst (cd_403 rfl) ?_
  refine ey_iadd (cd_403 rfl) ?_
  obtain ⟨v371, e372, e⟩ := jbind e
  refine ey_iasc (cd_403 rfl) e372 ?_
  refine ey_aload_n (cd_403 rfl) f0 ?_
  refine ey_iload (cd_403 rfl) (jup_pi (lv := lv) (j := 4) (v := jI q369.1) (z := x4) f4) ?_
  refine ey_iconst (cd_403 rfl) ?_
  refine ey_iadd (cd_403 rfl) ?_
  obtain ⟨v373, e374, e⟩ := jbind e
  refine ey_iasc (cd_403 rfl) e374 ?_
  obtain ⟨a375, e376, e⟩ := jbind e
  refine ey_rs (s0 := [jI v373, jI v371, jR x2]) (s1 := [jI v373, jI v371, jR (some a375)]) (by rw [e376]) ?_
  obtain ⟨u377, e378, e⟩ := jbind e
  have w379 := jlk_s e378
  refine ey_rs (s0 := [jI v373, jI v371, jR (some a375)]) (s1 := [jI v373, jI v371, jR (some 76)]) (by rw [w379.1]) ?_
  obtain ⟨q380, e381, e⟩ := jbind e
  refine ey_cv (s0 := [jI v373, jI v371, jR (some 76)]) (s1 := []) (st' := [jI q380.1]) (cd_403 rfl) mt_403 mt_224 rfl rfl rfl ⟨Nat.lt_of_lt_of_le (by decide) w379.2.1, w379.2.2.2.1⟩ rfl (jsml_s rfl) rfl (mm_Runs.up (d := 2) (by decide) (by have w := ok_224 (L := L) (xs := xs) (b := q369.2) (m := jmf q369.2) w379.2.1 w379.2.2.1 e381; rw [w379.2.2.2.2] at w; exact w)) ?_
  obtain ⟨h382, e383, e⟩ := jbind e
  refine ey_hs (Option.some.inj e383) ?_
  refine ey_istore (cd_403 rfl) mt_403 rfl ?_
  refine ey_aload_n (cd_403 rfl) f2 ?_
  obtain ⟨a384, e385, e⟩ := jbind e
  refine ey_rs (s0 := [jR x2]) (s1 := [jR (some a384)]) (by rw [e385]) ?_
  obtain ⟨u386, e387, e⟩ := jbind e
  have w388 := jlk_s e387
  refine ey_rs (s0 := [jR (some a384)]) (s1 := [jR (some 76)]) (by rw [w388.1]) ?_
  refine ey_cv (s0 := [jR (some 76)]) (s1 := []) (st' := [jI (jd_203 (jmf h382))]) (cd_403 rfl) mt_403 mt_203 rfl rfl rfl ⟨Nat.lt_of_lt_of_le (by decide) w388.2.1, w388.2.2.2.1⟩ rfl (jsml_s rfl) rfl (mm_Runs.up (d := 1) (by decide) (by have w := ok_203 (L := L) (xs := xs) (b := h382) (m := jmf h382) w388.2.1 w388.2.2.1 ; rw [w388.2.2.2.2] at w; exact w)) ?_
  refine ey_iload (cd_403 rfl) (jup_pi (lv := (jup lv 5 (jI q369.1))) (j := 5) (v := jI q380.1) (z := q369.1) rfl) ?_
  by_cases q389 : (jw (jd_203 (jmf h382))) = (jw q369.1)
  · rw [if_pos q389] at e
    refine ey_ceq (cd_403 rfl) rfl rfl rfl q389 ?_
    refine ey_iload (cd_403 rfl) (jup_pi (lv := (jup lv 5 (jI q369.1))) (j := 5) (v := jI q380.1) (z := q369.1) rfl) ?_
    by_cases q390 : (jw q369.1) = 0
    · rw [if_pos q390] at e
      refine ey_yne (cd_403 rfl) rfl rfl (fun w => w q390) ?_
      refine ey_aload_n (cd_403 rfl) f3 ?_
      refine ey_iconst (cd_403 rfl) ?_
      obtain ⟨a391, e392, e⟩ := jbind e
      refine ey_rs (s0 := [jI 0, jR x3]) (s1 := [jI 0, jR (some a391)]) (by rw [e392]) ?_
      obtain ⟨v393, e394, e⟩ := jbind e
      refine ey_lald (cd_403 rfl) e394 ?_
      refine ey_iload (cd_403 rfl) rfl ?_
      refine ey_i2l (cd_403 rfl) ?_
      refine ey_lcmp (cd_403 rfl) ?_
      by_cases q395 : (jwl v393) = (jw q380.1)
      · rw [if_pos q395] at e
        refine ey_zeq (cd_403 rfl) rfl rfl ((jlc_eq rfl (jwl_jw _)).mpr q395) ?_
        exact jk_403_b1129 e K (jup (jup lv 5 (jI q369.1)) 6 (jI q380.1)) f0 f1 f2 f3 (jup_o rfl (jup_pi (lv := lv) (j := 4) (v := jI q369.1) (z := x4) f4))
      · rw [if_neg q395] at e
        refine ey_yeq (cd_403 rfl) rfl rfl (fun w => q395 ((jlc_eq rfl (jwl_jw _)).mp w)) ?_
        cases e
    · rw [if_neg q390] at e
      refine ey_zne (cd_403 rfl) rfl rfl q390 ?_
      exact jk_403_b1129 e K (jup (jup lv 5 (jI q369.1)) 6 (jI q380.1)) f0 f1 f2 f3 (jup_o rfl (jup_pi (lv := lv) (j := 4) (v := jI q369.1) (z := x4) f4))
  · rw [if_neg q389] at e
    refine ey_neq (cd_403 rfl) rfl rfl rfl q389 ?_
    cases e
set_option maxRecDepth 100000 in
theorem jk_403_b1132 {L : Nat} {xs : Nat → Int32} {x1 : Option Nat} {x2 : Option Nat} {x3 : Option Nat} {x4 : Int} {h : jH} {o : ((Int × jH) ⊕ jH)} {r : mm_R} (e : jd_403_b1132 L xs x1 x2 x3 x4 h = some o) (K : jsm (fun s => (∀ lv : jL, lv 0 = some (jR (some 1000000)) → lv 1 = some (jR x1) → lv 2 = some (jR x2) → lv 3 = some (jR x3) → lv 4 = some (jI s.1) → ey (mm_xt L xs) 72 403 23 lv [] s.2 r)) (fun x => (∀ lv : jL, ey (mm_xt L xs) 72 403 3175 lv [] x r)) o) : ∀ lv : jL, lv 0 = some (jR (some 1000000)) → lv 1 = some (jR x1) → lv 2 = some (jR x2) → lv 3 = some (jR x3) → lv 4 = some (jI x4) → ey (mm_xt L xs) 72 403 1132 lv [] h r := by
  intro lv f0 f1 f2 f3 f4
  unfold jd_403_b1132 at e
  refine ey_aload_n (cd_403 rfl) f1 ?_
  refine ey_aload_n (cd_403 rfl) f0 ?_
  refine ey_iload (cd_403 rfl) f4 ?_
  refine ey_iconst (cd_403 rfl) ?_
  refine ey_iadd (cd_403 rfl) ?_
  obtain ⟨v397, e398, e⟩ := jbind e
  refine ey_iasc (cd_403 rfl) e398 ?_
  obtain ⟨a399, e400, e⟩ := jbind e
  refine ey_rs (s0 := [jI v397, jR x1]) (s1 := [jI v397, jR (some a399)]) (by rw [e400]) ?_
  obtain ⟨u401, e402, e⟩ := jbind e
  obtain ⟨v403, e404, e⟩ := jbind e
  refine ey_cv (s0 := [jI v397, jR (some a399)]) (s1 := []) (st' := [jI v403]) (cd_403 rfl) mt_403 mt_150 rfl rfl rfl (jck_s e402) rfl (jsml_s rfl) rfl (mm_Runs.up (d := 1) (by decide) (ok_150 e404)) ?_
  refine ey_aload_n (cd_403 rfl) f2 ?_
  refine ey_aload_n (cd_403 rfl) f0 ?_
  refine ey_iload (cd_403 rfl) f4 ?_
  refine ey_iconst (cd_403 rfl) ?_
  refine ey_iadd (cd_403 rfl) ?_
  obtain ⟨v405, e406, e⟩ := jbind e
  refine ey_iasc (cd_403 rfl) e406 ?_
  obtain ⟨a407, e408, e⟩ := jbind e
  refine ey_rs (s0 := [jI v405, jR x2, jI v403]) (s1 := [jI v405, jR (some a407), jI v403]) (by rw [e408]) ?_
  obtain ⟨u409, e410, e⟩ := jbind e
  have w411 := jlk_s e410
  refine ey_rs (s0 := [jI v405, jR (some a407), jI v403]) (s1 := [jI v405, jR (some 76), jI v403]) (by rw [w411.1]) ?_
  obtain ⟨q412, e413, e⟩ := jbind e
  refine ey_cv (s0 := [jI v405, jR (some 76), jI v403]) (s1 := [jI v403]) (st' := [jI q412.1, jI v403]) (cd_403 rfl) mt_403 mt_225 rfl rfl rfl ⟨Nat.lt_of_lt_of_le (by decide) w411.2.1, w411.2.2.2.1⟩ rfl (jsml_s rfl) rfl (mm_Runs.up (d := 2) (by decide) (by have w := ok_225 (L := L) (xs := xs) (b := h) (m := jmf h) w411.2.1 w411.2.2.1 e413; rw [w411.2.2.2.2] at w; exact w)) ?_
  obtain ⟨h414, e415, e⟩ := jbind e
  refine ey_hs (Option.some.inj e415) ?_
  by_cases q416 : (jw v403) = (jw q412.1)
  · rw [if_pos q416] at e
    refine ey_ceq (cd_403 rfl) rfl rfl rfl q416 ?_
    exact jk_403_b3169 e K lv f0 f1 f2 f3 f4
  · rw [if_neg q416] at e
    refine ey_neq (cd_403 rfl) rfl rfl rfl q416 ?_
    cases e
set_option maxRecDepth 100000 in
theorem jk_403_b1157 {L : Nat} {xs : Nat → Int32} {x1 : Option Nat} {x2 : Option Nat} {x3 : Option Nat} {x4 : Int} {h : jH} {o : ((Int × jH) ⊕ jH)} {r : mm_R} (e : jd_403_b1157 L xs x1 x2 x3 x4 h = some o) (K : jsm (fun s => (∀ lv : jL, lv 0 = some (jR (some 1000000)) → lv 1 = some (jR x1) → lv 2 = some (jR x2) → lv 3 = some (jR x3) → lv 4 = some (jI s.1) → ey (mm_xt L xs) 72 403 23 lv [] s.2 r)) (fun x => (∀ lv : jL, ey (mm_xt L xs) 72 403 3175 lv [] x r)) o) : ∀ lv : jL, lv 0 = some (jR (some 1000000)) → lv 1 = some (jR x1) → lv 2 = some (jR x2) → lv 3 = some (jR x3) → lv 4 = some (jI x4) → ey (mm_xt L xs) 72 403 1157 lv [] h r := by
  intro lv f0 f1 f2 f3 f4
  unfold jd_403_b1157 at e
  refine ey_aload_n (cd_403 rfl) f1 ?_
  obtain ⟨a418, e419, e⟩ := jbind e
  refine ey_rs (s0 := [jR x1]) (s1 := [jR (some a418)]) (by rw [e419]) ?_
  obtain ⟨u420, e421, e⟩ := jbind e
  obtain ⟨q422, e423, e⟩ := jbind e
  refine ey_cv (s0 := [jR (some a418)]) (s1 := []) (st' := [jI q422.1]) (cd_403 rfl) mt_403 mt_151 rfl rfl rfl (jck_s e421) rfl (jsml_s rfl) rfl (mm_Runs.up (d := 1) (by decide) (ok_151 e423)) ?_
  refine ey_aload_n (cd_403 rfl) f2 ?_
  obtain ⟨a424, e425, e⟩ := jbind e
  refine ey_rs (s0 := [jR x2, jI q422.1]) (s1 := [jR (some a424), jI q422.1]) (by rw [e425]) ?_
  obtain ⟨u426, e427, e⟩ := jbind e
  have w428 := jlk_s e427
  refine ey_rs (s0 := [jR (some a424), jI q422.1]) (s1 := [jR (some 76), jI q422.1]) (by rw [w428.1]) ?_
  obtain ⟨q429, e430, e⟩ := jbind e
  refine ey_cv (s0 := [jR (some 76), jI q422.1]) (s1 := [jI q422.1]) (st' := [jI q429.1, jI q422.1]) (cd_403 rfl) mt_403 mt_226 rfl rfl rfl ⟨Nat.lt_of_lt_of_le (by decide) w428.2.1, w428.2.2.2.1⟩ rfl (jsml_s rfl) rfl (mm_Runs.up (d := 1) (by decide) (by have w := ok_226 (L := L) (xs := xs) (b := q422.2) (m := jmf q422.2) w428.2.1 w428.2.2.1 e430; rw [w428.2.2.2.2] at w; exact w)) ?_
  obtain ⟨h431, e432, e⟩ := jbind e
  refine ey_hs (Option.some.inj e432) ?_
  by_cases q433 : (jw q422.1) = (jw q429.1)
  · rw [if_pos q433] at e
    refine ey_ceq (cd_403 rfl) rfl rfl rfl q433 ?_
    exact jk_403_b3169 e K lv f0 f1 f2 f3 f4
  · rw [if_neg q433] at e
    refine ey_neq (cd_403 rfl) rfl rfl rfl q433 ?_
    cases e
set_option maxRecDepth 100000 in
theorem jk_403_b1235 {L : Nat} {xs : Nat → Int32} {x1 : Option Nat} {x2 : Option Nat} {x3 : Option Nat} {x4 : Int} {h : jH} {o : ((Int × jH) ⊕ jH)} {r : mm_R} (e : jd_403_b1235 L xs x1 x2 x3 x4 h = some o) (K : jsm (fun s => (∀ lv : jL, lv 0 = some (jR (some 1000000)) → lv 1 = some (jR x1) → lv 2 = some (jR x2) → lv 3 = some (jR x3) → lv 4 = some (jI s.1) → ey (mm_xt L xs) 72 403 23 lv [] s.2 r)) (fun x => (∀ lv : jL, ey (mm_xt L xs) 72 403 3175 lv [] x r)) o) : ∀ lv : jL, lv 0 = some (jR (some 1000000)) → lv 1 = some (jR x1) → lv 2 = some (jR x2) → lv 3 = some (jR x3) → lv 4 = some (jI x4) → ey (mm_xt L xs) 72 403 1235 lv [] h r := by
  intro lv f0 f1 f2 f3 f4
  unfold jd_403_b1235 at e
  refine ey_goto (cd_403 rfl) rfl ?_
  exact jk_403_b3169 e K lv f0 f1 f2 f3 f4
set_option maxRecDepth 100000 in
theorem jk_403_b1170 {L : Nat} {xs : Nat → Int32} {x1 : Option Nat} {x2 : Option Nat} {x3 : Option Nat} {x4 : Int} {h : jH} {o : ((Int × jH) ⊕ jH)} {r : mm_R} (e : jd_403_b1170 L xs x1 x2 x3 x4 h = some o) (K : jsm (fun s => (∀ lv : jL, lv 0 = some (jR (some 1000000)) → lv 1 = some (jR x1) → lv 2 = some (jR x2) → lv 3 = some (jR x3) → lv 4 = some (jI s.1) → ey (mm_xt L xs) 72 403 23 lv [] s.2 r)) (fun x => (∀ lv : jL, ey (mm_xt L xs) 72 403 3175 lv [] x r)) o) : ∀ lv : jL, lv 0 = some (jR (some 1000000)) → lv 1 = some (jR x1) → lv 2 = some (jR x2) → lv 3 = some (jR x3) → lv 4 = some (jI x4) → ey (mm_xt L xs) 72 403 1170 lv [] h r := by
  intro lv f0 f1 f2 f3 f4
  unfold jd_403_b1170 at e
  refine ey_aload_n (cd_403 rfl) f1 ?_
  refine ey_aload_n (cd_403 rfl) f0 ?_
  refine ey_iload (cd_403 rfl) f4 ?_
  refine ey_iconst (cd_403 rfl) ?_
  refine ey_iadd (cd_403 rfl) ?_
  obtain ⟨v435, e436, e⟩ := jbind e
  refine ey_iasc (cd_403 rfl) e436 ?_
  refine ey_aload_n (cd_403 rfl) f0 ?_
  refine ey_iload (cd_403 rfl) f4 ?_
  refine ey_iconst (cd_403 rfl) ?_
  refine ey_iadd (cd_403 rfl) ?_
  obtain ⟨v437, e438, e⟩ := jbind e
  refine ey_iasc (cd_403 rfl) e438 ?_
  refine ey_aload_n (cd_403 rfl) f3 ?_
  obtain ⟨q439, e440, e⟩ := jbind e
  refine ey_cs (s0 := [jR x3, jI v437, jI v435, jR x1]) (s1 := []) (st' := [jI q439.1]) (cd_403 rfl) mt_403 mt_375 rfl (by decide) rfl rfl (jsml_s rfl) rfl (mm_Runs.up (d := 3) (by decide) (ok_375 e440)) ?_
  refine ey_istore (cd_403 rfl) mt_403 rfl ?_
  refine ey_aload_n (cd_403 rfl) f2 ?_
  refine ey_aload_n (cd_403 rfl) f0 ?_
  refine ey_iload (cd_403 rfl) (jup_pi (lv := lv) (j := 4) (v := jI q439.1) (z := x4) f4) ?_
  refine ey_iconst (cd_403 rfl) ?_
  refine ey_iadd (cd_403 rfl) ?_
  obtain ⟨v441, e442, e⟩ := jbind e
  refine ey_iasc (cd_403 rfl) e442 ?_
  refine ey_aload_n (cd_403 rfl) f0 ?_
  refine ey_iload (cd_403 rfl) (jup_pi (lv := lv) (j := 4) (v := jI q439.1) (z := x4) f4) ?_
  refine ey_iconst (cd_403 rfl) ?_
  refine ey_iadd (cd_403 rfl) ?_
  obtain ⟨v443, e444, e⟩ := jbind e
  refine ey_iasc (cd_403 rfl) e444 ?_
  obtain ⟨a445, e446, e⟩ := jbind e
  refine ey_rs (s0 := [jI v443, jI v441, jR x2]) (s1 := [jI v443, jI v441, jR (some a445)]) (by rw [e446]) ?_
  obtain ⟨u447, e448, e⟩ := jbind e
  have w449 := jlk_s e448
  refine ey_rs (s0 := [jI v443, jI v441, jR (some a445)]) (s1 := [jI v443, jI v441, jR (some 76)]) (by rw [w449.1]) ?_
  obtain ⟨q450, e451, e⟩ := jbind e
  refine ey_cv (s0 := [jI v443, jI v441, jR (some 76)]) (s1 := []) (st' := [jI q450.1]) (cd_403 rfl) mt_403 mt_296 rfl rfl rfl ⟨Nat.lt_of_lt_of_le (by decide) w449.2.1, w449.2.2.2.1⟩ rfl (jsml_s rfl) rfl (mm_Runs.up (d := 2) (by decide) (by have w := ok_296 (L := L) (xs := xs) (b := q439.2) (m := jmf q439.2) w449.2.1 w449.2.2.1 e451; rw [w449.2.2.2.2] at w; exact w)) ?_
  obtain ⟨h452, e453, e⟩ := jbind e
  refine ey_hs (Option.some.inj e453) ?_
  refine ey_istore (cd_403 rfl) mt_403 rfl ?_
  refine ey_aload_n (cd_403 rfl) f2 ?_
  obtain ⟨a454, e455, e⟩ := jbind e
  refine ey_rs (s0 := [jR x2]) (s1 := [jR (some a454)]) (by rw [e455]) ?_
  obtain ⟨u456, e457, e⟩ := jbind e
  have w458 := jlk_s e457
  refine ey_rs (s0 := [jR (some a454)]) (s1 := [jR (some 76)]) (by rw [w458.1]) ?_
  refine ey_cv (s0 := [jR (some 76)]) (s1 := []) (st' := [jI (jd_203 (jmf h452))]) (cd_403 rfl) mt_403 mt_203 rfl rfl rfl ⟨Nat.lt_of_lt_of_le (by decide) w458.2.1, w458.2.2.2.1⟩ rfl (jsml_s rfl) rfl (mm_Runs.up (d := 1) (by decide) (by have w := ok_203 (L := L) (xs := xs) (b := h452) (m := jmf h452) w458.2.1 w458.2.2.1 ; rw [w458.2.2.2.2] at w; exact w)) ?_
  refine ey_iload (cd_403 rfl) (jup_pi (lv := (jup lv 5 (jI q439.1))) (j := 5) (v := jI q450.1) (z := q439.1) rfl) ?_
  by_cases q459 : (jw (jd_203 (jmf h452))) = (jw q439.1)
  · rw [if_pos q459] at e
    refine ey_ceq (cd_403 rfl) rfl rfl rfl q459 ?_
    refine ey_iload (cd_403 rfl) (jup_pi (lv := (jup lv 5 (jI q439.1))) (j := 5) (v := jI q450.1) (z := q439.1) rfl) ?_
    by_cases q460 : (jw q439.1) = 0
    · rw [if_pos q460] at e
      refine ey_yne (cd_403 rfl) rfl rfl (fun w => w q460) ?_
      refine ey_aload_n (cd_403 rfl) f3 ?_
      refine ey_iconst (cd_403 rfl) ?_
      obtain ⟨a461, e462, e⟩ := jbind e
      refine ey_rs (s0 := [jI 0, jR x3]) (s1 := [jI 0, jR (some a461)]) (by rw [e462]) ?_
      obtain ⟨v463, e464, e⟩ := jbind e
      refine ey_lald (cd_403 rfl) e464 ?_
      refine ey_iload (cd_403 rfl) rfl ?_
      refine ey_i2l (cd_403 rfl) ?_
      refine ey_lcmp (cd_403 rfl) ?_
      by_cases q465 : (jwl v463) = (jw q450.1)
      · rw [if_pos q465] at e
        refine ey_zeq (cd_403 rfl) rfl rfl ((jlc_eq rfl (jwl_jw _)).mpr q465) ?_
        exact jk_403_b1235 e K (jup (jup lv 5 (jI q439.1)) 6 (jI q450.1)) f0 f1 f2 f3 (jup_o rfl (jup_pi (lv := lv) (j := 4) (v := jI q439.1) (z := x4) f4))
      · rw [if_neg q465] at e
        refine ey_yeq (cd_403 rfl) rfl rfl (fun w => q465 ((jlc_eq rfl (jwl_jw _)).mp w)) ?_
        cases e
    · rw [if_neg q460] at e
      refine ey_zne (cd_403 rfl) rfl rfl q460 ?_
      exact jk_403_b1235 e K (jup (jup lv 5 (jI q439.1)) 6 (jI q450.1)) f0 f1 f2 f3 (jup_o rfl (jup_pi (lv := lv) (j := 4) (v := jI q439.1) (z := x4) f4))
  · rw [if_neg q459] at e
    refine ey_neq (cd_403 rfl) rfl rfl rfl q459 ?_
    cases e
set_option maxRecDepth 100000 in
theorem jk_403_b1291 {L : Nat} {xs : Nat → Int32} {x1 : Option Nat} {x2 : Option Nat} {x3 : Option Nat} {x4 : Int} {h : jH} {o : ((Int × jH) ⊕ jH)} {r : mm_R} (e : jd_403_b1291 L xs x1 x2 x3 x4 h = some o) (K : jsm (fun s => (∀ lv : jL, lv 0 = some (jR (some 1000000)) → lv 1 = some (jR x1) → lv 2 = some (jR x2) → lv 3 = some (jR x3) → lv 4 = some (jI s.1) → ey (mm_xt L xs) 72 403 23 lv [] s.2 r)) (fun x => (∀ lv : jL, ey (mm_xt L xs) 72 403 3175 lv [] x r)) o) : ∀ lv : jL, lv 0 = some (jR (some 1000000)) → lv 1 = some (jR x1) → lv 2 = some (jR x2) → lv 3 = some (jR x3) → lv 4 = some (jI x4) → ey (mm_xt L xs) 72 403 1291 lv [] h r := by
  intro lv f0 f1 f2 f3 f4
  unfold jd_403_b1291 at e
  refine ey_goto (cd_403 rfl) rfl ?_
  exact jk_403_b3169 e K lv f0 f1 f2 f3 f4
set_option maxRecDepth 100000 in
theorem jk_403_b1238 {L : Nat} {xs : Nat → Int32} {x1 : Option Nat} {x2 : Option Nat} {x3 : Option Nat} {x4 : Int} {h : jH} {o : ((Int × jH) ⊕ jH)} {r : mm_R} (e : jd_403_b1238 L xs x1 x2 x3 x4 h = some o) (K : jsm (fun s => (∀ lv : jL, lv 0 = some (jR (some 1000000)) → lv 1 = some (jR x1) → lv 2 = some (jR x2) → lv 3 = some (jR x3) → lv 4 = some (jI s.1) → ey (mm_xt L xs) 72 403 23 lv [] s.2 r)) (fun x => (∀ lv : jL, ey (mm_xt L xs) 72 403 3175 lv [] x r)) o) : ∀ lv : jL, lv 0 = some (jR (some 1000000)) → lv 1 = some (jR x1) → lv 2 = some (jR x2) → lv 3 = some (jR x3) → lv 4 = some (jI x4) → ey (mm_xt L xs) 72 403 1238 lv [] h r := by
  intro lv f0 f1 f2 f3 f4
  unfold jd_403_b1238 at e
  refine ey_aload_n (cd_403 rfl) f1 ?_
  refine ey_aload_n (cd_403 rfl) f0 ?_
  refine ey_iload (cd_403 rfl) f4 ?_
  refine ey_iconst (cd_403 rfl) ?_
  refine ey_iadd (cd_403 rfl) ?_
  obtain ⟨v467, e468, e⟩ := jbind e
  refine ey_iasc (cd_403 rfl) e468 ?_
  refine ey_aload_n (cd_403 rfl) f3 ?_
  obtain ⟨q469, e470, e⟩ := jbind e
  refine ey_cs (s0 := [jR x3, jI v467, jR x1]) (s1 := []) (st' := [jI q469.1]) (cd_403 rfl) mt_403 mt_376 rfl (by decide) rfl rfl (jsml_s rfl) rfl (mm_Runs.up (d := 4) (by decide) (ok_376 e470)) ?_
  refine ey_istore (cd_403 rfl) mt_403 rfl ?_
  refine ey_aload_n (cd_403 rfl) f2 ?_
  refine ey_aload_n (cd_403 rfl) f0 ?_
  refine ey_iload (cd_403 rfl) (jup_pi (lv := lv) (j := 4) (v := jI q469.1) (z := x4) f4) ?_
  refine ey_iconst (cd_403 rfl) ?_
  refine ey_iadd (cd_403 rfl) ?_
  obtain ⟨v471, e472, e⟩ := jbind e
  refine ey_iasc (cd_403 rfl) e472 ?_
  obtain ⟨a473, e474, e⟩ := jbind e
  refine ey_rs (s0 := [jI v471, jR x2]) (s1 := [jI v471, jR (some a473)]) (by rw [e474]) ?_
  obtain ⟨u475, e476, e⟩ := jbind e
  have w477 := jlk_s e476
  refine ey_rs (s0 := [jI v471, jR (some a473)]) (s1 := [jI v471, jR (some 76)]) (by rw [w477.1]) ?_
  obtain ⟨q478, e479, e⟩ := jbind e
  refine ey_cv (s0 := [jI v471, jR (some 76)]) (s1 := []) (st' := [jI q478.1]) (cd_403 rfl) mt_403 mt_297 rfl rfl rfl ⟨Nat.lt_of_lt_of_le (by decide) w477.2.1, w477.2.2.2.1⟩ rfl (jsml_s rfl) rfl (mm_Runs.up (d := 3) (by decide) (by have w := ok_297 (L := L) (xs := xs) (b := q469.2) (m := jmf q469.2) w477.2.1 w477.2.2.1 e479; rw [w477.2.2.2.2] at w; exact w)) ?_
  obtain ⟨h480, e481, e⟩ := jbind e
  refine ey_hs (Option.some.inj e481) ?_
  refine ey_istore (cd_403 rfl) mt_403 rfl ?_
  refine ey_aload_n (cd_403 rfl) f2 ?_
  obtain ⟨a482, e483, e⟩ := jbind e
  refine ey_rs (s0 := [jR x2]) (s1 := [jR (some a482)]) (by rw [e483]) ?_
  obtain ⟨u484, e485, e⟩ := jbind e
  have w486 := jlk_s e485
  refine ey_rs (s0 := [jR (some a482)]) (s1 := [jR (some 76)]) (by rw [w486.1]) ?_
  refine ey_cv (s0 := [jR (some 76)]) (s1 := []) (st' := [jI (jd_203 (jmf h480))]) (cd_403 rfl) mt_403 mt_203 rfl rfl rfl ⟨Nat.lt_of_lt_of_le (by decide) w486.2.1, w486.2.2.2.1⟩ rfl (jsml_s rfl) rfl (mm_Runs.up (d := 1) (by decide) (by have w := ok_203 (L := L) (xs := xs) (b := h480) (m := jmf h480) w486.2.1 w486.2.2.1 ; rw [w486.2.2.2.2] at w; exact w)) ?_
  refine ey_iload (cd_403 rfl) (jup_pi (lv := (jup lv 5 (jI q469.1))) (j := 5) (v := jI q478.1) (z := q469.1) rfl) ?_
  by_cases q487 : (jw (jd_203 (jmf h480))) = (jw q469.1)
  · rw [if_pos q487] at e
    refine ey_ceq (cd_403 rfl) rfl rfl rfl q487 ?_
    refine ey_iload (cd_403 rfl) (jup_pi (lv := (jup lv 5 (jI q469.1))) (j := 5) (v := jI q478.1) (z := q469.1) rfl) ?_
    by_cases q488 : (jw q469.1) = 0
    · rw [if_pos q488] at e
      refine ey_yne (cd_403 rfl) rfl rfl (fun w => w q488) ?_
      refine ey_aload_n (cd_403 rfl) f3 ?_
      refine ey_iconst (cd_403 rfl) ?_
      obtain ⟨a489, e490, e⟩ := jbind e
      refine ey_rs (s0 := [jI 0, jR x3]) (s1 := [jI 0, jR (some a489)]) (by rw [e490]) ?_
      obtain ⟨v491, e492, e⟩ := jbind e
      refine ey_lald (cd_403 rfl) e492 ?_
      refine ey_iload (cd_403 rfl) rfl ?_
      refine ey_i2l (cd_403 rfl) ?_
      refine ey_lcmp (cd_403 rfl) ?_
      by_cases q493 : (jwl v491) = (jw q478.1)
      · rw [if_pos q493] at e
        refine ey_zeq (cd_403 rfl) rfl rfl ((jlc_eq rfl (jwl_jw _)).mpr q493) ?_
        exact jk_403_b1291 e K (jup (jup lv 5 (jI q469.1)) 6 (jI q478.1)) f0 f1 f2 f3 (jup_o rfl (jup_pi (lv := lv) (j := 4) (v := jI q469.1) (z := x4) f4))
      · rw [if_neg q493] at e
        refine ey_yeq (cd_403 rfl) rfl rfl (fun w => q493 ((jlc_eq rfl (jwl_jw _)).mp w)) ?_
        cases e
    · rw [if_neg q488] at e
      refine ey_zne (cd_403 rfl) rfl rfl q488 ?_
      exact jk_403_b1291 e K (jup (jup lv 5 (jI q469.1)) 6 (jI q478.1)) f0 f1 f2 f3 (jup_o rfl (jup_pi (lv := lv) (j := 4) (v := jI q469.1) (z := x4) f4))
  · rw [if_neg q487] at e
    refine ey_neq (cd_403 rfl) rfl rfl rfl q487 ?_
    cases e
set_option maxRecDepth 100000 in
theorem jk_403_b1294 {L : Nat} {xs : Nat → Int32} {x1 : Option Nat} {x2 : Option Nat} {x3 : Option Nat} {x4 : Int} {h : jH} {o : ((Int × jH) ⊕ jH)} {r : mm_R} (e : jd_403_b1294 L xs x1 x2 x3 x4 h = some o) (K : jsm (fun s => (∀ lv : jL, lv 0 = some (jR (some 1000000)) → lv 1 = some (jR x1) → lv 2 = some (jR x2) → lv 3 = some (jR x3) → lv 4 = some (jI s.1) → ey (mm_xt L xs) 72 403 23 lv [] s.2 r)) (fun x => (∀ lv : jL, ey (mm_xt L xs) 72 403 3175 lv [] x r)) o) : ∀ lv : jL, lv 0 = some (jR (some 1000000)) → lv 1 = some (jR x1) → lv 2 = some (jR x2) → lv 3 = some (jR x3) → lv 4 = some (jI x4) → ey (mm_xt L xs) 72 403 1294 lv [] h r := by
  intro lv f0 f1 f2 f3 f4
  unfold jd_403_b1294 at e
  refine ey_aload_n (cd_403 rfl) f1 ?_
  obtain ⟨a495, e496, e⟩ := jbind e
  refine ey_rs (s0 := [jR x1]) (s1 := [jR (some a495)]) (by rw [e496]) ?_
  obtain ⟨u497, e498, e⟩ := jbind e
  obtain ⟨q499, e500, e⟩ := jbind e
  refine ey_cv (s0 := [jR (some a495)]) (s1 := []) (st' := [jI q499.1]) (cd_403 rfl) mt_403 mt_154 rfl rfl rfl (jck_s e498) rfl (jsml_s rfl) rfl (mm_Runs.up (d := 1) (by decide) (ok_154 e500)) ?_
  refine ey_aload_n (cd_403 rfl) f2 ?_
  obtain ⟨a501, e502, e⟩ := jbind e
  refine ey_rs (s0 := [jR x2, jI q499.1]) (s1 := [jR (some a501), jI q499.1]) (by rw [e502]) ?_
  obtain ⟨u503, e504, e⟩ := jbind e
  have w505 := jlk_s e504
  refine ey_rs (s0 := [jR (some a501), jI q499.1]) (s1 := [jR (some 76), jI q499.1]) (by rw [w505.1]) ?_
  obtain ⟨q506, e507, e⟩ := jbind e
  refine ey_cv (s0 := [jR (some 76), jI q499.1]) (s1 := [jI q499.1]) (st' := [jI q506.1, jI q499.1]) (cd_403 rfl) mt_403 mt_298 rfl rfl rfl ⟨Nat.lt_of_lt_of_le (by decide) w505.2.1, w505.2.2.2.1⟩ rfl (jsml_s rfl) rfl (mm_Runs.up (d := 1) (by decide) (by have w := ok_298 (L := L) (xs := xs) (b := q499.2) (m := jmf q499.2) w505.2.1 w505.2.2.1 e507; rw [w505.2.2.2.2] at w; exact w)) ?_
  obtain ⟨h508, e509, e⟩ := jbind e
  refine ey_hs (Option.some.inj e509) ?_
  by_cases q510 : (jw q499.1) = (jw q506.1)
  · rw [if_pos q510] at e
    refine ey_ceq (cd_403 rfl) rfl rfl rfl q510 ?_
    exact jk_403_b3169 e K lv f0 f1 f2 f3 f4
  · rw [if_neg q510] at e
    refine ey_neq (cd_403 rfl) rfl rfl rfl q510 ?_
    cases e
set_option maxRecDepth 100000 in
theorem jk_403_b1360 {L : Nat} {xs : Nat → Int32} {x1 : Option Nat} {x2 : Option Nat} {x3 : Option Nat} {x4 : Int} {h : jH} {o : ((Int × jH) ⊕ jH)} {r : mm_R} (e : jd_403_b1360 L xs x1 x2 x3 x4 h = some o) (K : jsm (fun s => (∀ lv : jL, lv 0 = some (jR (some 1000000)) → lv 1 = some (jR x1) → lv 2 = some (jR x2) → lv 3 = some (jR x3) → lv 4 = some (jI s.1) → ey (mm_xt L xs) 72 403 23 lv [] s.2 r)) (fun x => (∀ lv : jL, ey (mm_xt L xs) 72 403 3175 lv [] x r)) o) : ∀ lv : jL, lv 0 = some (jR (some 1000000)) → lv 1 = some (jR x1) → lv 2 = some (jR x2) → lv 3 = some (jR x3) → lv 4 = some (jI x4) → ey (mm_xt L xs) 72 403 1360 lv [] h r := by
  intro lv f0 f1 f2 f3 f4
  unfold jd_403_b1360 at e
  refine ey_goto (cd_403 rfl) rfl ?_
  exact jk_403_b3169 e K lv f0 f1 f2 f3 f4
set_option maxRecDepth 100000 in
theorem jk_403_b1307 {L : Nat} {xs : Nat → Int32} {x1 : Option Nat} {x2 : Option Nat} {x3 : Option Nat} {x4 : Int} {h : jH} {o : ((Int × jH) ⊕ jH)} {r : mm_R} (e : jd_403_b1307 L xs x1 x2 x3 x4 h = some o) (K : jsm (fun s => (∀ lv : jL, lv 0 = some (jR (some 1000000)) → lv 1 = some (jR x1) → lv 2 = some (jR x2) → lv 3 = some (jR x3) → lv 4 = some (jI s.1) → ey (mm_xt L xs) 72 403 23 lv [] s.2 r)) (fun x => (∀ lv : jL, ey (mm_xt L xs) 72 403 3175 lv [] x r)) o) : ∀ lv : jL, lv 0 = some (jR (some 1000000)) → lv 1 = some (jR x1) → lv 2 = some (jR x2) → lv 3 = some (jR x3) → lv 4 = some (jI x4) → ey (mm_xt L xs) 72 403 1307 lv [] h r := by
  intro lv f0 f1 f2 f3 f4
  unfold jd_403_b1307 at e
  refine ey_aload_n (cd_403 rfl) f1 ?_
  refine ey_aload_n (cd_403 rfl) f0 ?_
  refine ey_iload (cd_403 rfl) f4 ?_
  refine ey_iconst (cd_403 rfl) ?_
  refine ey_iadd (cd_403 rfl) ?_
  obtain ⟨v512, e513, e⟩ := jbind e
  refine ey_iasc (cd_403 rfl) e513 ?_
  refine ey_aload_n (cd_403 rfl) f3 ?_
  obtain ⟨q514, e515, e⟩ := jbind e
  refine ey_cs (s0 := [jR x3, jI v512, jR x1]) (s1 := []) (st' := [jI q514.1]) (cd_403 rfl) mt_403 mt_377 rfl (by decide) rfl rfl (jsml_s rfl) rfl (mm_Runs.up (d := 9) (by decide) (ok_377 e515)) ?_
  refine ey_istore (cd_403 rfl) mt_403 rfl ?_
  refine ey_aload_n (cd_403 rfl) f2 ?_
  refine ey_aload_n (cd_403 rfl) f0 ?_
  refine ey_iload (cd_403 rfl) (jup_pi (lv := lv) (j := 4) (v := jI q514.1) (z := x4) f4) ?_
  refine ey_iconst (cd_403 rfl) ?_
  refine ey_iadd (cd_403 rfl) ?_
  obtain ⟨v516, e517, e⟩ := jbind e
  refine ey_iasc (cd_403 rfl) e517 ?_
  obtain ⟨a518, e519, e⟩ := jbind e
  refine ey_rs (s0 := [jI v516, jR x2]) (s1 := [jI v516, jR (some a518)]) (by rw [e519]) ?_
  obtain ⟨u520, e521, e⟩ := jbind e
  have w522 := jlk_s e521
  refine ey_rs (s0 := [jI v516, jR (some a518)]) (s1 := [jI v516, jR (some 76)]) (by rw [w522.1]) ?_
  obtain ⟨q523, e524, e⟩ := jbind e
  refine ey_cv (s0 := [jI v516, jR (some 76)]) (s1 := []) (st' := [jI q523.1]) (cd_403 rfl) mt_403 mt_300 rfl rfl rfl ⟨Nat.lt_of_lt_of_le (by decide) w522.2.1, w522.2.2.2.1⟩ rfl (jsml_s rfl) rfl (mm_Runs.up (d := 12) (by decide) (by have w := ok_300 (L := L) (xs := xs) (b := q514.2) (m := jmf q514.2) w522.2.1 w522.2.2.1 e524; rw [w522.2.2.2.2] at w; exact w)) ?_
  obtain ⟨h525, e526, e⟩ := jbind e
  refine ey_hs (Option.some.inj e526) ?_
  refine ey_istore (cd_403 rfl) mt_403 rfl ?_
  refine ey_aload_n (cd_403 rfl) f2 ?_
  obtain ⟨a527, e528, e⟩ := jbind e
  refine ey_rs (s0 := [jR x2]) (s1 := [jR (some a527)]) (by rw [e528]) ?_
  obtain ⟨u529, e530, e⟩ := jbind e
  have w531 := jlk_s e530
  refine ey_rs (s0 := [jR (some a527)]) (s1 := [jR (some 76)]) (by rw [w531.1]) ?_
  refine ey_cv (s0 := [jR (some 76)]) (s1 := []) (st' := [jI (jd_203 (jmf h525))]) (cd_403 rfl) mt_403 mt_203 rfl rfl rfl ⟨Nat.lt_of_lt_of_le (by decide) w531.2.1, w531.2.2.2.1⟩ rfl (jsml_s rfl) rfl (mm_Runs.up (d := 1) (by decide) (by have w := ok_203 (L := L) (xs := xs) (b := h525) (m := jmf h525) w531.2.1 w531.2.2.1 ; rw [w531.2.2.2.2] at w; exact w)) ?_
  refine ey_iload (cd_403 rfl) (jup_pi (lv := (jup lv 5 (jI q514.1))) (j := 5) (v := jI q523.1) (z := q514.1) rfl) ?_
  by_cases q532 : (jw (jd_203 (jmf h525))) = (jw q514.1)
  · rw [if_pos q532] at e
    refine ey_ceq (cd_403 rfl) rfl rfl rfl q532 ?_
    refine ey_iload (cd_403 rfl) (jup_pi (lv := (jup lv 5 (jI q514.1))) (j := 5) (v := jI q523.1) (z := q514.1) rfl) ?_
    by_cases q533 : (jw q514.1) = 0
    · rw [if_pos q533] at e
      refine ey_yne (cd_403 rfl) rfl rfl (fun w => w q533) ?_
      refine ey_aload_n (cd_403 rfl) f3 ?_
      refine ey_iconst (cd_403 rfl) ?_
      obtain ⟨a534, e535, e⟩ := jbind e
      refine ey_rs (s0 := [jI 0, jR x3]) (s1 := [jI 0, jR (some a534)]) (by rw [e535]) ?_
      obtain ⟨v536, e537, e⟩ := jbind e
      refine ey_lald (cd_403 rfl) e537 ?_
      refine ey_iload (cd_403 rfl) rfl ?_
      refine ey_i2l (cd_403 rfl) ?_
      refine ey_lcmp (cd_403 rfl) ?_
      by_cases q538 : (jwl v536) = (jw q523.1)
      · rw [if_pos q538] at e
        refine ey_zeq (cd_403 rfl) rfl rfl ((jlc_eq rfl (jwl_jw _)).mpr q538) ?_
        exact jk_403_b1360 e K (jup (jup lv 5 (jI q514.1)) 6 (jI q523.1)) f0 f1 f2 f3 (jup_o rfl (jup_pi (lv := lv) (j := 4) (v := jI q514.1) (z := x4) f4))
      · rw [if_neg q538] at e
        refine ey_yeq (cd_403 rfl) rfl rfl (fun w => q538 ((jlc_eq rfl (jwl_jw _)).mp w)) ?_
        cases e
    · rw [if_neg q533] at e
      refine ey_zne (cd_403 rfl) rfl rfl q533 ?_
      exact jk_403_b1360 e K (jup (jup lv 5 (jI q514.1)) 6 (jI q523.1)) f0 f1 f2 f3 (jup_o rfl (jup_pi (lv := lv) (j := 4) (v := jI q514.1) (z := x4) f4))
  · rw [if_neg q532] at e
    refine ey_neq (cd_403 rfl) rfl rfl rfl q532 ?_
    cases e
set_option maxRecDepth 100000 in
theorem jk_403_b1404 {L : Nat} {xs : Nat → Int32} {x1 : Option Nat} {x2 : Option Nat} {x3 : Option Nat} {x4 : Int} {h : jH} {o : ((Int × jH) ⊕ jH)} {r : mm_R} (e : jd_403_b1404 L xs x1 x2 x3 x4 h = some o) (K : jsm (fun s => (∀ lv : jL, lv 0 = some (jR (some 1000000)) → lv 1 = some (jR x1) → lv 2 = some (jR x2) → lv 3 = some (jR x3) → lv 4 = some (jI s.1) → ey (mm_xt L xs) 72 403 23 lv [] s.2 r)) (fun x => (∀ lv : jL, ey (mm_xt L xs) 72 403 3175 lv [] x r)) o) : ∀ lv : jL, lv 0 = some (jR (some 1000000)) → lv 1 = some (jR x1) → lv 2 = some (jR x2) → lv 3 = some (jR x3) → lv 4 = some (jI x4) → ey (mm_xt L xs) 72 403 1404 lv [] h r := by
  intro lv f0 f1 f2 f3 f4
  unfold jd_403_b1404 at e
  refine ey_goto (cd_403 rfl) rfl ?_
  exact jk_403_b3169 e K lv f0 f1 f2 f3 f4
set_option maxRecDepth 100000 in
theorem jk_403_b1363 {L : Nat} {xs : Nat → Int32} {x1 : Option Nat} {x2 : Option Nat} {x3 : Option Nat} {x4 : Int} {h : jH} {o : ((Int × jH) ⊕ jH)} {r : mm_R} (e : jd_403_b1363 L xs x1 x2 x3 x4 h = some o) (K : jsm (fun s => (∀ lv : jL, lv 0 = some (jR (some 1000000)) → lv 1 = some (jR x1) → lv 2 = some (jR x2) → lv 3 = some (jR x3) → lv 4 = some (jI s.1) → ey (mm_xt L xs) 72 403 23 lv [] s.2 r)) (fun x => (∀ lv : jL, ey (mm_xt L xs) 72 403 3175 lv [] x r)) o) : ∀ lv : jL, lv 0 = some (jR (some 1000000)) → lv 1 = some (jR x1) → lv 2 = some (jR x2) → lv 3 = some (jR x3) → lv 4 = some (jI x4) → ey (mm_xt L xs) 72 403 1363 lv [] h r := by
  intro lv f0 f1 f2 f3 f4
  unfold jd_403_b1363 at e
  refine ey_aload_n (cd_403 rfl) f1 ?_
  refine ey_aload_n (cd_403 rfl) f3 ?_
  obtain ⟨q540, e541, e⟩ := jbind e
  refine ey_cs (s0 := [jR x3, jR x1]) (s1 := []) (st' := [jI q540.1]) (cd_403 rfl) mt_403 mt_378 rfl (by decide) rfl rfl (jsml_s rfl) rfl (mm_Runs.up (d := 9) (by decide) (ok_378 e541)) ?_
  refine ey_istore (cd_403 rfl) mt_403 rfl ?_
  refine ey_aload_n (cd_403 rfl) f2 ?_
  obtain ⟨a542, e543, e⟩ := jbind e
  refine ey_rs (s0 := [jR x2]) (s1 := [jR (some a542)]) (by rw [e543]) ?_
  obtain ⟨u544, e545, e⟩ := jbind e
  have w546 := jlk_s e545
  refine ey_rs (s0 := [jR (some a542)]) (s1 := [jR (some 76)]) (by rw [w546.1]) ?_
  obtain ⟨q547, e548, e⟩ := jbind e
  refine ey_cv (s0 := [jR (some 76)]) (s1 := []) (st' := [jI q547.1]) (cd_403 rfl) mt_403 mt_310 rfl rfl rfl ⟨Nat.lt_of_lt_of_le (by decide) w546.2.1, w546.2.2.2.1⟩ rfl (jsml_s rfl) rfl (mm_Runs.up (d := 11) (by decide) (by have w := ok_310 (L := L) (xs := xs) (b := q540.2) (m := jmf q540.2) w546.2.1 w546.2.2.1 e548; rw [w546.2.2.2.2] at w; exact w)) ?_
  obtain ⟨h549, e550, e⟩ := jbind e
  refine ey_hs (Option.some.inj e550) ?_
  refine ey_istore (cd_403 rfl) mt_403 rfl ?_
  refine ey_aload_n (cd_403 rfl) f2 ?_
  obtain ⟨a551, e552, e⟩ := jbind e
  refine ey_rs (s0 := [jR x2]) (s1 := [jR (some a551)]) (by rw [e552]) ?_
  obtain ⟨u553, e554, e⟩ := jbind e
  have w555 := jlk_s e554
  refine ey_rs (s0 := [jR (some a551)]) (s1 := [jR (some 76)]) (by rw [w555.1]) ?_
  refine ey_cv (s0 := [jR (some 76)]) (s1 := []) (st' := [jI (jd_203 (jmf h549))]) (cd_403 rfl) mt_403 mt_203 rfl rfl rfl ⟨Nat.lt_of_lt_of_le (by decide) w555.2.1, w555.2.2.2.1⟩ rfl (jsml_s rfl) rfl (mm_Runs.up (d := 1) (by decide) (by have w := ok_203 (L := L) (xs := xs) (b := h549) (m := jmf h549) w555.2.1 w555.2.2.1 ; rw [w555.2.2.2.2] at w; exact w)) ?_
  refine ey_iload (cd_403 rfl) (jup_pi (lv := (jup lv 5 (jI q540.1))) (j := 5) (v := jI q547.1) (z := q540.1) rfl) ?_
  by_cases q556 : (jw (jd_203 (jmf h549))) = (jw q540.1)
  · rw [if_pos q556] at e
    refine ey_ceq (cd_403 rfl) rfl rfl rfl q556 ?_
    refine ey_iload (cd_403 rfl) (jup_pi (lv := (jup lv 5 (jI q540.1))) (j := 5) (v := jI q547.1) (z := q540.1) rfl) ?_
    by_cases q557 : (jw q540.1) = 0
    · rw [if_pos q557] at e
      refine ey_yne (cd_403 rfl) rfl rfl (fun w => w q557) ?_
      refine ey_aload_n (cd_403 rfl) f3 ?_
      refine ey_iconst (cd_403 rfl) ?_
      obtain ⟨a558, e559, e⟩ := jbind e
      refine ey_rs (s0 := [jI 0, jR x3]) (s1 := [jI 0, jR (some a558)]) (by rw [e559]) ?_
      obtain ⟨v560, e561, e⟩ := jbind e
      refine ey_lald (cd_403 rfl) e561 ?_
      refine ey_iload (cd_403 rfl) rfl ?_
      refine ey_i2l (cd_403 rfl) ?_
      refine ey_lcmp (cd_403 rfl) ?_
      by_cases q562 : (jwl v560) = (jw q547.1)
      · rw [if_pos q562] at e
        refine ey_zeq (cd_403 rfl) rfl rfl ((jlc_eq rfl (jwl_jw _)).mpr q562) ?_
        exact jk_403_b1404 e K (jup (jup lv 5 (jI q540.1)) 6 (jI q547.1)) f0 f1 f2 f3 (jup_o rfl (jup_pi (lv := lv) (j := 4) (v := jI q540.1) (z := x4) f4))
      · rw [if_neg q562] at e
        refine ey_yeq (cd_403 rfl) rfl rfl (fun w => q562 ((jlc_eq rfl (jwl_jw _)).mp w)) ?_
        cases e
    · rw [if_neg q557] at e
      refine ey_zne (cd_403 rfl) rfl rfl q557 ?_
      exact jk_403_b1404 e K (jup (jup lv 5 (jI q540.1)) 6 (jI q547.1)) f0 f1 f2 f3 (jup_o rfl (jup_pi (lv := lv) (j := 4) (v := jI q540.1) (z := x4) f4))
  · rw [if_neg q556] at e
    refine ey_neq (cd_403 rfl) rfl rfl rfl q556 ?_
    cases e
set_option maxRecDepth 100000 in
theorem jk_403_b1460 {L : Nat} {xs : Nat → Int32} {x1 : Option Nat} {x2 : Option Nat} {x3 : Option Nat} {x4 : Int} {h : jH} {o : ((Int × jH) ⊕ jH)} {r : mm_R} (e : jd_403_b1460 L xs x1 x2 x3 x4 h = some o) (K : jsm (fun s => (∀ lv : jL, lv 0 = some (jR (some 1000000)) → lv 1 = some (jR x1) → lv 2 = some (jR x2) → lv 3 = some (jR x3) → lv 4 = some (jI s.1) → ey (mm_xt L xs) 72 403 23 lv [] s.2 r)) (fun x => (∀ lv : jL, ey (mm_xt L xs) 72 403 3175 lv [] x r)) o) : ∀ lv : jL, lv 0 = some (jR (some 1000000)) → lv 1 = some (jR x1) → lv 2 = some (jR x2) → lv 3 = some (jR x3) → lv 4 = some (jI x4) → ey (mm_xt L xs) 72 403 1460 lv [] h r := by
  intro lv f0 f1 f2 f3 f4
  unfold jd_403_b1460 at e
  refine ey_goto (cd_403 rfl) rfl ?_
  exact jk_403_b3169 e K lv f0 f1 f2 f3 f4
set_option maxRecDepth 100000 in
theorem jk_403_b1407 {L : Nat} {xs : Nat → Int32} {x1 : Option Nat} {x2 : Option Nat} {x3 : Option Nat} {x4 : Int} {h : jH} {o : ((Int × jH) ⊕ jH)} {r : mm_R} (e : jd_403_b1407 L xs x1 x2 x3 x4 h = some o) (K : jsm (fun s => (∀ lv : jL, lv 0 = some (jR (some 1000000)) → lv 1 = some (jR x1) → lv 2 = some (jR x2) → lv 3 = some (jR x3) → lv 4 = some (jI s.1) → ey (mm_xt L xs) 72 403 23 lv [] s.2 r)) (fun x => (∀ lv : jL, ey (mm_xt L xs) 72 403 3175 lv [] x r)) o) : ∀ lv : jL, lv 0 = some (jR (some 1000000)) → lv 1 = some (jR x1) → lv 2 = some (jR x2) → lv 3 = some (jR x3) → lv 4 = some (jI x4) → ey (mm_xt L xs) 72 403 1407 lv [] h r := by
  intro lv f0 f1 f2 f3 f4
  unfold jd_403_b1407 at e
  refine ey_aload_n (cd_403 rfl) f1 ?_
  refine ey_aload_n (cd_403 rfl) f0 ?_
  refine ey_iload (cd_403 rfl) f4 ?_
  refine ey_iconst (cd_403 rfl) ?_
  refine ey_iadd (cd_403 rfl) ?_
  obtain ⟨v564, e565, e⟩ := jbind e
  refine ey_iasc (cd_403 rfl) e565 ?_
  refine ey_aload_n (cd_403 rfl) f3 ?_
  obtain ⟨q566, e567, e⟩ := jbind e
  refine ey_cs (s0 := [jR x3, jI v564, jR x1]) (s1 := []) (st' := [jI q566.1]) (cd_403 rfl) mt_403 mt_379 rfl (by decide) rfl rfl (jsml_s rfl) rfl (mm_Runs.up (d := 3) (by decide) (ok_379 e567)) ?_
  refine ey_istore (cd_403 rfl) mt_403 rfl ?_
  refine ey_aload_n (cd_403 rfl) f2 ?_
  refine ey_aload_n (cd_403 rfl) f0 ?_
  refine ey_iload (cd_403 rfl) (jup_pi (lv := lv) (j := 4) (v := jI q566.1) (z := x4) f4) ?_
  refine ey_iconst (cd_403 rfl) ?_
  refine ey_iadd (cd_403 rfl) ?_
  obtain ⟨v568, e569, e⟩ := jbind e
  refine ey_iasc (cd_403 rfl) e569 ?_
  obtain ⟨a570, e571, e⟩ := jbind e
  refine ey_rs (s0 := [jI v568, jR x2]) (s1 := [jI v568, jR (some a570)]) (by rw [e571]) ?_
  obtain ⟨u572, e573, e⟩ := jbind e
  have w574 := jlk_s e573
  refine ey_rs (s0 := [jI v568, jR (some a570)]) (s1 := [jI v568, jR (some 76)]) (by rw [w574.1]) ?_
  obtain ⟨q575, e576, e⟩ := jbind e
  refine ey_cv (s0 := [jI v568, jR (some 76)]) (s1 := []) (st' := [jI q575.1]) (cd_403 rfl) mt_403 mt_312 rfl rfl rfl ⟨Nat.lt_of_lt_of_le (by decide) w574.2.1, w574.2.2.2.1⟩ rfl (jsml_s rfl) rfl (mm_Runs.up (d := 3) (by decide) (by have w := ok_312 (L := L) (xs := xs) (b := q566.2) (m := jmf q566.2) w574.2.1 w574.2.2.1 e576; rw [w574.2.2.2.2] at w; exact w)) ?_
  obtain ⟨h577, e578, e⟩ := jbind e
  refine ey_hs (Option.some.inj e578) ?_
  refine ey_istore (cd_403 rfl) mt_403 rfl ?_
  refine ey_aload_n (cd_403 rfl) f2 ?_
  obtain ⟨a579, e580, e⟩ := jbind e
  refine ey_rs (s0 := [jR x2]) (s1 := [jR (some a579)]) (by rw [e580]) ?_
  obtain ⟨u581, e582, e⟩ := jbind e
  have w583 := jlk_s e582
  refine ey_rs (s0 := [jR (some a579)]) (s1 := [jR (some 76)]) (by rw [w583.1]) ?_
  refine ey_cv (s0 := [jR (some 76)]) (s1 := []) (st' := [jI (jd_203 (jmf h577))]) (cd_403 rfl) mt_403 mt_203 rfl rfl rfl ⟨Nat.lt_of_lt_of_le (by decide) w583.2.1, w583.2.2.2.1⟩ rfl (jsml_s rfl) rfl (mm_Runs.up (d := 1) (by decide) (by have w := ok_203 (L := L) (xs := xs) (b := h577) (m := jmf h577) w583.2.1 w583.2.2.1 ; rw [w583.2.2.2.2] at w; exact w)) ?_
  refine ey_iload (cd_403 rfl) (jup_pi (lv := (jup lv 5 (jI q566.1))) (j := 5) (v := jI q575.1) (z := q566.1) rfl) ?_
  by_cases q584 : (jw (jd_203 (jmf h577))) = (jw q566.1)
  · rw [if_pos q584] at e
    refine ey_ceq (cd_403 rfl) rfl rfl rfl q584 ?_
    refine ey_iload (cd_403 rfl) (jup_pi (lv := (jup lv 5 (jI q566.1))) (j := 5) (v := jI q575.1) (z := q566.1) rfl) ?_
    by_cases q585 : (jw q566.1) = 0
    · rw [if_pos q585] at e
      refine ey_yne (cd_403 rfl) rfl rfl (fun w => w q585) ?_
      refine ey_aload_n (cd_403 rfl) f3 ?_
      refine ey_iconst (cd_403 rfl) ?_
      obtain ⟨a586, e587, e⟩ := jbind e
      refine ey_rs (s0 := [jI 0, jR x3]) (s1 := [jI 0, jR (some a586)]) (by rw [e587]) ?_
      obtain ⟨v588, e589, e⟩ := jbind e
      refine ey_lald (cd_403 rfl) e589 ?_
      refine ey_iload (cd_403 rfl) rfl ?_
      refine ey_i2l (cd_403 rfl) ?_
      refine ey_lcmp (cd_403 rfl) ?_
      by_cases q590 : (jwl v588) = (jw q575.1)
      · rw [if_pos q590] at e
        refine ey_zeq (cd_403 rfl) rfl rfl ((jlc_eq rfl (jwl_jw _)).mpr q590) ?_
        exact jk_403_b1460 e K (jup (jup lv 5 (jI q566.1)) 6 (jI q575.1)) f0 f1 f2 f3 (jup_o rfl (jup_pi (lv := lv) (j := 4) (v := jI q566.1) (z := x4) f4))
      · rw [if_neg q590] at e
        refine ey_yeq (cd_403 rfl) rfl rfl (fun w => q590 ((jlc_eq rfl (jwl_jw _)).mp w)) ?_
        cases e
    · rw [if_neg q585] at e
      refine ey_zne (cd_403 rfl) rfl rfl q585 ?_
      exact jk_403_b1460 e K (jup (jup lv 5 (jI q566.1)) 6 (jI q575.1)) f0 f1 f2 f3 (jup_o rfl (jup_pi (lv := lv) (j := 4) (v := jI q566.1) (z := x4) f4))
  · rw [if_neg q584] at e
    refine ey_neq (cd_403 rfl) rfl rfl rfl q584 ?_
    cases e
set_option maxRecDepth 100000 in
theorem jk_403_b1528 {L : Nat} {xs : Nat → Int32} {x1 : Option Nat} {x2 : Option Nat} {x3 : Option Nat} {x4 : Int} {h : jH} {o : ((Int × jH) ⊕ jH)} {r : mm_R} (e : jd_403_b1528 L xs x1 x2 x3 x4 h = some o) (K : jsm (fun s => (∀ lv : jL, lv 0 = some (jR (some 1000000)) → lv 1 = some (jR x1) → lv 2 = some (jR x2) → lv 3 = some (jR x3) → lv 4 = some (jI s.1) → ey (mm_xt L xs) 72 403 23 lv [] s.2 r)) (fun x => (∀ lv : jL, ey (mm_xt L xs) 72 403 3175 lv [] x r)) o) : ∀ lv : jL, lv 0 = some (jR (some 1000000)) → lv 1 = some (jR x1) → lv 2 = some (jR x2) → lv 3 = some (jR x3) → lv 4 = some (jI x4) → ey (mm_xt L xs) 72 403 1528 lv [] h r := by
  intro lv f0 f1 f2 f3 f4
  unfold jd_403_b1528 at e
  refine ey_goto (cd_403 rfl) rfl ?_
  exact jk_403_b3169 e K lv f0 f1 f2 f3 f4
set_option maxRecDepth 100000 in
theorem jk_403_b1463 {L : Nat} {xs : Nat → Int32} {x1 : Option Nat} {x2 : Option Nat} {x3 : Option Nat} {x4 : Int} {h : jH} {o : ((Int × jH) ⊕ jH)} {r : mm_R} (e : jd_403_b1463 L xs x1 x2 x3 x4 h = some o) (K : jsm (fun s => (∀ lv : jL, lv 0 = some (jR (some 1000000)) → lv 1 = some (jR x1) → lv 2 = some (jR x2) → lv 3 = some (jR x3) → lv 4 = some (jI s.1) → ey (mm_xt L xs) 72 403 23 lv [] s.2 r)) (fun x => (∀ lv : jL, ey (mm_xt L xs) 72 403 3175 lv [] x r)) o) : ∀ lv : jL, lv 0 = some (jR (some 1000000)) → lv 1 = some (jR x1) → lv 2 = some (jR x2) → lv 3 = some (jR x3) → lv 4 = some (jI x4) → ey (mm_xt L xs) 72 403 1463 lv [] h r := by
  intro lv f0 f1 f2 f3 f4
  unfold jd_403_b1463 at e
  refine ey_aload_n (cd_403 rfl) f1 ?_
  refine ey_aload_n (cd_403 rfl) f0 ?_
  refine ey_iload (cd_403 rfl) f4 ?_
  refine ey_iconst (cd_403 rfl) ?_
  refine ey_iadd (cd_403 rfl) ?_
  obtain ⟨v592, e593, e⟩ := jbind e
  refine ey_iasc (cd_403 rfl) e593 ?_
  refine ey_aload_n (cd_403 rfl) f0 ?_
  refine ey_iload (cd_403 rfl) f4 ?_
  refine ey_iconst (cd_403 rfl) ?_
  refine ey_iadd (cd_403 rfl) ?_
  obtain ⟨v594, e595, e⟩ := jbind e
  refine ey_iasc (cd_403 rfl) e595 ?_
  refine ey_aload_n (cd_403 rfl) f3 ?_
  obtain ⟨q596, e597, e⟩ := jbind e
  refine ey_cs (s0 := [jR x3, jI v594, jI v592, jR x1]) (s1 := []) (st' := [jI q596.1]) (cd_403 rfl) mt_403 mt_380 rfl (by decide) rfl rfl (jsml_s rfl) rfl (mm_Runs.up (d := 3) (by decide) (ok_380 e597)) ?_
  refine ey_istore (cd_403 rfl) mt_403 rfl ?_
  refine ey_aload_n (cd_403 rfl) f2 ?_
  refine ey_aload_n (cd_403 rfl) f0 ?_
  refine ey_iload (cd_403 rfl) (jup_pi (lv := lv) (j := 4) (v := jI q596.1) (z := x4) f4) ?_
  refine ey_iconst (cd_403 rfl) ?_
  refine ey_iadd (cd_403 rfl) ?_
  obtain ⟨v598, e599, e⟩ := jbind e
  refine ey_iasc (cd_403 rfl) e599 ?_
  refine ey_aload_n (cd_403 rfl) f0 ?_
  refine ey_iload (cd_403 rfl) (jup_pi (lv := lv) (j := 4) (v := jI q596.1) (z := x4) f4) ?_
  refine ey_iconst (cd_403 rfl) ?_
  refine ey_iadd (cd_403 rfl) ?_
  obtain ⟨v600, e601, e⟩ := jbind e
  refine ey_iasc (cd_403 rfl) e601 ?_
  obtain ⟨a602, e603, e⟩ := jbind e
  refine ey_rs (s0 := [jI v600, jI v598, jR x2]) (s1 := [jI v600, jI v598, jR (some a602)]) (by rw [e603]) ?_
  obtain ⟨u604, e605, e⟩ := jbind e
  have w606 := jlk_s e605
  refine ey_rs (s0 := [jI v600, jI v598, jR (some a602)]) (s1 := [jI v600, jI v598, jR (some 76)]) (by rw [w606.1]) ?_
  obtain ⟨q607, e608, e⟩ := jbind e
  refine ey_cv (s0 := [jI v600, jI v598, jR (some 76)]) (s1 := []) (st' := [jI q607.1]) (cd_403 rfl) mt_403 mt_313 rfl rfl rfl ⟨Nat.lt_of_lt_of_le (by decide) w606.2.1, w606.2.2.2.1⟩ rfl (jsml_s rfl) rfl (mm_Runs.up (d := 3) (by decide) (by have w := ok_313 (L := L) (xs := xs) (b := q596.2) (m := jmf q596.2) w606.2.1 w606.2.2.1 e608; rw [w606.2.2.2.2] at w; exact w)) ?_
  obtain ⟨h609, e610, e⟩ := jbind e
  refine ey_hs (Option.some.inj e610) ?_
  refine ey_istore (cd_403 rfl) mt_403 rfl ?_
  refine ey_aload_n (cd_403 rfl) f2 ?_
  obtain ⟨a611, e612, e⟩ := jbind e
  refine ey_rs (s0 := [jR x2]) (s1 := [jR (some a611)]) (by rw [e612]) ?_
  obtain ⟨u613, e614, e⟩ := jbind e
  have w615 := jlk_s e614
  refine ey_rs (s0 := [jR (some a611)]) (s1 := [jR (some 76)]) (by rw [w615.1]) ?_
  refine ey_cv (s0 := [jR (some 76)]) (s1 := []) (st' := [jI (jd_203 (jmf h609))]) (cd_403 rfl) mt_403 mt_203 rfl rfl rfl ⟨Nat.lt_of_lt_of_le (by decide) w615.2.1, w615.2.2.2.1⟩ rfl (jsml_s rfl) rfl (mm_Runs.up (d := 1) (by decide) (by have w := ok_203 (L := L) (xs := xs) (b := h609) (m := jmf h609) w615.2.1 w615.2.2.1 ; rw [w615.2.2.2.2] at w; exact w)) ?_
  refine ey_iload (cd_403 rfl) (jup_pi (lv := (jup lv 5 (jI q596.1))) (j := 5) (v := jI q607.1) (z := q596.1) rfl) ?_
  by_cases q616 : (jw (jd_203 (jmf h609))) = (jw q596.1)
  · rw [if_pos q616] at e
    refine ey_ceq (cd_403 rfl) rfl rfl rfl q616 ?_
    refine ey_iload (cd_403 rfl) (jup_pi (lv := (jup lv 5 (jI q596.1))) (j := 5) (v := jI q607.1) (z := q596.1) rfl) ?_
    by_cases q617 : (jw q596.1) = 0
    · rw [if_pos q617] at e
      refine ey_yne (cd_403 rfl) rfl rfl (fun w => w q617) ?_
      refine ey_aload_n (cd_403 rfl) f3 ?_
      refine ey_iconst (cd_403 rfl) ?_
      obtain ⟨a618, e619, e⟩ := jbind e
      refine ey_rs (s0 := [jI 0, jR x3]) (s1 := [jI 0, jR (some a618)]) (by rw [e619]) ?_
      obtain ⟨v620, e621, e⟩ := jbind e
      refine ey_lald (cd_403 rfl) e621 ?_
      refine ey_iload (cd_403 rfl) rfl ?_
      refine ey_i2l (cd_403 rfl) ?_
      refine ey_lcmp (cd_403 rfl) ?_
      by_cases q622 : (jwl v620) = (jw q607.1)
      · rw [if_pos q622] at e
        refine ey_zeq (cd_403 rfl) rfl rfl ((jlc_eq rfl (jwl_jw _)).mpr q622) ?_
        exact jk_403_b1528 e K (jup (jup lv 5 (jI q596.1)) 6 (jI q607.1)) f0 f1 f2 f3 (jup_o rfl (jup_pi (lv := lv) (j := 4) (v := jI q596.1) (z := x4) f4))
      · rw [if_neg q622] at e
        refine ey_yeq (cd_403 rfl) rfl rfl (fun w => q622 ((jlc_eq rfl (jwl_jw _)).mp w)) ?_
        cases e
    · rw [if_neg q617] at e
      refine ey_zne (cd_403 rfl) rfl rfl q617 ?_
      exact jk_403_b1528 e K (jup (jup lv 5 (jI q596.1)) 6 (jI q607.1)) f0 f1 f2 f3 (jup_o rfl (jup_pi (lv := lv) (j := 4) (v := jI q596.1) (z := x4) f4))
  · rw [if_neg q616] at e
    refine ey_neq (cd_403 rfl) rfl rfl rfl q616 ?_
    cases e
set_option maxRecDepth 100000 in
theorem jk_403_b1608 {L : Nat} {xs : Nat → Int32} {x1 : Option Nat} {x2 : Option Nat} {x3 : Option Nat} {x4 : Int} {h : jH} {o : ((Int × jH) ⊕ jH)} {r : mm_R} (e : jd_403_b1608 L xs x1 x2 x3 x4 h = some o) (K : jsm (fun s => (∀ lv : jL, lv 0 = some (jR (some 1000000)) → lv 1 = some (jR x1) → lv 2 = some (jR x2) → lv 3 = some (jR x3) → lv 4 = some (jI s.1) → ey (mm_xt L xs) 72 403 23 lv [] s.2 r)) (fun x => (∀ lv : jL, ey (mm_xt L xs) 72 403 3175 lv [] x r)) o) : ∀ lv : jL, lv 0 = some (jR (some 1000000)) → lv 1 = some (jR x1) → lv 2 = some (jR x2) → lv 3 = some (jR x3) → lv 4 = some (jI x4) → ey (mm_xt L xs) 72 403 1608 lv [] h r := by
  intro lv f0 f1 f2 f3 f4
  unfold jd_403_b1608 at e
  refine ey_goto (cd_403 rfl) rfl ?_
  exact jk_403_b3169 e K lv f0 f1 f2 f3 f4
set_option maxRecDepth 100000 in
theorem jk_403_b1531 {L : Nat} {xs : Nat → Int32} {x1 : Option Nat} {x2 : Option Nat} {x3 : Option Nat} {x4 : Int} {h : jH} {o : ((Int × jH) ⊕ jH)} {r : mm_R} (e : jd_403_b1531 L xs x1 x2 x3 x4 h = some o) (K : jsm (fun s => (∀ lv : jL, lv 0 = some (jR (some 1000000)) → lv 1 = some (jR x1) → lv 2 = some (jR x2) → lv 3 = some (jR x3) → lv 4 = some (jI s.1) → ey (mm_xt L xs) 72 403 23 lv [] s.2 r)) (fun x => (∀ lv : jL, ey (mm_xt L xs) 72 403 3175 lv [] x r)) o) : ∀ lv : jL, lv 0 = some (jR (some 1000000)) → lv 1 = some (jR x1) → lv 2 = some (jR x2) → lv 3 = some (jR x3) → lv 4 = some (jI x4) → ey (mm_xt L xs) 72 403 1531 lv [] h r := by
  intro lv f0 f1 f2 f3 f4
  unfold jd_403_b1531 at e
  refine ey_aload_n (cd_403 rfl) f1 ?_
  refine ey_aload_n (cd_403 rfl) f0 ?_
  refine ey_iload (cd_403 rfl) f4 ?_
  refine ey_iconst (cd_403 rfl) ?_
  refine ey_iadd (cd_403 rfl) ?_
  obtain ⟨v624, e625, e⟩ := jbind e
  refine ey_iasc (cd_403 rfl) e625 ?_
  refine ey_aload_n (cd_403 rfl) f0 ?_
  refine ey_iload (cd_403 rfl) f4 ?_
  refine ey_iconst (cd_403 rfl) ?_
  refine ey_iadd (cd_403 rfl) ?_
  obtain ⟨v626, e627, e⟩ := jbind e
  refine ey_iasc (cd_403 rfl) e627 ?_
  refine ey_aload_n (cd_403 rfl) f0 ?_
  refine ey_iload (cd_403 rfl) f4 ?_
  refine ey_iconst (cd_403 rfl) ?_
  refine ey_iadd (cd_403 rfl) ?_
  obtain ⟨v628, e629, e⟩ := jbind e
  refine ey_iasc (cd_403 rfl) e629 ?_
  refine ey_aload_n (cd_403 rfl) f3 ?_
  obtain ⟨q630, e631, e⟩ := jbind e
  refine ey_cs (s0 := [jR x3, jI v628, jI v626, jI v624, jR x1]) (s1 := []) (st' := [jI q630.1]) (cd_403 rfl) mt_403 mt_381 rfl (by decide) rfl rfl (jsml_s rfl) rfl (mm_Runs.up (d := 3) (by decide) (ok_381 e631)) ?_
  refine ey_istore (cd_403 rfl) mt_403 rfl ?_
  refine ey_aload_n (cd_403 rfl) f2 ?_
  refine ey_aload_n (cd_403 rfl) f0 ?_
  refine ey_iload (cd_403 rfl) (jup_pi (lv := lv) (j := 4) (v := jI q630.1) (z := x4) f4) ?_
  refine ey_iconst (cd_403 rfl) ?_
  refine ey_iadd (cd_403 rfl) ?_
  obtain ⟨v632, e633, e⟩ := jbind e
  refine ey_iasc (cd_403 rfl) e633 ?_
  refine ey_aload_n (cd_403 rfl) f0 ?_
  refine ey_iload (cd_403 rfl) (jup_pi (lv := lv) (j := 4) (v := jI q630.1) (z := x4) f4) ?_
  refine ey_iconst (cd_403 rfl) ?_
  refine ey_iadd (cd_403 rfl) ?_
  obtain ⟨v634, e635, e⟩ := jbind e
  refine ey_iasc (cd_403 rfl) e635 ?_
  refine ey_aload_n (cd_403 rfl) f0 ?_
  refine ey_iload (cd_403 rfl) (jup_pi (lv := lv) (j := 4) (v := jI q630.1) (z := x4) f4) ?_
  refine ey_iconst (cd_403 rfl) ?_
  refine ey_iadd (cd_403 rfl) ?_
  obtain ⟨v636, e637, e⟩ := jbind e
  refine ey_iasc (cd_403 rfl) e637 ?_
  obtain ⟨a638, e639, e⟩ := jbind e
  refine ey_rs (s0 := [jI v636, jI v634, jI v632, jR x2]) (s1 := [jI v636, jI v634, jI v632, jR (some a638)]) (by rw [e639]) ?_
  obtain ⟨u640, e641, e⟩ := jbind e
  have w642 := jlk_s e641
  refine ey_rs (s0 := [jI v636, jI v634, jI v632, jR (some a638)]) (s1 := [jI v636, jI v634, jI v632, jR (some 76)]) (by rw [w642.1]) ?_
  obtain ⟨q643, e644, e⟩ := jbind e
  refine ey_cv (s0 := [jI v636, jI v634, jI v632, jR (some 76)]) (s1 := []) (st' := [jI q643.1]) (cd_403 rfl) mt_403 mt_315 rfl rfl rfl ⟨Nat.lt_of_lt_of_le (by decide) w642.2.1, w642.2.2.2.1⟩ rfl (jsml_s rfl) rfl (mm_Runs.up (d := 4) (by decide) (by have w := ok_315 (L := L) (xs := xs) (b := q630.2) (m := jmf q630.2) w642.2.1 w642.2.2.1 e644; rw [w642.2.2.2.2] at w; exact w)) ?_
  obtain ⟨h645, e646, e⟩ := jbind e
  refine ey_hs (Option.some.inj e646) ?_
  refine ey_istore (cd_403 rfl) mt_403 rfl ?_
  refine ey_aload_n (cd_403 rfl) f2 ?_
  obtain ⟨a647, e648, e⟩ := jbind e
  refine ey_rs (s0 := [jR x2]) (s1 := [jR (some a647)]) (by rw [e648]) ?_
  obtain ⟨u649, e650, e⟩ := jbind e
  have w651 := jlk_s e650
  refine ey_rs (s0 := [jR (some a647)]) (s1 := [jR (some 76)]) (by rw [w651.1]) ?_
  refine ey_cv (s0 := [jR (some 76)]) (s1 := []) (st' := [jI (jd_203 (jmf h645))]) (cd_403 rfl) mt_403 mt_203 rfl rfl rfl ⟨Nat.lt_of_lt_of_le (by decide) w651.2.1, w651.2.2.2.1⟩ rfl (jsml_s rfl) rfl (mm_Runs.up (d := 1) (by decide) (by have w := ok_203 (L := L) (xs := xs) (b := h645) (m := jmf h645) w651.2.1 w651.2.2.1 ; rw [w651.2.2.2.2] at w; exact w)) ?_
  refine ey_iload (cd_403 rfl) (jup_pi (lv := (jup lv 5 (jI q630.1))) (j := 5) (v := jI q643.1) (z := q630.1) rfl) ?_
  by_cases q652 : (jw (jd_203 (jmf h645))) = (jw q630.1)
  · rw [if_pos q652] at e
    refine ey_ceq (cd_403 rfl) rfl rfl rfl q652 ?_
    refine ey_iload (cd_403 rfl) (jup_pi (lv := (jup lv 5 (jI q630.1))) (j := 5) (v := jI q643.1) (z := q630.1) rfl) ?_
    by_cases q653 : (jw q630.1) = 0
    · rw [if_pos q653] at e
      refine ey_yne (cd_403 rfl) rfl rfl (fun w => w q653) ?_
      refine ey_aload_n (cd_403 rfl) f3 ?_
      refine ey_iconst (cd_403 rfl) ?_
      obtain ⟨a654, e655, e⟩ := jbind e
      refine ey_rs (s0 := [jI 0, jR x3]) (s1 := [jI 0, jR (some a654)]) (by rw [e655]) ?_
      obtain ⟨v656, e657, e⟩ := jbind e
      refine ey_lald (cd_403 rfl) e657 ?_
      refine ey_iload (cd_403 rfl) rfl ?_
      refine ey_i2l (cd_403 rfl) ?_
      refine ey_lcmp (cd_403 rfl) ?_
      by_cases q658 : (jwl v656) = (jw q643.1)
      · rw [if_pos q658] at e
        refine ey_zeq (cd_403 rfl) rfl rfl ((jlc_eq rfl (jwl_jw _)).mpr q658) ?_
        exact jk_403_b1608 e K (jup (jup lv 5 (jI q630.1)) 6 (jI q643.1)) f0 f1 f2 f3 (jup_o rfl (jup_pi (lv := lv) (j := 4) (v := jI q630.1) (z := x4) f4))
      · rw [if_neg q658] at e
        refine ey_yeq (cd_403 rfl) rfl rfl (fun w => q658 ((jlc_eq rfl (jwl_jw _)).mp w)) ?_
        cases e
    · rw [if_neg q653] at e
      refine ey_zne (cd_403 rfl) rfl rfl q653 ?_
      exact jk_403_b1608 e K (jup (jup lv 5 (jI q630.1)) 6 (jI q643.1)) f0 f1 f2 f3 (jup_o rfl (jup_pi (lv := lv) (j := 4) (v := jI q630.1) (z := x4) f4))
  · rw [if_neg q652] at e
    refine ey_neq (cd_403 rfl) rfl rfl rfl q652 ?_
    cases e
set_option maxRecDepth 100000 in
theorem jk_403_b1700 {L : Nat} {xs : Nat → Int32} {x1 : Option Nat} {x2 : Option Nat} {x3 : Option Nat} {x4 : Int} {h : jH} {o : ((Int × jH) ⊕ jH)} {r : mm_R} (e : jd_403_b1700 L xs x1 x2 x3 x4 h = some o) (K : jsm (fun s => (∀ lv : jL, lv 0 = some (jR (some 1000000)) → lv 1 = some (jR x1) → lv 2 = some (jR x2) → lv 3 = some (jR x3) → lv 4 = some (jI s.1) → ey (mm_xt L xs) 72 403 23 lv [] s.2 r)) (fun x => (∀ lv : jL, ey (mm_xt L xs) 72 403 3175 lv [] x r)) o) : ∀ lv : jL, lv 0 = some (jR (some 1000000)) → lv 1 = some (jR x1) → lv 2 = some (jR x2) → lv 3 = some (jR x3) → lv 4 = some (jI x4) → ey (mm_xt L xs) 72 403 1700 lv [] h r := by
  intro lv f0 f1 f2 f3 f4
  unfold jd_403_b1700 at e
  refine ey_goto (cd_403 rfl) rfl ?_
  exact jk_403_b3169 e K lv f0 f1 f2 f3 f4
set_option maxRecDepth 100000 in
theorem jk_403_b1611 {L : Nat} {xs : Nat → Int32} {x1 : Option Nat} {x2 : Option Nat} {x3 : Option Nat} {x4 : Int} {h : jH} {o : ((Int × jH) ⊕ jH)} {r : mm_R} (e : jd_403_b1611 L xs x1 x2 x3 x4 h = some o) (K : jsm (fun s => (∀ lv : jL, lv 0 = some (jR (some 1000000)) → lv 1 = some (jR x1) → lv 2 = some (jR x2) → lv 3 = some (jR x3) → lv 4 = some (jI s.1) → ey (mm_xt L xs) 72 403 23 lv [] s.2 r)) (fun x => (∀ lv : jL, ey (mm_xt L xs) 72 403 3175 lv [] x r)) o) : ∀ lv : jL, lv 0 = some (jR (some 1000000)) → lv 1 = some (jR x1) → lv 2 = some (jR x2) → lv 3 = some (jR x3) → lv 4 = some (jI x4) → ey (mm_xt L xs) 72 403 1611 lv [] h r := by
  intro lv f0 f1 f2 f3 f4
  unfold jd_403_b1611 at e
  refine ey_aload_n (cd_403 rfl) f1 ?_
  refine ey_aload_n (cd_403 rfl) f0 ?_
  refine ey_iload (cd_403 rfl) f4 ?_
  refine ey_iconst (cd_403 rfl) ?_
  refine ey_iadd (cd_403 rfl) ?_
  obtain ⟨v660, e661, e⟩ := jbind e
  refine ey_iasc (cd_403 rfl) e661 ?_
  refine ey_aload_n (cd_403 rfl) f0 ?_
  refine ey_iload (cd_403 rfl) f4 ?_
  refine ey_iconst (cd_403 rfl) ?_
  refine ey_iadd (cd_403 rfl) ?_
  obtain ⟨v662, e663, e⟩ := jbind e
  refine ey_iasc (cd_403 rfl) e663 ?_
  refine ey_aload_n (cd_403 rfl) f0 ?_
  refine ey_iload (cd_403 rfl) f4 ?_
  refine ey_iconst (cd_403 rfl) ?_
  refine ey_iadd (cd_403 rfl) ?_
  obtain ⟨v664, e665, e⟩ := jbind e
  refine ey_iasc (cd_403 rfl) e665 ?_
  refine ey_aload_n (cd_403 rfl) f0 ?_
  refine ey_iload (cd_403 rfl) f4 ?_
  refine ey_iconst (cd_403 rfl) ?_
  refine ey_iadd (cd_403 rfl) ?_
  obtain ⟨v666, e667, e⟩ := jbind e
  refine ey_iasc (cd_403 rfl) e667 ?_
  refine ey_aload_n (cd_403 rfl) f3 ?_
  obtain ⟨q668, e669, e⟩ := jbind e
  refine ey_cs (s0 := [jR x3, jI v666, jI v664, jI v662, jI v660, jR x1]) (s1 := []) (st' := [jI q668.1]) (cd_403 rfl) mt_403 mt_382 rfl (by decide) rfl rfl (jsml_s rfl) rfl (mm_Runs.up (d := 4) (by decide) (ok_382 e669)) ?_
  refine ey_istore (cd_403 rfl) mt_403 rfl ?_
  refine ey_aload_n (cd_403 rfl) f2 ?_
  refine ey_aload_n (cd_403 rfl) f0 ?_
  refine ey_iload (cd_403 rfl) (jup_pi (lv := lv) (j := 4) (v := jI q668.1) (z := x4) f4) ?_
  refine ey_iconst (cd_403 rfl) ?_
  refine ey_iadd (cd_403 rfl) ?_
  obtain ⟨v670, e671, e⟩ := jbind e
  refine ey_iasc (cd_403 rfl) e671 ?_
  refine ey_aload_n (cd_403 rfl) f0 ?_
  refine ey_iload (cd_403 rfl) (jup_pi (lv := lv) (j := 4) (v := jI q668.1) (z := x4) f4) ?_
  refine ey_iconst (cd_403 rfl) ?_
  refine ey_iadd (cd_403 rfl) ?_
  obtain ⟨v672, e673, e⟩ := jbind e
  refine ey_iasc (cd_403 rfl) e673 ?_
  refine ey_aload_n (cd_403 rfl) f0 ?_
  refine ey_iload (cd_403 rfl) (jup_pi (lv := lv) (j := 4) (v := jI q668.1) (z := x4) f4) ?_
  refine ey_iconst (cd_403 rfl) ?_
  refine ey_iadd (cd_403 rfl) ?_
  obtain ⟨v674, e675, e⟩ := jbind e
  refine ey_iasc (cd_403 rfl) e675 ?_
  refine ey_aload_n (cd_403 rfl) f0 ?_
  refine ey_iload (cd_403 rfl) (jup_pi (lv := lv) (j := 4) (v := jI q668.1) (z := x4) f4) ?_
  refine ey_iconst (cd_403 rfl) ?_
  refine ey_iadd (cd_403 rfl) ?_
  obtain ⟨v676, e677, e⟩ := jbind e
  refine ey_iasc (cd_403 rfl) e677 ?_
  obtain ⟨a678, e679, e⟩ := jbind e
  refine ey_rs (s0 := [jI v676, jI v674, jI v672, jI v670, jR x2]) (s1 := [jI v676, jI v674, jI v672, jI v670, jR (some a678)]) (by rw [e679]) ?_
  obtain ⟨u680, e681, e⟩ := jbind e
  have w682 := jlk_s e681
  refine ey_rs (s0 := [jI v676, jI v674, jI v672, jI v670, jR (some a678)]) (s1 := [jI v676, jI v674, jI v672, jI v670, jR (some 76)]) (by rw [w682.1]) ?_
  obtain ⟨q683, e684, e⟩ := jbind e
  refine ey_cv (s0 := [jI v676, jI v674, jI v672, jI v670, jR (some 76)]) (s1 := []) (st' := [jI q683.1]) (cd_403 rfl) mt_403 mt_317 rfl rfl rfl ⟨Nat.lt_of_lt_of_le (by decide) w682.2.1, w682.2.2.2.1⟩ rfl (jsml_s rfl) rfl (mm_Runs.up (d := 4) (by decide) (by have w := ok_317 (L := L) (xs := xs) (b := q668.2) (m := jmf q668.2) w682.2.1 w682.2.2.1 e684; rw [w682.2.2.2.2] at w; exact w)) ?_
  obtain ⟨h685, e686, e⟩ := jbind e
  refine ey_hs (Option.some.inj e686) ?_
  refine ey_istore (cd_403 rfl) mt_403 rfl ?_
  refine ey_aload_n (cd_403 rfl) f2 ?_
  obtain ⟨a687, e688, e⟩ := jbind e
  refine ey_rs (s0 := [jR x2]) (s1 := [jR (some a687)]) (by rw [e688]) ?_
  obtain ⟨u689, e690, e⟩ := jbind e
  have w691 := jlk_s e690
  refine ey_rs (s0 := [jR (some a687)]) (s1 := [jR (some 76)]) (by rw [w691.1]) ?_
  refine ey_cv (s0 := [jR (some 76)]) (s1 := []) (st' := [jI (jd_203 (jmf h685))]) (cd_403 rfl) mt_403 mt_203 rfl rfl rfl ⟨Nat.lt_of_lt_of_le (by decide) w691.2.1, w691.2.2.2.1⟩ rfl (jsml_s rfl) rfl (mm_Runs.up (d := 1) (by decide) (by have w := ok_203 (L := L) (xs := xs) (b := h685) (m := jmf h685) w691.2.1 w691.2.2.1 ; rw [w691.2.2.2.2] at w; exact w)) ?_
  refine ey_iload (cd_403 rfl) (jup_pi (lv := (jup lv 5 (jI q668.1))) (j := 5) (v := jI q683.1) (z := q668.1) rfl) ?_
  by_cases q692 : (jw (jd_203 (jmf h685))) = (jw q668.1)
  · rw [if_pos q692] at e
    refine ey_ceq (cd_403 rfl) rfl rfl rfl q692 ?_
    refine ey_iload (cd_403 rfl) (jup_pi (lv := (jup lv 5 (jI q668.1))) (j := 5) (v := jI q683.1) (z := q668.1) rfl) ?_
    by_cases q693 : (jw q668.1) = 0
    · rw [if_pos q693] at e
      refine ey_yne (cd_403 rfl) rfl rfl (fun w => w q693) ?_
      refine ey_aload_n (cd_403 rfl) f3 ?_
      refine ey_iconst (cd_403 rfl) ?_
      obtain ⟨a694, e695, e⟩ := jbind e
      refine ey_rs (s0 := [jI 0, jR x3]) (s1 := [jI 0, jR (some a694)]) (by rw [e695]) ?_
      obtain ⟨v696, e697, e⟩ := jbind e
      refine ey_lald (cd_403 rfl) e697 ?_
      refine ey_iload (cd_403 rfl) rfl ?_
      refine ey_i2l (cd_403 rfl) ?_
      refine ey_lcmp (cd_403 rfl) ?_
      by_cases q698 : (jwl v696) = (jw q683.1)
      · rw [if_pos q698] at e
        refine ey_zeq (cd_403 rfl) rfl rfl ((jlc_eq rfl (jwl_jw _)).mpr q698) ?_
        exact jk_403_b1700 e K (jup (jup lv 5 (jI q668.1)) 6 (jI q683.1)) f0 f1 f2 f3 (jup_o rfl (jup_pi (lv := lv) (j := 4) (v := jI q668.1) (z := x4) f4))
      · rw [if_neg q698] at e
        refine ey_yeq (cd_403 rfl) rfl rfl (fun w => q698 ((jlc_eq rfl (jwl_jw _)).mp w)) ?_
        cases e
    · rw [if_neg q693] at e
      refine ey_zne (cd_403 rfl) rfl rfl q693 ?_
      exact jk_403_b1700 e K (jup (jup lv 5 (jI q668.1)) 6 (jI q683.1)) f0 f1 f2 f3 (jup_o rfl (jup_pi (lv := lv) (j := 4) (v := jI q668.1) (z := x4) f4))
  · rw [if_neg q692] at e
    refine ey_neq (cd_403 rfl) rfl rfl rfl q692 ?_
    cases e
set_option maxRecDepth 100000 in
theorem jk_403_b1804 {L : Nat} {xs : Nat → Int32} {x1 : Option Nat} {x2 : Option Nat} {x3 : Option Nat} {x4 : Int} {h : jH} {o : ((Int × jH) ⊕ jH)} {r : mm_R} (e : jd_403_b1804 L xs x1 x2 x3 x4 h = some o) (K : jsm (fun s => (∀ lv : jL, lv 0 = some (jR (some 1000000)) → lv 1 = some (jR x1) → lv 2 = some (jR x2) → lv 3 = some (jR x3) → lv 4 = some (jI s.1) → ey (mm_xt L xs) 72 403 23 lv [] s.2 r)) (fun x => (∀ lv : jL, ey (mm_xt L xs) 72 403 3175 lv [] x r)) o) : ∀ lv : jL, lv 0 = some (jR (some 1000000)) → lv 1 = some (jR x1) → lv 2 = some (jR x2) → lv 3 = some (jR x3) → lv 4 = some (jI x4) → ey (mm_xt L xs) 72 403 1804 lv [] h r := by
  intro lv f0 f1 f2 f3 f4
  unfold jd_403_b1804 at e
  refine ey_goto (cd_403 rfl) rfl ?_
  exact jk_403_b3169 e K lv f0 f1 f2 f3 f4
set_option maxRecDepth 100000 in
theorem jk_403_b1703 {L : Nat} {xs : Nat → Int32} {x1 : Option Nat} {x2 : Option Nat} {x3 : Option Nat} {x4 : Int} {h : jH} {o : ((Int × jH) ⊕ jH)} {r : mm_R} (e : jd_403_b1703 L xs x1 x2 x3 x4 h = some o) (K : jsm (fun s => (∀ lv : jL, lv 0 = some (jR (some 1000000)) → lv 1 = some (jR x1) → lv 2 = some (jR x2) → lv 3 = some (jR x3) → lv 4 = some (jI s.1) → ey (mm_xt L xs) 72 403 23 lv [] s.2 r)) (fun x => (∀ lv : jL, ey (mm_xt L xs) 72 403 3175 lv [] x r)) o) : ∀ lv : jL, lv 0 = some (jR (some 1000000)) → lv 1 = some (jR x1) → lv 2 = some (jR x2) → lv 3 = some (jR x3) → lv 4 = some (jI x4) → ey (mm_xt L xs) 72 403 1703 lv [] h r := by
  intro lv f0 f1 f2 f3 f4
  unfold jd_403_b1703 at e
  refine ey_aload_n (cd_403 rfl) f1 ?_
  refine ey_aload_n (cd_403 rfl) f0 ?_
  refine ey_iload (cd_403 rfl) f4 ?_
  refine ey_iconst (cd_403 rfl) ?_
  refine ey_iadd (cd_403 rfl) ?_
  obtain ⟨v700, e701, e⟩ := jbind e
  refine ey_iasc (cd_403 rfl) e701 ?_
  refine ey_aload_n (cd_403 rfl) f0 ?_
  refine ey_iload (cd_403 rfl) f4 ?_
  refine ey_iconst (cd_403 rfl) ?_
  refine ey_iadd (cd_403 rfl) ?_
  obtain ⟨v702, e703, e⟩ := jbind e
  refine ey_iasc (cd_403 rfl) e703 ?_
  refine ey_aload_n (cd_403 rfl) f0 ?_
  refine ey_iload (cd_403 rfl) f4 ?_
  refine ey_iconst (cd_403 rfl) ?_
  refine ey_iadd (cd_403 rfl) ?_
  obtain ⟨v704, e705, e⟩ := jbind e
  refine ey_iasc (cd_403 rfl) e705 ?_
  refine ey_aload_n (cd_403 rfl) f0 ?_
  refine ey_iload (cd_403 rfl) f4 ?_
  refine ey_iconst (cd_403 rfl) ?_
  refine ey_iadd (cd_403 rfl) ?_
  obtain ⟨v706, e707, e⟩ := jbind e
  refine ey_iasc (cd_403 rfl) e707 ?_
  refine ey_aload_n (cd_403 rfl) f0 ?_
  refine ey_iload (cd_403 rfl) f4 ?_
  refine ey_iconst (cd_403 rfl) ?_
  refine ey_iadd (cd_403 rfl) ?_
  obtain ⟨v708, e709, e⟩ := jbind e
  refine ey_iasc (cd_403 rfl) e709 ?_
  refine ey_aload_n (cd_403 rfl) f3 ?_
  obtain ⟨q710, e711, e⟩ := jbind e
  refine ey_cs (s0 := [jR x3, jI v708, jI v706, jI v704, jI v702, jI v700, jR x1]) (s1 := []) (st' := [jI q710.1]) (cd_403 rfl) mt_403 mt_383 rfl (by decide) rfl rfl (jsml_s rfl) rfl (mm_Runs.up (d := 4) (by decide) (ok_383 e711)) ?_
  refine ey_istore (cd_403 rfl) mt_403 rfl ?_
  refine ey_aload_n (cd_403 rfl) f2 ?_
  refine ey_aload_n (cd_403 rfl) f0 ?_
  refine ey_iload (cd_403 rfl) (jup_pi (lv := lv) (j := 4) (v := jI q710.1) (z := x4) f4) ?_
  refine ey_iconst (cd_403 rfl) ?_
  refine ey_iadd (cd_403 rfl) ?_
  obtain ⟨v712, e713, e⟩ := jbind e
  refine ey_iasc (cd_403 rfl) e713 ?_
  refine ey_aload_n (cd_403 rfl) f0 ?_
  refine ey_iload (cd_403 rfl) (jup_pi (lv := lv) (j := 4) (v := jI q710.1) (z := x4) f4) ?_
  refine ey_iconst (cd_403 rfl) ?_
  refine ey_iadd (cd_403 rfl) ?_
  obtain ⟨v714, e715, e⟩ := jbind e
  refine ey_iasc (cd_403 rfl) e715 ?_
  refine ey_aload_n (cd_403 rfl) f0 ?_
  refine ey_iload (cd_403 rfl) (jup_pi (lv := lv) (j := 4) (v := jI q710.1) (z := x4) f4) ?_
  refine ey_iconst (cd_403 rfl) ?_
  refine ey_iadd (cd_403 rfl) ?_
  obtain ⟨v716, e717, e⟩ := jbind e
  refine ey_iasc (cd_403 rfl) e717 ?_
  refine ey_aload_n (cd_403 rfl) f0 ?_
  refine ey_iload (cd_403 rfl) (jup_pi (lv := lv) (j := 4) (v := jI q710.1) (z := x4) f4) ?_
  refine ey_iconst (cd_403 rfl) ?_
  refine ey_iadd (cd_403 rfl) ?_
  obtain ⟨v718, e719, e⟩ := jbind e
  refine ey_iasc (cd_403 rfl) e719 ?_
  refine ey_aload_n (cd_403 rfl) f0 ?_
  refine ey_iload (cd_403 rfl) (jup_pi (lv := lv) (j := 4) (v := jI q710.1) (z := x4) f4) ?_
  refine ey_iconst (cd_403 rfl) ?_
  refine ey_iadd (cd_403 rfl) ?_
  obtain ⟨v720, e721, e⟩ := jbind e
  refine ey_iasc (cd_403 rfl) e721 ?_
  obtain ⟨a722, e723, e⟩ := jbind e
  refine ey_rs (s0 := [jI v720, jI v718, jI v716, jI v714, jI v712, jR x2]) (s1 := [jI v720, jI v718, jI v716, jI v714, jI v712, jR (some a722)]) (by rw [e723]) ?_
  obtain ⟨u724, e725, e⟩ := jbind e
  have w726 := jlk_s e725
  refine ey_rs (s0 := [jI v720, jI v718, jI v716, jI v714, jI v712, jR (some a722)]) (s1 := [jI v720, jI v718, jI v716, jI v714, jI v712, jR (some 76)]) (by rw [w726.1]) ?_
  obtain ⟨q727, e728, e⟩ := jbind e
  refine ey_cv (s0 := [jI v720, jI v718, jI v716, jI v714, jI v712, jR (some 76)]) (s1 := []) (st' := [jI q727.1]) (cd_403 rfl) mt_403 mt_321 rfl rfl rfl ⟨Nat.lt_of_lt_of_le (by decide) w726.2.1, w726.2.2.2.1⟩ rfl (jsml_s rfl) rfl (mm_Runs.up (d := 5) (by decide) (by have w := ok_321 (L := L) (xs := xs) (b := q710.2) (m := jmf q710.2) w726.2.1 w726.2.2.1 e728; rw [w726.2.2.2.2] at w; exact w)) ?_
  obtain ⟨h729, e730, e⟩ := jbind e
  refine ey_hs (Option.some.inj e730) ?_
  refine ey_istore (cd_403 rfl) mt_403 rfl ?_
  refine ey_aload_n (cd_403 rfl) f2 ?_
  obtain ⟨a731, e732, e⟩ := jbind e
  refine ey_rs (s0 := [jR x2]) (s1 := [jR (some a731)]) (by rw [e732]) ?_
  obtain ⟨u733, e734, e⟩ := jbind e
  have w735 := jlk_s e734
  refine ey_rs (s0 := [jR (some a731)]) (s1 := [jR (some 76)]) (by rw [w735.1]) ?_
  refine ey_cv (s0 := [jR (some 76)]) (s1 := []) (st' := [jI (jd_203 (jmf h729))]) (cd_403 rfl) mt_403 mt_203 rfl rfl rfl ⟨Nat.lt_of_lt_of_le (by decide) w735.2.1, w735.2.2.2.1⟩ rfl (jsml_s rfl) rfl (mm_Runs.up (d := 1) (by decide) (by have w := ok_203 (L := L) (xs := xs) (b := h729) (m := jmf h729) w735.2.1 w735.2.2.1 ; rw [w735.2.2.2.2] at w; exact w)) ?_
  refine ey_iload (cd_403 rfl) (jup_pi (lv := (jup lv 5 (jI q710.1))) (j := 5) (v := jI q727.1) (z := q710.1) rfl) ?_
  by_cases q736 : (jw (jd_203 (jmf h729))) = (jw q710.1)
  · rw [if_pos q736] at e
    refine ey_ceq (cd_403 rfl) rfl rfl rfl q736 ?_
    refine ey_iload (cd_403 rfl) (jup_pi (lv := (jup lv 5 (jI q710.1))) (j := 5) (v := jI q727.1) (z := q710.1) rfl) ?_
    by_cases q737 : (jw q710.1) = 0
    · rw [if_pos q737] at e
      refine ey_yne (cd_403 rfl) rfl rfl (fun w => w q737) ?_
      refine ey_aload_n (cd_403 rfl) f3 ?_
      refine ey_iconst (cd_403 rfl) ?_
      obtain ⟨a738, e739, e⟩ := jbind e
      refine ey_rs (s0 := [jI 0, jR x3]) (s1 := [jI 0, jR (some a738)]) (by rw [e739]) ?_
      obtain ⟨v740, e741, e⟩ := jbind e
      refine ey_lald (cd_403 rfl) e741 ?_
      refine ey_iload (cd_403 rfl) rfl ?_
      refine ey_i2l (cd_403 rfl) ?_
      refine ey_lcmp (cd_403 rfl) ?_
      by_cases q742 : (jwl v740) = (jw q727.1)
      · rw [if_pos q742] at e
        refine ey_zeq (cd_403 rfl) rfl rfl ((jlc_eq rfl (jwl_jw _)).mpr q742) ?_
        exact jk_403_b1804 e K (jup (jup lv 5 (jI q710.1)) 6 (jI q727.1)) f0 f1 f2 f3 (jup_o rfl (jup_pi (lv := lv) (j := 4) (v := jI q710.1) (z := x4) f4))
      · rw [if_neg q742] at e
        refine ey_yeq (cd_403 rfl) rfl rfl (fun w => q742 ((jlc_eq rfl (jwl_jw _)).mp w)) ?_
        cases e
    · rw [if_neg q737] at e
      refine ey_zne (cd_403 rfl) rfl rfl q737 ?_
      exact jk_403_b1804 e K (jup (jup lv 5 (jI q710.1)) 6 (jI q727.1)) f0 f1 f2 f3 (jup_o rfl (jup_pi (lv := lv) (j := 4) (v := jI q710.1) (z := x4) f4))
  · rw [if_neg q736] at e
    refine ey_neq (cd_403 rfl) rfl rfl rfl q736 ?_
    cases e
set_option maxRecDepth 100000 in
theorem jk_403_b1915 {L : Nat} {xs : Nat → Int32} {x1 : Option Nat} {x2 : Option Nat} {x3 : Option Nat} {x4 : Int} {h : jH} {o : ((Int × jH) ⊕ jH)} {r : mm_R} (e : jd_403_b1915 L xs x1 x2 x3 x4 h = some o) (K : jsm (fun s => (∀ lv : jL, lv 0 = some (jR (some 1000000)) → lv 1 = some (jR x1) → lv 2 = some (jR x2) → lv 3 = some (jR x3) → lv 4 = some (jI s.1) → ey (mm_xt L xs) 72 403 23 lv [] s.2 r)) (fun x => (∀ lv : jL, ey (mm_xt L xs) 72 403 3175 lv [] x r)) o) : ∀ lv : jL, lv 0 = some (jR (some 1000000)) → lv 1 = some (jR x1) → lv 2 = some (jR x2) → lv 3 = some (jR x3) → lv 4 = some (jI x4) → ey (mm_xt L xs) 72 403 1915 lv [] h r := by
  intro lv f0 f1 f2 f3 f4
  unfold jd_403_b1915 at e
  refine ey_goto (cd_403 rfl) rfl ?_
  exact jk_403_b3169 e K lv f0 f1 f2 f3 f4
set_option maxRecDepth 100000 in
theorem jk_403_b1807 {L : Nat} {xs : Nat → Int32} {x1 : Option Nat} {x2 : Option Nat} {x3 : Option Nat} {x4 : Int} {h : jH} {o : ((Int × jH) ⊕ jH)} {r : mm_R} (e : jd_403_b1807 L xs x1 x2 x3 x4 h = some o) (K : jsm (fun s => (∀ lv : jL, lv 0 = some (jR (some 1000000)) → lv 1 = some (jR x1) → lv 2 = some (jR x2) → lv 3 = some (jR x3) → lv 4 = some (jI s.1) → ey (mm_xt L xs) 72 403 23 lv [] s.2 r)) (fun x => (∀ lv : jL, ey (mm_xt L xs) 72 403 3175 lv [] x r)) o) : ∀ lv : jL, lv 0 = some (jR (some 1000000)) → lv 1 = some (jR x1) → lv 2 = some (jR x2) → lv 3 = some (jR x3) → lv 4 = some (jI x4) → ey (mm_xt L xs) 72 403 1807 lv [] h r := by
  intro lv f0 f1 f2 f3 f4
  unfold jd_403_b1807 at e
  refine ey_aload_n (cd_403 rfl) f1 ?_
  refine ey_aload_n (cd_403 rfl) f0 ?_
  refine ey_iload (cd_403 rfl) f4 ?_
  refine ey_iconst (cd_403 rfl) ?_
  refine ey_iadd (cd_403 rfl) ?_
  obtain ⟨v744, e745, e⟩ := jbind e
  refine ey_iasc (cd_403 rfl) e745 ?_
  refine ey_aload_n (cd_403 rfl) f0 ?_
  refine ey_iload (cd_403 rfl) f4 ?_
  refine ey_iconst (cd_403 rfl) ?_
  refine ey_iadd (cd_403 rfl) ?_
  obtain ⟨v746, e747, e⟩ := jbind e
  refine ey_iasc (cd_403 rfl) e747 ?_
  refine ey_aload_n (cd_403 rfl) f0 ?_
  refine ey_iload (cd_403 rfl) f4 ?_
  refine ey_iconst (cd_403 rfl) ?_
  refine ey_iadd (cd_403 rfl) ?_
  obtain ⟨v748, e749, e⟩ := jbind e
  refine ey_iasc (cd_403 rfl) e749 ?_
  refine ey_aload_n (cd_403 rfl) f0 ?_
  refine ey_iload (cd_403 rfl) f4 ?_
  refine ey_iconst (cd_403 rfl) ?_
  refine ey_iadd (cd_403 rfl) ?_
  obtain ⟨v750, e751, e⟩ := jbind e
  refine ey_iasc (cd_403 rfl) e751 ?_
  refine ey_aload_n (cd_403 rfl) f0 ?_
  refine ey_iload (cd_403 rfl) f4 ?_
  refine ey_iconst (cd_403 rfl) ?_
  refine ey_iadd (cd_403 rfl) ?_
  obtain ⟨v752, e753, e⟩ := jbind e
  refine ey_iasc (cd_403 rfl) e753 ?_
  refine ey_aload_n (cd_403 rfl) f3 ?_
  obtain ⟨q754, e755, e⟩ := jbind e
  refine ey_cs (s0 := [jR x3, jI v752, jI v750, jI v748, jI v746, jI v744, jR x1]) (s1 := []) (st' := [jI q754.1]) (cd_403 rfl) mt_403 mt_384 rfl (by decide) rfl rfl (jsml_s rfl) rfl (mm_Runs.up (d := 4) (by decide) (ok_384 e755)) ?_
  refine ey_istore (cd_403 rfl) mt_403 rfl ?_
  refine ey_aload_n (cd_403 rfl) f2 ?_
  refine ey_aload_n (cd_403 rfl) f0 ?_
  refine ey_iload (cd_403 rfl) (jup_pi (lv := lv) (j := 4) (v := jI q754.1) (z := x4) f4) ?_
  refine ey_iconst (cd_403 rfl) ?_
  refine ey_iadd (cd_403 rfl) ?_
  obtain ⟨v756, e757, e⟩ := jbind e
  refine ey_iasc (cd_403 rfl) e757 ?_
  refine ey_aload_n (cd_403 rfl) f0 ?_
  refine ey_iload (cd_403 rfl) (jup_pi (lv := lv) (j := 4) (v := jI q754.1) (z := x4) f4) ?_
  refine ey_iconst (cd_403 rfl) ?_
  refine ey_iadd (cd_403 rfl) ?_
  obtain ⟨v758, e759, e⟩ := jbind e
  refine ey_iasc (cd_403 rfl) e759 ?_
  refine ey_aload_n (cd_403 rfl) f0 ?_
  refine ey_iload (cd_403 rfl) (jup_pi (lv := lv) (j := 4) (v := jI q754.1) (z := x4) f4) ?_
  refine ey_iconst (cd_403 rfl) ?_
  refine ey_iadd (cd_403 rfl) ?_
  obtain ⟨v760, e761, e⟩ := jbind e
  refine ey_iasc (cd_403 rfl) e761 ?_
  refine ey_aload_n (cd_403 rfl) f0 ?_
  refine ey_iload (cd_403 rfl) (jup_pi (lv := lv) (j := 4) (v := jI q754.1) (z := x4) f4) ?_
  refine ey_iconst (cd_403 rfl) ?_
  refine ey_iadd (cd_403 rfl) ?_
  obtain ⟨v762, e763, e⟩ := jbind e
  refine ey_iasc (cd_403 rfl) e763 ?_
  refine ey_aload_n (cd_403 rfl) f0 ?_
  refine ey_iload (cd_403 rfl) (jup_pi (lv := lv) (j := 4) (v := jI q754.1) (z := x4) f4) ?_
  refine ey_iconst (cd_403 rfl) ?_
  refine ey_iadd (cd_403 rfl) ?_
  obtain ⟨v764, e765, e⟩ := jbind e
  refine ey_iasc (cd_403 rfl) e765 ?_
  obtain ⟨a766, e767, e⟩ := jbind e
  refine ey_rs (s0 := [jI v764, jI v762, jI v760, jI v758, jI v756, jR x2]) (s1 := [jI v764, jI v762, jI v760, jI v758, jI v756, jR (some a766)]) (by rw [e767]) ?_
  obtain ⟨u768, e769, e⟩ := jbind e
  have w770 := jlk_s e769
  refine ey_rs (s0 := [jI v764, jI v762, jI v760, jI v758, jI v756, jR (some a766)]) (s1 := [jI v764, jI v762, jI v760, jI v758, jI v756, jR (some 76)]) (by rw [w770.1]) ?_
  obtain ⟨q771, e772, e⟩ := jbind e
  refine ey_cv (s0 := [jI v764, jI v762, jI v760, jI v758, jI v756, jR (some 76)]) (s1 := []) (st' := [jI q771.1]) (cd_403 rfl) mt_403 mt_322 rfl rfl rfl ⟨Nat.lt_of_lt_of_le (by decide) w770.2.1, w770.2.2.2.1⟩ rfl (jsml_s rfl) rfl (mm_Runs.up (d := 5) (by decide) (by have w := ok_322 (L := L) (xs := xs) (b := q754.2) (m := jmf q754.2) w770.2.1 w770.2.2.1 e772; rw [w770.2.2.2.2] at w; exact w)) ?_
  obtain ⟨h773, e774, e⟩ := jbind e
  refine ey_hs (Option.some.inj e774) ?_
  refine ey_istore (cd_403 rfl) mt_403 rfl ?_
  refine ey_aload_n (cd_403 rfl) f2 ?_
  obtain ⟨a775, e776, e⟩ := jbind e
  refine ey_rs (s0 := [jR x2]) (s1 := [jR (some a775)]) (by rw [e776]) ?_
  obtain ⟨u777, e778, e⟩ := jbind e
  have w779 := jlk_s e778
  refine ey_rs (s0 := [jR (some a775)]) (s1 := [jR (some 76)]) (by rw [w779.1]) ?_
  refine ey_cv (s0 := [jR (some 76)]) (s1 := []) (st' := [jI (jd_203 (jmf h773))]) (cd_403 rfl) mt_403 mt_203 rfl rfl rfl ⟨Nat.lt_of_lt_of_le (by decide) w779.2.1, w779.2.2.2.1⟩ rfl (jsml_s rfl) rfl (mm_Runs.up (d := 1) (by decide) (by have w := ok_203 (L := L) (xs := xs) (b := h773) (m := jmf h773) w779.2.1 w779.2.2.1 ; rw [w779.2.2.2.2] at w; exact w)) ?_
  refine ey_iload (cd_403 rfl) (jup_pi (lv := (jup lv 5 (jI q754.1))) (j := 5) (v := jI q771.1) (z := q754.1) rfl) ?_
  by_cases q780 : (jw (jd_203 (jmf h773))) = (jw q754.1)
  · rw [if_pos q780] at e
    refine ey_ceq (cd_403 rfl) rfl rfl rfl q780 ?_
    refine ey_iload (cd_403 rfl) (jup_pi (lv := (jup lv 5 (jI q754.1))) (j := 5) (v := jI q771.1) (z := q754.1) rfl) ?_
    by_cases q781 : (jw q754.1) = 0
    · rw [if_pos q781] at e
      refine ey_yne (cd_403 rfl) rfl rfl (fun w => w q781) ?_
      refine ey_aload_n (cd_403 rfl) f3 ?_
      refine ey_iconst (cd_403 rfl) ?_
      obtain ⟨a782, e783, e⟩ := jbind e
      refine ey_rs (s0 := [jI 0, jR x3]) (s1 := [jI 0, jR (some a782)]) (by rw [e783]) ?_
      obtain ⟨v784, e785, e⟩ := jbind e
      refine ey_lald (cd_403 rfl) e785 ?_
      refine ey_iload (cd_403 rfl) rfl ?_
      have K787 : ∀ lv : jL, lv 0 = some (jR (some 1000000)) → lv 1 = some (jR x1) → lv 2 = some (jR x2) → lv 3 = some (jR x3) → lv 4 = some (jI x4) → ey (mm_xt L xs) 72 403 1909 lv [jJ (if (jw q771.1) = 0 then 0 else 1), jJ v784] h773 r := by
        intro lv g0 g1 g2 g3 g4
        refine ey_lcmp (cd_403 rfl) ?_
        by_cases q786 : (jwl v784) = (jwl (if (jw q771.1) = 0 then 0 else 1))
        · rw [if_pos q786] at e
          refine ey_zeq (cd_403 rfl) rfl rfl ((jlc_eq rfl rfl).mpr q786) ?_
          exact jk_403_b1915 e K lv g0 g1 g2 g3 g4
        · rw [if_neg q786] at e
          refine ey_yeq (cd_403 rfl) rfl rfl (fun w => q786 ((jlc_eq rfl rfl).mp w)) ?_
          cases e
      by_cases q788 : (jw q771.1) = 0
      · refine ey_zeq (cd_403 rfl) rfl rfl q788 ?_
        refine ey_lconst0 (cd_403 rfl) ?_
        exact ey_rs (s0 := [jJ 0, jJ v784]) (s1 := [jJ (if (jw q771.1) = 0 then 0 else 1), jJ v784]) (by rw [show ((if (jw q771.1) = 0 then 0 else 1) : Int) = 0 from (if_pos q788)]) (K787 (jup (jup lv 5 (jI q754.1)) 6 (jI q771.1)) f0 f1 f2 f3 (jup_o rfl (jup_pi (lv := lv) (j := 4) (v := jI q754.1) (z := x4) f4)))
      · refine ey_yeq (cd_403 rfl) rfl rfl q788 ?_
        refine ey_lconst1 (cd_403 rfl) ?_
        refine ey_goto (cd_403 rfl) rfl ?_
        exact ey_rs (s0 := [jJ 1, jJ v784]) (s1 := [jJ (if (jw q771.1) = 0 then 0 else 1), jJ v784]) (by rw [show ((if (jw q771.1) = 0 then 0 else 1) : Int) = 1 from (if_neg q788)]) (K787 (jup (jup lv 5 (jI q754.1)) 6 (jI q771.1)) f0 f1 f2 f3 (jup_o rfl (jup_pi (lv := lv) (j := 4) (v := jI q754.1) (z := x4) f4)))
    · rw [if_neg q781] at e
      refine ey_zne (cd_403 rfl) rfl rfl q781 ?_
      exact jk_403_b1915 e K (jup (jup lv 5 (jI q754.1)) 6 (jI q771.1)) f0 f1 f2 f3 (jup_o rfl (jup_pi (lv := lv) (j := 4) (v := jI q754.1) (z := x4) f4))
  · rw [if_neg q780] at e
    refine ey_neq (cd_403 rfl) rfl rfl rfl q780 ?_
    cases e
set_option maxRecDepth 100000 in
theorem jk_403_b1983 {L : Nat} {xs : Nat → Int32} {x1 : Option Nat} {x2 : Option Nat} {x3 : Option Nat} {x4 : Int} {h : jH} {o : ((Int × jH) ⊕ jH)} {r : mm_R} (e : jd_403_b1983 L xs x1 x2 x3 x4 h = some o) (K : jsm (fun s => (∀ lv : jL, lv 0 = some (jR (some 1000000)) → lv 1 = some (jR x1) → lv 2 = some (jR x2) → lv 3 = some (jR x3) → lv 4 = some (jI s.1) → ey (mm_xt L xs) 72 403 23 lv [] s.2 r)) (fun x => (∀ lv : jL, ey (mm_xt L xs) 72 403 3175 lv [] x r)) o) : ∀ lv : jL, lv 0 = some (jR (some 1000000)) → lv 1 = some (jR x1) → lv 2 = some (jR x2) → lv 3 = some (jR x3) → lv 4 = some (jI x4) → ey (mm_xt L xs) 72 403 1983 lv [] h r := by
  intro lv f0 f1 f2 f3 f4
  unfold jd_403_b1983 at e
  refine ey_goto (cd_403 rfl) rfl ?_
  exact jk_403_b3169 e K lv f0 f1 f2 f3 f4
set_option maxRecDepth 100000 in
theorem jk_403_b1918 {L : Nat} {xs : Nat → Int32} {x1 : Option Nat} {x2 : Option Nat} {x3 : Option Nat} {x4 : Int} {h : jH} {o : ((Int × jH) ⊕ jH)} {r : mm_R} (e : jd_403_b1918 L xs x1 x2 x3 x4 h = some o) (K : jsm (fun s => (∀ lv : jL, lv 0 = some (jR (some 1000000)) → lv 1 = some (jR x1) → lv 2 = some (jR x2) → lv 3 = some (jR x3) → lv 4 = some (jI s.1) → ey (mm_xt L xs) 72 403 23 lv [] s.2 r)) (fun x => (∀ lv : jL, ey (mm_xt L xs) 72 403 3175 lv [] x r)) o) : ∀ lv : jL, lv 0 = some (jR (some 1000000)) → lv 1 = some (jR x1) → lv 2 = some (jR x2) → lv 3 = some (jR x3) → lv 4 = some (jI x4) → ey (mm_xt L xs) 72 403 1918 lv [] h r := by
  intro lv f0 f1 f2 f3 f4
  unfold jd_403_b1918 at e
  refine ey_aload_n (cd_403 rfl) f1 ?_
  refine ey_aload_n (cd_403 rfl) f0 ?_
  refine ey_iload (cd_403 rfl) f4 ?_
  refine ey_iconst (cd_403 rfl) ?_
  refine ey_iadd (cd_403 rfl) ?_
  obtain ⟨v790, e791, e⟩ := jbind e
  refine ey_iasc (cd_403 rfl) e791 ?_
  refine ey_aload_n (cd_403 rfl) f0 ?_
  refine ey_iload (cd_403 rfl) f4 ?_
  refine ey_iconst (cd_403 rfl) ?_
  refine ey_iadd (cd_403 rfl) ?_
  obtain ⟨v792, e793, e⟩ := jbind e
  refine ey_iasc (cd_403 rfl) e793 ?_
  refine ey_aload_n (cd_403 rfl) f3 ?_
  obtain ⟨q794, e795, e⟩ := jbind e
  refine ey_cs (s0 := [jR x3, jI v792, jI v790, jR x1]) (s1 := []) (st' := [jI q794.1]) (cd_403 rfl) mt_403 mt_385 rfl (by decide) rfl rfl (jsml_s rfl) rfl (mm_Runs.up (d := 4) (by decide) (ok_385 e795)) ?_
  refine ey_istore (cd_403 rfl) mt_403 rfl ?_
  refine ey_aload_n (cd_403 rfl) f2 ?_
  refine ey_aload_n (cd_403 rfl) f0 ?_
  refine ey_iload (cd_403 rfl) (jup_pi (lv := lv) (j := 4) (v := jI q794.1) (z := x4) f4) ?_
  refine ey_iconst (cd_403 rfl) ?_
  refine ey_iadd (cd_403 rfl) ?_
  obtain ⟨v796, e797, e⟩ := jbind e
  refine ey_iasc (cd_403 rfl) e797 ?_
  refine ey_aload_n (cd_403 rfl) f0 ?_
  refine ey_iload (cd_403 rfl) (jup_pi (lv := lv) (j := 4) (v := jI q794.1) (z := x4) f4) ?_
  refine ey_iconst (cd_403 rfl) ?_
  refine ey_iadd (cd_403 rfl) ?_
  obtain ⟨v798, e799, e⟩ := jbind e
  refine ey_iasc (cd_403 rfl) e799 ?_
  obtain ⟨a800, e801, e⟩ := jbind e
  refine ey_rs (s0 := [jI v798, jI v796, jR x2]) (s1 := [jI v798, jI v796, jR (some a800)]) (by rw [e801]) ?_
  obtain ⟨u802, e803, e⟩ := jbind e
  have w804 := jlk_s e803
  refine ey_rs (s0 := [jI v798, jI v796, jR (some a800)]) (s1 := [jI v798, jI v796, jR (some 76)]) (by rw [w804.1]) ?_
  obtain ⟨q805, e806, e⟩ := jbind e
  refine ey_cv (s0 := [jI v798, jI v796, jR (some 76)]) (s1 := []) (st' := [jI q805.1]) (cd_403 rfl) mt_403 mt_323 rfl rfl rfl ⟨Nat.lt_of_lt_of_le (by decide) w804.2.1, w804.2.2.2.1⟩ rfl (jsml_s rfl) rfl (mm_Runs.up (d := 4) (by decide) (by have w := ok_323 (L := L) (xs := xs) (b := q794.2) (m := jmf q794.2) w804.2.1 w804.2.2.1 e806; rw [w804.2.2.2.2] at w; exact w)) ?_
  obtain ⟨h807, e808, e⟩ := jbind e
  refine ey_hs (Option.some.inj e808) ?_
  refine ey_istore (cd_403 rfl) mt_403 rfl ?_
  refine ey_aload_n (cd_403 rfl) f2 ?_
  obtain ⟨a809, e810, e⟩ := jbind e
  refine ey_rs (s0 := [jR x2]) (s1 := [jR (some a809)]) (by rw [e810]) ?_
  obtain ⟨u811, e812, e⟩ := jbind e
  have w813 := jlk_s e812
  refine ey_rs (s0 := [jR (some a809)]) (s1 := [jR (some 76)]) (by rw [w813.1]) ?_
  refine ey_cv (s0 := [jR (some 76)]) (s1 := []) (st' := [jI (jd_203 (jmf h807))]) (cd_403 rfl) mt_403 mt_203 rfl rfl rfl ⟨Nat.lt_of_lt_of_le (by decide) w813.2.1, w813.2.2.2.1⟩ rfl (jsml_s rfl) rfl (mm_Runs.up (d := 1) (by decide) (by have w := ok_203 (L := L) (xs := xs) (b := h807) (m := jmf h807) w813.2.1 w813.2.2.1 ; rw [w813.2.2.2.2] at w; exact w)) ?_
  refine ey_iload (cd_403 rfl) (jup_pi (lv := (jup lv 5 (jI q794.1))) (j := 5) (v := jI q805.1) (z := q794.1) rfl) ?_
  by_cases q814 : (jw (jd_203 (jmf h807))) = (jw q794.1)
  · rw [if_pos q814] at e
    refine ey_ceq (cd_403 rfl) rfl rfl rfl q814 ?_
    refine ey_iload (cd_403 rfl) (jup_pi (lv := (jup lv 5 (jI q794.1))) (j := 5) (v := jI q805.1) (z := q794.1) rfl) ?_
    by_cases q815 : (jw q794.1) = 0
    · rw [if_pos q815] at e
      refine ey_yne (cd_403 rfl) rfl rfl (fun w => w q815) ?_
      refine ey_aload_n (cd_403 rfl) f3 ?_
      refine ey_iconst (cd_403 rfl) ?_
      obtain ⟨a816, e817, e⟩ := jbind e
      refine ey_rs (s0 := [jI 0, jR x3]) (s1 := [jI 0, jR (some a816)]) (by rw [e817]) ?_
      obtain ⟨v818, e819, e⟩ := jbind e
      refine ey_lald (cd_403 rfl) e819 ?_
      refine ey_iload (cd_403 rfl) rfl ?_
      refine ey_i2l (cd_403 rfl) ?_
      refine ey_lcmp (cd_403 rfl) ?_
      by_cases q820 : (jwl v818) = (jw q805.1)
      · rw [if_pos q820] at e
        refine ey_zeq (cd_403 rfl) rfl rfl ((jlc_eq rfl (jwl_jw _)).mpr q820) ?_
        exact jk_403_b1983 e K (jup (jup lv 5 (jI q794.1)) 6 (jI q805.1)) f0 f1 f2 f3 (jup_o rfl (jup_pi (lv := lv) (j := 4) (v := jI q794.1) (z := x4) f4))
      · rw [if_neg q820] at e
        refine ey_yeq (cd_403 rfl) rfl rfl (fun w => q820 ((jlc_eq rfl (jwl_jw _)).mp w)) ?_
        cases e
    · rw [if_neg q815] at e
      refine ey_zne (cd_403 rfl) rfl rfl q815 ?_
      exact jk_403_b1983 e K (jup (jup lv 5 (jI q794.1)) 6 (jI q805.1)) f0 f1 f2 f3 (jup_o rfl (jup_pi (lv := lv) (j := 4) (v := jI q794.1) (z := x4) f4))
  · rw [if_neg q814] at e
    refine ey_neq (cd_403 rfl) rfl rfl rfl q814 ?_
    cases e
set_option maxRecDepth 100000 in
theorem jk_403_b2075 {L : Nat} {xs : Nat → Int32} {x1 : Option Nat} {x2 : Option Nat} {x3 : Option Nat} {x4 : Int} {h : jH} {o : ((Int × jH) ⊕ jH)} {r : mm_R} (e : jd_403_b2075 L xs x1 x2 x3 x4 h = some o) (K : jsm (fun s => (∀ lv : jL, lv 0 = some (jR (some 1000000)) → lv 1 = some (jR x1) → lv 2 = some (jR x2) → lv 3 = some (jR x3) → lv 4 = some (jI s.1) → ey (mm_xt L xs) 72 403 23 lv [] s.2 r)) (fun x => (∀ lv : jL, ey (mm_xt L xs) 72 403 3175 lv [] x r)) o) : ∀ lv : jL, lv 0 = some (jR (some 1000000)) → lv 1 = some (jR x1) → lv 2 = some (jR x2) → lv 3 = some (jR x3) → lv 4 = some (jI x4) → ey (mm_xt L xs) 72 403 2075 lv [] h r := by
  intro lv f0 f1 f2 f3 f4
  unfold jd_403_b2075 at e
  refine ey_goto (cd_403 rfl) rfl ?_
  exact jk_403_b3169 e K lv f0 f1 f2 f3 f4
set_option maxRecDepth 100000 in
theorem jk_403_b1986 {L : Nat} {xs : Nat → Int32} {x1 : Option Nat} {x2 : Option Nat} {x3 : Option Nat} {x4 : Int} {h : jH} {o : ((Int × jH) ⊕ jH)} {r : mm_R} (e : jd_403_b1986 L xs x1 x2 x3 x4 h = some o) (K : jsm (fun s => (∀ lv : jL, lv 0 = some (jR (some 1000000)) → lv 1 = some (jR x1) → lv 2 = some (jR x2) → lv 3 = some (jR x3) → lv 4 = some (jI s.1) → ey (mm_xt L xs) 72 403 23 lv [] s.2 r)) (fun x => (∀ lv : jL, ey (mm_xt L xs) 72 403 3175 lv [] x r)) o) : ∀ lv : jL, lv 0 = some (jR (some 1000000)) → lv 1 = some (jR x1) → lv 2 = some (jR x2) → lv 3 = some (jR x3) → lv 4 = some (jI x4) → ey (mm_xt L xs) 72 403 1986 lv [] h r := by
  intro lv f0 f1 f2 f3 f4
  unfold jd_403_b1986 at e
  refine ey_aload_n (cd_403 rfl) f1 ?_
  refine ey_aload_n (cd_403 rfl) f0 ?_
  refine ey_iload (cd_403 rfl) f4 ?_
  refine ey_iconst (cd_403 rfl) ?_
  refine ey_iadd (cd_403 rfl) ?_
  obtain ⟨v822, e823, e⟩ := jbind e
  refine ey_iasc (cd_403 rfl) e823 ?_
  refine ey_aload_n (cd_403 rfl) f0 ?_
  refine ey_iload (cd_403 rfl) f4 ?_
  refine ey_iconst (cd_403 rfl) ?_
  refine ey_iadd (cd_403 rfl) ?_
  obtain ⟨v824, e825, e⟩ := jbind e
  refine ey_iasc (cd_403 rfl) e825 ?_
  refine ey_aload_n (cd_403 rfl) f0 ?_
  refine ey_iload (cd_403 rfl) f4 ?_
  refine ey_iconst (cd_403 rfl) ?_
  refine ey_iadd (cd_403 rfl) ?_
  obtain ⟨v826, e827, e⟩ := jbind e
  refine ey_iasc (cd_403 rfl) e827 ?_
  refine ey_aload_n (cd_403 rfl) f0 ?_
  refine ey_iload (cd_403 rfl) f4 ?_
  refine ey_iconst (cd_403 rfl) ?_
  refine ey_iadd (cd_403 rfl) ?_
  obtain ⟨v828, e829, e⟩ := jbind e
  refine ey_iasc (cd_403 rfl) e829 ?_
  refine ey_aload_n (cd_403 rfl) f3 ?_
  obtain ⟨q830, e831, e⟩ := jbind e
  refine ey_cs (s0 := [jR x3, jI v828, jI v826, jI v824, jI v822, jR x1]) (s1 := []) (st' := [jI q830.1]) (cd_403 rfl) mt_403 mt_386 rfl (by decide) rfl rfl (jsml_s rfl) rfl (mm_Runs.up (d := 3) (by decide) (ok_386 e831)) ?_
  refine ey_istore (cd_403 rfl) mt_403 rfl ?_
  refine ey_aload_n (cd_403 rfl) f2 ?_
  refine ey_aload_n (cd_403 rfl) f0 ?_
  refine ey_iload (cd_403 rfl) (jup_pi (lv := lv) (j := 4) (v := jI q830.1) (z := x4) f4) ?_
  refine ey_iconst (cd_403 rfl) ?_
  refine ey_iadd (cd_403 rfl) ?_
  obtain ⟨v832, e833, e⟩ := jbind e
  refine ey_iasc (cd_403 rfl) e833 ?_
  refine ey_aload_n (cd_403 rfl) f0 ?_
  refine ey_iload (cd_403 rfl) (jup_pi (lv := lv) (j := 4) (v := jI q830.1) (z := x4) f4) ?_
  refine ey_iconst (cd_403 rfl) ?_
  refine ey_iadd (cd_403 rfl) ?_
  obtain ⟨v834, e835, e⟩ := jbind e
  refine ey_iasc (cd_403 rfl) e835 ?_
  refine ey_aload_n (cd_403 rfl) f0 ?_
  refine ey_iload (cd_403 rfl) (jup_pi (lv := lv) (j := 4) (v := jI q830.1) (z := x4) f4) ?_
  refine ey_iconst (cd_403 rfl) ?_
  refine ey_iadd (cd_403 rfl) ?_
  obtain ⟨v836, e837, e⟩ := jbind e
  refine ey_iasc (cd_403 rfl) e837 ?_
  refine ey_aload_n (cd_403 rfl) f0 ?_
  refine ey_iload (cd_403 rfl) (jup_pi (lv := lv) (j := 4) (v := jI q830.1) (z := x4) f4) ?_
  refine ey_iconst (cd_403 rfl) ?_
  refine ey_iadd (cd_403 rfl) ?_
  obtain ⟨v838, e839, e⟩ := jbind e
  refine ey_iasc (cd_403 rfl) e839 ?_
  obtain ⟨a840, e841, e⟩ := jbind e
  refine ey_rs (s0 := [jI v838, jI v836, jI v834, jI v832, jR x2]) (s1 := [jI v838, jI v836, jI v834, jI v832, jR (some a840)]) (by rw [e841]) ?_
  obtain ⟨u842, e843, e⟩ := jbind e
  have w844 := jlk_s e843
  refine ey_rs (s0 := [jI v838, jI v836, jI v834, jI v832, jR (some a840)]) (s1 := [jI v838, jI v836, jI v834, jI v832, jR (some 76)]) (by rw [w844.1]) ?_
  obtain ⟨q845, e846, e⟩ := jbind e
  refine ey_cv (s0 := [jI v838, jI v836, jI v834, jI v832, jR (some 76)]) (s1 := []) (st' := [jI q845.1]) (cd_403 rfl) mt_403 mt_324 rfl rfl rfl ⟨Nat.lt_of_lt_of_le (by decide) w844.2.1, w844.2.2.2.1⟩ rfl (jsml_s rfl) rfl (mm_Runs.up (d := 4) (by decide) (by have w := ok_324 (L := L) (xs := xs) (b := q830.2) (m := jmf q830.2) w844.2.1 w844.2.2.1 e846; rw [w844.2.2.2.2] at w; exact w)) ?_
  obtain ⟨h847, e848, e⟩ := jbind e
  refine ey_hs (Option.some.inj e848) ?_
  refine ey_istore (cd_403 rfl) mt_403 rfl ?_
  refine ey_aload_n (cd_403 rfl) f2 ?_
  obtain ⟨a849, e850, e⟩ := jbind e
  refine ey_rs (s0 := [jR x2]) (s1 := [jR (some a849)]) (by rw [e850]) ?_
  obtain ⟨u851, e852, e⟩ := jbind e
  have w853 := jlk_s e852
  refine ey_rs (s0 := [jR (some a849)]) (s1 := [jR (some 76)]) (by rw [w853.1]) ?_
  refine ey_cv (s0 := [jR (some 76)]) (s1 := []) (st' := [jI (jd_203 (jmf h847))]) (cd_403 rfl) mt_403 mt_203 rfl rfl rfl ⟨Nat.lt_of_lt_of_le (by decide) w853.2.1, w853.2.2.2.1⟩ rfl (jsml_s rfl) rfl (mm_Runs.up (d := 1) (by decide) (by have w := ok_203 (L := L) (xs := xs) (b := h847) (m := jmf h847) w853.2.1 w853.2.2.1 ; rw [w853.2.2.2.2] at w; exact w)) ?_
  refine ey_iload (cd_403 rfl) (jup_pi (lv := (jup lv 5 (jI q830.1))) (j := 5) (v := jI q845.1) (z := q830.1) rfl) ?_
  by_cases q854 : (jw (jd_203 (jmf h847))) = (jw q830.1)
  · rw [if_pos q854] at e
    refine ey_ceq (cd_403 rfl) rfl rfl rfl q854 ?_
    refine ey_iload (cd_403 rfl) (jup_pi (lv := (jup lv 5 (jI q830.1))) (j := 5) (v := jI q845.1) (z := q830.1) rfl) ?_
    by_cases q855 : (jw q830.1) = 0
    · rw [if_pos q855] at e
      refine ey_yne (cd_403 rfl) rfl rfl (fun w => w q855) ?_
      refine ey_aload_n (cd_403 rfl) f3 ?_
      refine ey_iconst (cd_403 rfl) ?_
      obtain ⟨a856, e857, e⟩ := jbind e
      refine ey_rs (s0 := [jI 0, jR x3]) (s1 := [jI 0, jR (some a856)]) (by rw [e857]) ?_
      obtain ⟨v858, e859, e⟩ := jbind e
      refine ey_lald (cd_403 rfl) e859 ?_
      refine ey_iload (cd_403 rfl) rfl ?_
      refine ey_i2l (cd_403 rfl) ?_
      refine ey_lcmp (cd_403 rfl) ?_
      by_cases q860 : (jwl v858) = (jw q845.1)
      · rw [if_pos q860] at e
        refine ey_zeq (cd_403 rfl) rfl rfl ((jlc_eq rfl (jwl_jw _)).mpr q860) ?_
        exact jk_403_b2075 e K (jup (jup lv 5 (jI q830.1)) 6 (jI q845.1)) f0 f1 f2 f3 (jup_o rfl (jup_pi (lv := lv) (j := 4) (v := jI q830.1) (z := x4) f4))
      · rw [if_neg q860] at e
        refine ey_yeq (cd_403 rfl) rfl rfl (fun w => q860 ((jlc_eq rfl (jwl_jw _)).mp w)) ?_
        cases e
    · rw [if_neg q855] at e
      refine ey_zne (cd_403 rfl) rfl rfl q855 ?_
      exact jk_403_b2075 e K (jup (jup lv 5 (jI q830.1)) 6 (jI q845.1)) f0 f1 f2 f3 (jup_o rfl (jup_pi (lv := lv) (j := 4) (v := jI q830.1) (z := x4) f4))
  · rw [if_neg q854] at e
    refine ey_neq (cd_403 rfl) rfl rfl rfl q854 ?_
    cases e
set_option maxRecDepth 100000 in
theorem jk_403_b2155 {L : Nat} {xs : Nat → Int32} {x1 : Option Nat} {x2 : Option Nat} {x3 : Option Nat} {x4 : Int} {h : jH} {o : ((Int × jH) ⊕ jH)} {r : mm_R} (e : jd_403_b2155 L xs x1 x2 x3 x4 h = some o) (K : jsm (fun s => (∀ lv : jL, lv 0 = some (jR (some 1000000)) → lv 1 = some (jR x1) → lv 2 = some (jR x2) → lv 3 = some (jR x3) → lv 4 = some (jI s.1) → ey (mm_xt L xs) 72 403 23 lv [] s.2 r)) (fun x => (∀ lv : jL, ey (mm_xt L xs) 72 403 3175 lv [] x r)) o) : ∀ lv : jL, lv 0 = some (jR (some 1000000)) → lv 1 = some (jR x1) → lv 2 = some (jR x2) → lv 3 = some (jR x3) → lv 4 = some (jI x4) → ey (mm_xt L xs) 72 403 2155 lv [] h r := by
  intro lv f0 f1 f2 f3 f4
  unfold jd_403_b2155 at e
  refine ey_goto (cd_403 rfl) rfl ?_
  exact jk_403_b3169 e K lv f0 f1 f2 f3 f4
set_option maxRecDepth 100000 in
theorem jk_403_b2078 {L : Nat} {xs : Nat → Int32} {x1 : Option Nat} {x2 : Option Nat} {x3 : Option Nat} {x4 : Int} {h : jH} {o : ((Int × jH) ⊕ jH)} {r : mm_R} (e : jd_403_b2078 L xs x1 x2 x3 x4 h = some o) (K : jsm (fun s => (∀ lv : jL, lv 0 = some (jR (some 1000000)) → lv 1 = some (jR x1) → lv 2 = some (jR x2) → lv 3 = some (jR x3) → lv 4 = some (jI s.1) → ey (mm_xt L xs) 72 403 23 lv [] s.2 r)) (fun x => (∀ lv : jL, ey (mm_xt L xs) 72 403 3175 lv [] x r)) o) : ∀ lv : jL, lv 0 = some (jR (some 1000000)) → lv 1 = some (jR x1) → lv 2 = some (jR x2) → lv 3 = some (jR x3) → lv 4 = some (jI x4) → ey (mm_xt L xs) 72 403 2078 lv [] h r := by
  intro lv f0 f1 f2 f3 f4
  unfold jd_403_b2078 at e
  refine ey_aload_n (cd_403 rfl) f1 ?_
  refine ey_aload_n (cd_403 rfl) f0 ?_
  refine ey_iload (cd_403 rfl) f4 ?_
  refine ey_iconst (cd_403 rfl) ?_
  refine ey_iadd (cd_403 rfl) ?_
  obtain ⟨v862, e863, e⟩ := jbind e
  refine ey_iasc (cd_403 rfl) e863 ?_
  refine ey_aload_n (cd_403 rfl) f0 ?_
  refine ey_iload (cd_403 rfl) f4 ?_
  refine ey_iconst (cd_403 rfl) ?_
  refine ey_iadd (cd_403 rfl) ?_
  obtain ⟨v864, e865, e⟩ := jbind e
  refine ey_iasc (cd_403 rfl) e865 ?_
  refine ey_aload_n (cd_403 rfl) f0 ?_
  refine ey_iload (cd_403 rfl) f4 ?_
  refine ey_iconst (cd_403 rfl) ?_
  refine ey_iadd (cd_403 rfl) ?_
  obtain ⟨v866, e867, e⟩ := jbind e
  refine ey_iasc (cd_403 rfl) e867 ?_
  refine ey_aload_n (cd_403 rfl) f3 ?_
  obtain ⟨q868, e869, e⟩ := jbind e
  refine ey_cs (s0 := [jR x3, jI v866, jI v864, jI v862, jR x1]) (s1 := []) (st' := [jI q868.1]) (cd_403 rfl) mt_403 mt_387 rfl (by decide) rfl rfl (jsml_s rfl) rfl (mm_Runs.up (d := 3) (by decide) (ok_387 e869)) ?_
  refine ey_istore (cd_403 rfl) mt_403 rfl ?_
  refine ey_aload_n (cd_403 rfl) f2 ?_
  refine ey_aload_n (cd_403 rfl) f0 ?_
  refine ey_iload (cd_403 rfl) (jup_pi (lv := lv) (j := 4) (v := jI q868.1) (z := x4) f4) ?_
  refine ey_iconst (cd_403 rfl) ?_
  refine ey_iadd (cd_403 rfl) ?_
  obtain ⟨v870, e871, e⟩ := jbind e
  refine ey_iasc (cd_403 rfl) e871 ?_
  refine ey_aload_n (cd_403 rfl) f0 ?_
  refine ey_iload (cd_403 rfl) (jup_pi (lv := lv) (j := 4) (v := jI q868.1) (z := x4) f4) ?_
  refine ey_iconst (cd_403 rfl) ?_
  refine ey_iadd (cd_403 rfl) ?_
  obtain ⟨v872, e873, e⟩ := jbind e
  refine ey_iasc (cd_403 rfl) e873 ?_
  refine ey_aload_n (cd_403 rfl) f0 ?_
  refine ey_iload (cd_403 rfl) (jup_pi (lv := lv) (j := 4) (v := jI q868.1) (z := x4) f4) ?_
  refine ey_iconst (cd_403 rfl) ?_
  refine ey_iadd (cd_403 rfl) ?_
  obtain ⟨v874, e875, e⟩ := jbind e
  refine ey_iasc (cd_403 rfl) e875 ?_
  obtain ⟨a876, e877, e⟩ := jbind e
  refine ey_rs (s0 := [jI v874, jI v872, jI v870, jR x2]) (s1 := [jI v874, jI v872, jI v870, jR (some a876)]) (by rw [e877]) ?_
  obtain ⟨u878, e879, e⟩ := jbind e
  have w880 := jlk_s e879
  refine ey_rs (s0 := [jI v874, jI v872, jI v870, jR (some a876)]) (s1 := [jI v874, jI v872, jI v870, jR (some 76)]) (by rw [w880.1]) ?_
  obtain ⟨q881, e882, e⟩ := jbind e
  refine ey_cv (s0 := [jI v874, jI v872, jI v870, jR (some 76)]) (s1 := []) (st' := [jI q881.1]) (cd_403 rfl) mt_403 mt_325 rfl rfl rfl ⟨Nat.lt_of_lt_of_le (by decide) w880.2.1, w880.2.2.2.1⟩ rfl (jsml_s rfl) rfl (mm_Runs.up (d := 4) (by decide) (by have w := ok_325 (L := L) (xs := xs) (b := q868.2) (m := jmf q868.2) w880.2.1 w880.2.2.1 e882; rw [w880.2.2.2.2] at w; exact w)) ?_
  obtain ⟨h883, e884, e⟩ := jbind e
  refine ey_hs (Option.some.inj e884) ?_
  refine ey_istore (cd_403 rfl) mt_403 rfl ?_
  refine ey_aload_n (cd_403 rfl) f2 ?_
  obtain ⟨a885, e886, e⟩ := jbind e
  refine ey_rs (s0 := [jR x2]) (s1 := [jR (some a885)]) (by rw [e886]) ?_
  obtain ⟨u887, e888, e⟩ := jbind e
  have w889 := jlk_s e888
  refine ey_rs (s0 := [jR (some a885)]) (s1 := [jR (some 76)]) (by rw [w889.1]) ?_
  refine ey_cv (s0 := [jR (some 76)]) (s1 := []) (st' := [jI (jd_203 (jmf h883))]) (cd_403 rfl) mt_403 mt_203 rfl rfl rfl ⟨Nat.lt_of_lt_of_le (by decide) w889.2.1, w889.2.2.2.1⟩ rfl (jsml_s rfl) rfl (mm_Runs.up (d := 1) (by decide) (by have w := ok_203 (L := L) (xs := xs) (b := h883) (m := jmf h883) w889.2.1 w889.2.2.1 ; rw [w889.2.2.2.2] at w; exact w)) ?_
  refine ey_iload (cd_403 rfl) (jup_pi (lv := (jup lv 5 (jI q868.1))) (j := 5) (v := jI q881.1) (z := q868.1) rfl) ?_
  by_cases q890 : (jw (jd_203 (jmf h883))) = (jw q868.1)
  · rw [if_pos q890] at e
    refine ey_ceq (cd_403 rfl) rfl rfl rfl q890 ?_
    refine ey_iload (cd_403 rfl) (jup_pi (lv := (jup lv 5 (jI q868.1))) (j := 5) (v := jI q881.1) (z := q868.1) rfl) ?_
    by_cases q891 : (jw q868.1) = 0
    · rw [if_pos q891] at e
      refine ey_yne (cd_403 rfl) rfl rfl (fun w => w q891) ?_
      refine ey_aload_n (cd_403 rfl) f3 ?_
      refine ey_iconst (cd_403 rfl) ?_
      obtain ⟨a892, e893, e⟩ := jbind e
      refine ey_rs (s0 := [jI 0, jR x3]) (s1 := [jI 0, jR (some a892)]) (by rw [e893]) ?_
      obtain ⟨v894, e895, e⟩ := jbind e
      refine ey_lald (cd_403 rfl) e895 ?_
      refine ey_iload (cd_403 rfl) rfl ?_
      refine ey_i2l (cd_403 rfl) ?_
      refine ey_lcmp (cd_403 rfl) ?_
      by_cases q896 : (jwl v894) = (jw q881.1)
      · rw [if_pos q896] at e
        refine ey_zeq (cd_403 rfl) rfl rfl ((jlc_eq rfl (jwl_jw _)).mpr q896) ?_
        exact jk_403_b2155 e K (jup (jup lv 5 (jI q868.1)) 6 (jI q881.1)) f0 f1 f2 f3 (jup_o rfl (jup_pi (lv := lv) (j := 4) (v := jI q868.1) (z := x4) f4))
      · rw [if_neg q896] at e
        refine ey_yeq (cd_403 rfl) rfl rfl (fun w => q896 ((jlc_eq rfl (jwl_jw _)).mp w)) ?_
        cases e
    · rw [if_neg q891] at e
      refine ey_zne (cd_403 rfl) rfl rfl q891 ?_
      exact jk_403_b2155 e K (jup (jup lv 5 (jI q868.1)) 6 (jI q881.1)) f0 f1 f2 f3 (jup_o rfl (jup_pi (lv := lv) (j := 4) (v := jI q868.1) (z := x4) f4))
  · rw [if_neg q890] at e
    refine ey_neq (cd_403 rfl) rfl rfl rfl q890 ?_
    cases e
set_option maxRecDepth 100000 in
theorem jk_403_b2199 {L : Nat} {xs : Nat → Int32} {x1 : Option Nat} {x2 : Option Nat} {x3 : Option Nat} {x4 : Int} {h : jH} {o : ((Int × jH) ⊕ jH)} {r : mm_R} (e : jd_403_b2199 L xs x1 x2 x3 x4 h = some o) (K : jsm (fun s => (∀ lv : jL, lv 0 = some (jR (some 1000000)) → lv 1 = some (jR x1) → lv 2 = some (jR x2) → lv 3 = some (jR x3) → lv 4 = some (jI s.1) → ey (mm_xt L xs) 72 403 23 lv [] s.2 r)) (fun x => (∀ lv : jL, ey (mm_xt L xs) 72 403 3175 lv [] x r)) o) : ∀ lv : jL, lv 0 = some (jR (some 1000000)) → lv 1 = some (jR x1) → lv 2 = some (jR x2) → lv 3 = some (jR x3) → lv 4 = some (jI x4) → ey (mm_xt L xs) 72 403 2199 lv [] h r := by
  intro lv f0 f1 f2 f3 f4
  unfold jd_403_b2199 at e
  refine ey_goto (cd_403 rfl) rfl ?_
  exact jk_403_b3169 e K lv f0 f1 f2 f3 f4
set_option maxRecDepth 100000 in
theorem jk_403_b2158 {L : Nat} {xs : Nat → Int32} {x1 : Option Nat} {x2 : Option Nat} {x3 : Option Nat} {x4 : Int} {h : jH} {o : ((Int × jH) ⊕ jH)} {r : mm_R} (e : jd_403_b2158 L xs x1 x2 x3 x4 h = some o) (K : jsm (fun s => (∀ lv : jL, lv 0 = some (jR (some 1000000)) → lv 1 = some (jR x1) → lv 2 = some (jR x2) → lv 3 = some (jR x3) → lv 4 = some (jI s.1) → ey (mm_xt L xs) 72 403 23 lv [] s.2 r)) (fun x => (∀ lv : jL, ey (mm_xt L xs) 72 403 3175 lv [] x r)) o) : ∀ lv : jL, lv 0 = some (jR (some 1000000)) → lv 1 = some (jR x1) → lv 2 = some (jR x2) → lv 3 = some (jR x3) → lv 4 = some (jI x4) → ey (mm_xt L xs) 72 403 2158 lv [] h r := by
  intro lv f0 f1 f2 f3 f4
  unfold jd_403_b2158 at e
  refine ey_aload_n (cd_403 rfl) f1 ?_
  refine ey_aload_n (cd_403 rfl) f3 ?_
  obtain ⟨q898, e899, e⟩ := jbind e
  refine ey_cs (s0 := [jR x3, jR x1]) (s1 := []) (st' := [jI q898.1]) (cd_403 rfl) mt_403 mt_388 rfl (by decide) rfl rfl (jsml_s rfl) rfl (mm_Runs.up (d := 9) (by decide) (ok_388 e899)) ?_
  refine ey_istore (cd_403 rfl) mt_403 rfl ?_
  refine ey_aload_n (cd_403 rfl) f2 ?_
  obtain ⟨a900, e901, e⟩ := jbind e
  refine ey_rs (s0 := [jR x2]) (s1 := [jR (some a900)]) (by rw [e901]) ?_
  obtain ⟨u902, e903, e⟩ := jbind e
  have w904 := jlk_s e903
  refine ey_rs (s0 := [jR (some a900)]) (s1 := [jR (some 76)]) (by rw [w904.1]) ?_
  obtain ⟨q905, e906, e⟩ := jbind e
  refine ey_cv (s0 := [jR (some 76)]) (s1 := []) (st' := [jI q905.1]) (cd_403 rfl) mt_403 mt_330 rfl rfl rfl ⟨Nat.lt_of_lt_of_le (by decide) w904.2.1, w904.2.2.2.1⟩ rfl (jsml_s rfl) rfl (mm_Runs.up (d := 13) (by decide) (by have w := ok_330 (L := L) (xs := xs) (b := q898.2) (m := jmf q898.2) w904.2.1 w904.2.2.1 e906; rw [w904.2.2.2.2] at w; exact w)) ?_
  obtain ⟨h907, e908, e⟩ := jbind e
  refine ey_hs (Option.some.inj e908) ?_
  refine ey_istore (cd_403 rfl) mt_403 rfl ?_
  refine ey_aload_n (cd_403 rfl) f2 ?_
  obtain ⟨a909, e910, e⟩ := jbind e
  refine ey_rs (s0 := [jR x2]) (s1 := [jR (some a909)]) (by rw [e910]) ?_
  obtain ⟨u911, e912, e⟩ := jbind e
  have w913 := jlk_s e912
  refine ey_rs (s0 := [jR (some a909)]) (s1 := [jR (some 76)]) (by rw [w913.1]) ?_
  refine ey_cv (s0 := [jR (some 76)]) (s1 := []) (st' := [jI (jd_203 (jmf h907))]) (cd_403 rfl) mt_403 mt_203 rfl rfl rfl ⟨Nat.lt_of_lt_of_le (by decide) w913.2.1, w913.2.2.2.1⟩ rfl (jsml_s rfl) rfl (mm_Runs.up (d := 1) (by decide) (by have w := ok_203 (L := L) (xs := xs) (b := h907) (m := jmf h907) w913.2.1 w913.2.2.1 ; rw [w913.2.2.2.2] at w; exact w)) ?_
  refine ey_iload (cd_403 rfl) (jup_pi (lv := (jup lv 5 (jI q898.1))) (j := 5) (v := jI q905.1) (z := q898.1) rfl) ?_
  by_cases q914 : (jw (jd_203 (jmf h907))) = (jw q898.1)
  · rw [if_pos q914] at e
    refine ey_ceq (cd_403 rfl) rfl rfl rfl q914 ?_
    refine ey_iload (cd_403 rfl) (jup_pi (lv := (jup lv 5 (jI q898.1))) (j := 5) (v := jI q905.1) (z := q898.1) rfl) ?_
    by_cases q915 : (jw q898.1) = 0
    · rw [if_pos q915] at e
      refine ey_yne (cd_403 rfl) rfl rfl (fun w => w q915) ?_
      refine ey_aload_n (cd_403 rfl) f3 ?_
      refine ey_iconst (cd_403 rfl) ?_
      obtain ⟨a916, e917, e⟩ := jbind e
      refine ey_rs (s0 := [jI 0, jR x3]) (s1 := [jI 0, jR (some a916)]) (by rw [e917]) ?_
      obtain ⟨v918, e919, e⟩ := jbind e
      refine ey_lald (cd_403 rfl) e919 ?_
      refine ey_iload (cd_403 rfl) rfl ?_
      refine ey_i2l (cd_403 rfl) ?_
      refine ey_lcmp (cd_403 rfl) ?_
      by_cases q920 : (jwl v918) = (jw q905.1)
      · rw [if_pos q920] at e
        refine ey_zeq (cd_403 rfl) rfl rfl ((jlc_eq rfl (jwl_jw _)).mpr q920) ?_
        exact jk_403_b2199 e K (jup (jup lv 5 (jI q898.1)) 6 (jI q905.1)) f0 f1 f2 f3 (jup_o rfl (jup_pi (lv := lv) (j := 4) (v := jI q898.1) (z := x4) f4))
      · rw [if_neg q920] at e
        refine ey_yeq (cd_403 rfl) rfl rfl (fun w => q920 ((jlc_eq rfl (jwl_jw _)).mp w)) ?_
        cases e
    · rw [if_neg q915] at e
      refine ey_zne (cd_403 rfl) rfl rfl q915 ?_
      exact jk_403_b2199 e K (jup (jup lv 5 (jI q898.1)) 6 (jI q905.1)) f0 f1 f2 f3 (jup_o rfl (jup_pi (lv := lv) (j := 4) (v := jI q898.1) (z := x4) f4))
  · rw [if_neg q914] at e
    refine ey_neq (cd_403 rfl) rfl rfl rfl q914 ?_
    cases e
set_option maxRecDepth 100000 in
theorem jk_403_b2274 {L : Nat} {xs : Nat → Int32} {x1 : Option Nat} {x2 : Option Nat} {x3 : Option Nat} {x4 : Int} {h : jH} {o : ((Int × jH) ⊕ jH)} {r : mm_R} (e : jd_403_b2274 L xs x1 x2 x3 x4 h = some o) (K : jsm (fun s => (∀ lv : jL, lv 0 = some (jR (some 1000000)) → lv 1 = some (jR x1) → lv 2 = some (jR x2) → lv 3 = some (jR x3) → lv 4 = some (jI s.1) → ey (mm_xt L xs) 72 403 23 lv [] s.2 r)) (fun x => (∀ lv : jL, ey (mm_xt L xs) 72 403 3175 lv [] x r)) o) : ∀ lv : jL, lv 0 = some (jR (some 1000000)) → lv 1 = some (jR x1) → lv 2 = some (jR x2) → lv 3 = some (jR x3) → lv 4 = some (jI x4) → ey (mm_xt L xs) 72 403 2274 lv [] h r := by
  intro lv f0 f1 f2 f3 f4
  unfold jd_403_b2274 at e
  refine ey_goto (cd_403 rfl) rfl ?_
  exact jk_403_b3169 e K lv f0 f1 f2 f3 f4
set_option maxRecDepth 100000 in
theorem jk_403_b2202 {L : Nat} {xs : Nat → Int32} {x1 : Option Nat} {x2 : Option Nat} {x3 : Option Nat} {x4 : Int} {h : jH} {o : ((Int × jH) ⊕ jH)} {r : mm_R} (e : jd_403_b2202 L xs x1 x2 x3 x4 h = some o) (K : jsm (fun s => (∀ lv : jL, lv 0 = some (jR (some 1000000)) → lv 1 = some (jR x1) → lv 2 = some (jR x2) → lv 3 = some (jR x3) → lv 4 = some (jI s.1) → ey (mm_xt L xs) 72 403 23 lv [] s.2 r)) (fun x => (∀ lv : jL, ey (mm_xt L xs) 72 403 3175 lv [] x r)) o) : ∀ lv : jL, lv 0 = some (jR (some 1000000)) → lv 1 = some (jR x1) → lv 2 = some (jR x2) → lv 3 = some (jR x3) → lv 4 = some (jI x4) → ey (mm_xt L xs) 72 403 2202 lv [] h r := by
  intro lv f0 f1 f2 f3 f4
  unfold jd_403_b2202 at e
  refine ey_aload_n (cd_403 rfl) f1 ?_
  refine ey_aload_n (cd_403 rfl) f0 ?_
  refine ey_iload (cd_403 rfl) f4 ?_
  refine ey_iconst (cd_403 rfl) ?_
  refine ey_iadd (cd_403 rfl) ?_
  obtain ⟨v922, e923, e⟩ := jbind e
  refine ey_iasc (cd_403 rfl) e923 ?_
  refine ey_aload_n (cd_403 rfl) f0 ?_
  refine ey_iload (cd_403 rfl) f4 ?_
  refine ey_iconst (cd_403 rfl) ?_
  refine ey_iadd (cd_403 rfl) ?_
  obtain ⟨v924, e925, e⟩ := jbind e
  refine ey_iasc (cd_403 rfl) e925 ?_
  refine ey_aload_n (cd_403 rfl) f3 ?_
  obtain ⟨q926, e927, e⟩ := jbind e
  refine ey_cs (s0 := [jR x3, jI v924, jI v922, jR x1]) (s1 := []) (st' := [jI q926.1]) (cd_403 rfl) mt_403 mt_389 rfl (by decide) rfl rfl (jsml_s rfl) rfl (mm_Runs.up (d := 3) (by decide) (ok_389 e927)) ?_
  refine ey_istore (cd_403 rfl) mt_403 rfl ?_
  refine ey_aload_n (cd_403 rfl) f2 ?_
  refine ey_aload_n (cd_403 rfl) f0 ?_
  refine ey_iload (cd_403 rfl) (jup_pi (lv := lv) (j := 4) (v := jI q926.1) (z := x4) f4) ?_
  refine ey_iconst (cd_403 rfl) ?_
  refine ey_iadd (cd_403 rfl) ?_
  obtain ⟨v928, e929, e⟩ := jbind e
  refine ey_iasc (cd_403 rfl) e929 ?_
  refine ey_aload_n (cd_403 rfl) f0 ?_
  refine ey_iload (cd_403 rfl) (jup_pi (lv := lv) (j := 4) (v := jI q926.1) (z := x4) f4) ?_
  refine ey_iconst (cd_403 rfl) ?_
  refine ey_iadd (cd_403 rfl) ?_
  obtain ⟨v930, e931, e⟩ := jbind e
  refine ey_iasc (cd_403 rfl) e931 ?_
  obtain ⟨a932, e933, e⟩ := jbind e
  refine ey_rs (s0 := [jI v930, jI v928, jR x2]) (s1 := [jI v930, jI v928, jR (some a932)]) (by rw [e933]) ?_
  obtain ⟨u934, e935, e⟩ := jbind e
  have w936 := jlk_s e935
  refine ey_rs (s0 := [jI v930, jI v928, jR (some a932)]) (s1 := [jI v930, jI v928, jR (some 76)]) (by rw [w936.1]) ?_
  obtain ⟨q937, e938, e⟩ := jbind e
  refine ey_cv (s0 := [jI v930, jI v928, jR (some 76)]) (s1 := []) (st' := [jI q937.1]) (cd_403 rfl) mt_403 mt_331 rfl rfl rfl ⟨Nat.lt_of_lt_of_le (by decide) w936.2.1, w936.2.2.2.1⟩ rfl (jsml_s rfl) rfl (mm_Runs.up (d := 4) (by decide) (by have w := ok_331 (L := L) (xs := xs) (b := q926.2) (m := jmf q926.2) w936.2.1 w936.2.2.1 e938; rw [w936.2.2.2.2] at w; exact w)) ?_
  obtain ⟨h939, e940, e⟩ := jbind e
  refine ey_hs (Option.some.inj e940) ?_
  refine ey_istore (cd_403 rfl) mt_403 rfl ?_
  refine ey_aload_n (cd_403 rfl) f2 ?_
  obtain ⟨a941, e942, e⟩ := jbind e
  refine ey_rs (s0 := [jR x2]) (s1 := [jR (some a941)]) (by rw [e942]) ?_
  obtain ⟨u943, e944, e⟩ := jbind e
  have w945 := jlk_s e944
  refine ey_rs (s0 := [jR (some a941)]) (s1 := [jR (some 76)]) (by rw [w945.1]) ?_
  refine ey_cv (s0 := [jR (some 76)]) (s1 := []) (st' := [jI (jd_203 (jmf h939))]) (cd_403 rfl) mt_403 mt_203 rfl rfl rfl ⟨Nat.lt_of_lt_of_le (by decide) w945.2.1, w945.2.2.2.1⟩ rfl (jsml_s rfl) rfl (mm_Runs.up (d := 1) (by decide) (by have w := ok_203 (L := L) (xs := xs) (b := h939) (m := jmf h939) w945.2.1 w945.2.2.1 ; rw [w945.2.2.2.2] at w; exact w)) ?_
  refine ey_iload (cd_403 rfl) (jup_pi (lv := (jup lv 5 (jI q926.1))) (j := 5) (v := jI q937.1) (z := q926.1) rfl) ?_
  by_cases q946 : (jw (jd_203 (jmf h939))) = (jw q926.1)
  · rw [if_pos q946] at e
    refine ey_ceq (cd_403 rfl) rfl rfl rfl q946 ?_
    refine ey_iload (cd_403 rfl) (jup_pi (lv := (jup lv 5 (jI q926.1))) (j := 5) (v := jI q937.1) (z := q926.1) rfl) ?_
    by_cases q947 : (jw q926.1) = 0
    · rw [if_pos q947] at e
      refine ey_yne (cd_403 rfl) rfl rfl (fun w => w q947) ?_
      refine ey_aload_n (cd_403 rfl) f3 ?_
      refine ey_iconst (cd_403 rfl) ?_
      obtain ⟨a948, e949, e⟩ := jbind e
      refine ey_rs (s0 := [jI 0, jR x3]) (s1 := [jI 0, jR (some a948)]) (by rw [e949]) ?_
      obtain ⟨v950, e951, e⟩ := jbind e
      refine ey_lald (cd_403 rfl) e951 ?_
      refine ey_iload (cd_403 rfl) rfl ?_
      have K953 : ∀ lv : jL, lv 0 = some (jR (some 1000000)) → lv 1 = some (jR x1) → lv 2 = some (jR x2) → lv 3 = some (jR x3) → lv 4 = some (jI x4) → ey (mm_xt L xs) 72 403 2268 lv [jJ (if (jw q937.1) = 0 then 0 else 1), jJ v950] h939 r := by
        intro lv g0 g1 g2 g3 g4
        refine ey_lcmp (cd_403 rfl) ?_
        by_cases q952 : (jwl v950) = (jwl (if (jw q937.1) = 0 then 0 else 1))
        · rw [if_pos q952] at e
          refine ey_zeq (cd_403 rfl) rfl rfl ((jlc_eq rfl rfl).mpr q952) ?_
          exact jk_403_b2274 e K lv g0 g1 g2 g3 g4
        · rw [if_neg q952] at e
          refine ey_yeq (cd_403 rfl) rfl rfl (fun w => q952 ((jlc_eq rfl rfl).mp w)) ?_
          cases e
      by_cases q954 : (jw q937.1) = 0
      · refine ey_zeq (cd_403 rfl) rfl rfl q954 ?_
        refine ey_lconst0 (cd_403 rfl) ?_
        exact ey_rs (s0 := [jJ 0, jJ v950]) (s1 := [jJ (if (jw q937.1) = 0 then 0 else 1), jJ v950]) (by rw [show ((if (jw q937.1) = 0 then 0 else 1) : Int) = 0 from (if_pos q954)]) (K953 (jup (jup lv 5 (jI q926.1)) 6 (jI q937.1)) f0 f1 f2 f3 (jup_o rfl (jup_pi (lv := lv) (j := 4) (v := jI q926.1) (z := x4) f4)))
      · refine ey_yeq (cd_403 rfl) rfl rfl q954 ?_
        refine ey_lconst1 (cd_403 rfl) ?_
        refine ey_goto (cd_403 rfl) rfl ?_
        exact ey_rs (s0 := [jJ 1, jJ v950]) (s1 := [jJ (if (jw q937.1) = 0 then 0 else 1), jJ v950]) (by rw [show ((if (jw q937.1) = 0 then 0 else 1) : Int) = 1 from (if_neg q954)]) (K953 (jup (jup lv 5 (jI q926.1)) 6 (jI q937.1)) f0 f1 f2 f3 (jup_o rfl (jup_pi (lv := lv) (j := 4) (v := jI q926.1) (z := x4) f4)))
    · rw [if_neg q947] at e
      refine ey_zne (cd_403 rfl) rfl rfl q947 ?_
      exact jk_403_b2274 e K (jup (jup lv 5 (jI q926.1)) 6 (jI q937.1)) f0 f1 f2 f3 (jup_o rfl (jup_pi (lv := lv) (j := 4) (v := jI q926.1) (z := x4) f4))
  · rw [if_neg q946] at e
    refine ey_neq (cd_403 rfl) rfl rfl rfl q946 ?_
    cases e
set_option maxRecDepth 100000 in
theorem jk_403_b2277 {L : Nat} {xs : Nat → Int32} {x1 : Option Nat} {x2 : Option Nat} {x3 : Option Nat} {x4 : Int} {h : jH} {o : ((Int × jH) ⊕ jH)} {r : mm_R} (e : jd_403_b2277 L xs x1 x2 x3 x4 h = some o) (K : jsm (fun s => (∀ lv : jL, lv 0 = some (jR (some 1000000)) → lv 1 = some (jR x1) → lv 2 = some (jR x2) → lv 3 = some (jR x3) → lv 4 = some (jI s.1) → ey (mm_xt L xs) 72 403 23 lv [] s.2 r)) (fun x => (∀ lv : jL, ey (mm_xt L xs) 72 403 3175 lv [] x r)) o) : ∀ lv : jL, lv 0 = some (jR (some 1000000)) → lv 1 = some (jR x1) → lv 2 = some (jR x2) → lv 3 = some (jR x3) → lv 4 = some (jI x4) → ey (mm_xt L xs) 72 403 2277 lv [] h r := by
  intro lv f0 f1 f2 f3 f4
  unfold jd_403_b2277 at e
  refine ey_aload_n (cd_403 rfl) f1 ?_
  obtain ⟨a956, e957, e⟩ := jbind e
  refine ey_rs (s0 := [jR x1]) (s1 := [jR (some a956)]) (by rw [e957]) ?_
  obtain ⟨u958, e959, e⟩ := jbind e
  obtain ⟨q960, e961, e⟩ := jbind e
  refine ey_cv (s0 := [jR (some a956)]) (s1 := []) (st' := [jI q960.1]) (cd_403 rfl) mt_403 mt_168 rfl rfl rfl (jck_s e959) rfl (jsml_s rfl) rfl (mm_Runs.up (d := 1) (by decide) (ok_168 e961)) ?_
  refine ey_aload_n (cd_403 rfl) f2 ?_
  obtain ⟨a962, e963, e⟩ := jbind e
  refine ey_rs (s0 := [jR x2, jI q960.1]) (s1 := [jR (some a962), jI q960.1]) (by rw [e963]) ?_
  obtain ⟨u964, e965, e⟩ := jbind e
  have w966 := jlk_s e965
  refine ey_rs (s0 := [jR (some a962), jI q960.1]) (s1 := [jR (some 76), jI q960.1]) (by rw [w966.1]) ?_
  obtain ⟨q967, e968, e⟩ := jbind e
  refine ey_cv (s0 := [jR (some 76), jI q960.1]) (s1 := [jI q960.1]) (st' := [jI q967.1, jI q960.1]) (cd_403 rfl) mt_403 mt_332 rfl rfl rfl ⟨Nat.lt_of_lt_of_le (by decide) w966.2.1, w966.2.2.2.1⟩ rfl (jsml_s rfl) rfl (mm_Runs.up (d := 1) (by decide) (by have w := ok_332 (L := L) (xs := xs) (b := q960.2) (m := jmf q960.2) w966.2.1 w966.2.2.1 e968; rw [w966.2.2.2.2] at w; exact w)) ?_
  obtain ⟨h969, e970, e⟩ := jbind e
  refine ey_hs (Option.some.inj e970) ?_
  by_cases q971 : (jw q960.1) = (jw q967.1)
  · rw [if_pos q971] at e
    refine ey_ceq (cd_403 rfl) rfl rfl rfl q971 ?_
    exact jk_403_b3169 e K lv f0 f1 f2 f3 f4
  · rw [if_neg q971] at e
    refine ey_neq (cd_403 rfl) rfl rfl rfl q971 ?_
    cases e
set_option maxRecDepth 100000 in
theorem jk_403_b2331 {L : Nat} {xs : Nat → Int32} {x1 : Option Nat} {x2 : Option Nat} {x3 : Option Nat} {x4 : Int} {h : jH} {o : ((Int × jH) ⊕ jH)} {r : mm_R} (e : jd_403_b2331 L xs x1 x2 x3 x4 h = some o) (K : jsm (fun s => (∀ lv : jL, lv 0 = some (jR (some 1000000)) → lv 1 = some (jR x1) → lv 2 = some (jR x2) → lv 3 = some (jR x3) → lv 4 = some (jI s.1) → ey (mm_xt L xs) 72 403 23 lv [] s.2 r)) (fun x => (∀ lv : jL, ey (mm_xt L xs) 72 403 3175 lv [] x r)) o) : ∀ lv : jL, lv 0 = some (jR (some 1000000)) → lv 1 = some (jR x1) → lv 2 = some (jR x2) → lv 3 = some (jR x3) → lv 4 = some (jI x4) → ey (mm_xt L xs) 72 403 2331 lv [] h r := by
  intro lv f0 f1 f2 f3 f4
  unfold jd_403_b2331 at e
  refine ey_goto (cd_403 rfl) rfl ?_
  exact jk_403_b3169 e K lv f0 f1 f2 f3 f4
set_option maxRecDepth 100000 in
theorem jk_403_b2290 {L : Nat} {xs : Nat → Int32} {x1 : Option Nat} {x2 : Option Nat} {x3 : Option Nat} {x4 : Int} {h : jH} {o : ((Int × jH) ⊕ jH)} {r : mm_R} (e : jd_403_b2290 L xs x1 x2 x3 x4 h = some o) (K : jsm (fun s => (∀ lv : jL, lv 0 = some (jR (some 1000000)) → lv 1 = some (jR x1) → lv 2 = some (jR x2) → lv 3 = some (jR x3) → lv 4 = some (jI s.1) → ey (mm_xt L xs) 72 403 23 lv [] s.2 r)) (fun x => (∀ lv : jL, ey (mm_xt L xs) 72 403 3175 lv [] x r)) o) : ∀ lv : jL, lv 0 = some (jR (some 1000000)) → lv 1 = some (jR x1) → lv 2 = some (jR x2) → lv 3 = some (jR x3) → lv 4 = some (jI x4) → ey (mm_xt L xs) 72 403 2290 lv [] h r := by
  intro lv f0 f1 f2 f3 f4
  unfold jd_403_b2290 at e
  refine ey_aload_n (cd_403 rfl) f1 ?_
  refine ey_aload_n (cd_403 rfl) f3 ?_
  obtain ⟨q973, e974, e⟩ := jbind e
  refine ey_cs (s0 := [jR x3, jR x1]) (s1 := []) (st' := [jI q973.1]) (cd_403 rfl) mt_403 mt_390 rfl (by decide) rfl rfl (jsml_s rfl) rfl (ok_390 e974) ?_
  refine ey_istore (cd_403 rfl) mt_403 rfl ?_
  refine ey_aload_n (cd_403 rfl) f2 ?_
  obtain ⟨a975, e976, e⟩ := jbind e
  refine ey_rs (s0 := [jR x2]) (s1 := [jR (some a975)]) (by rw [e976]) ?_
  obtain ⟨u977, e978, e⟩ := jbind e
  have w979 := jlk_s e978
  refine ey_rs (s0 := [jR (some a975)]) (s1 := [jR (some 76)]) (by rw [w979.1]) ?_
  obtain ⟨q980, e981, e⟩ := jbind e
  refine ey_cv (s0 := [jR (some 76)]) (s1 := []) (st' := [jI q980.1]) (cd_403 rfl) mt_403 mt_344 rfl rfl rfl ⟨Nat.lt_of_lt_of_le (by decide) w979.2.1, w979.2.2.2.1⟩ rfl (jsml_s rfl) rfl (mm_Runs.up (d := 4) (by decide) (by have w := ok_344 (L := L) (xs := xs) (b := q973.2) (m := jmf q973.2) w979.2.1 w979.2.2.1 e981; rw [w979.2.2.2.2] at w; exact w)) ?_
  obtain ⟨h982, e983, e⟩ := jbind e
  refine ey_hs (Option.some.inj e983) ?_
  refine ey_istore (cd_403 rfl) mt_403 rfl ?_
  refine ey_aload_n (cd_403 rfl) f2 ?_
  obtain ⟨a984, e985, e⟩ := jbind e
  refine ey_rs (s0 := [jR x2]) (s1 := [jR (some a984)]) (by rw [e985]) ?_
  obtain ⟨u986, e987, e⟩ := jbind e
  have w988 := jlk_s e987
  refine ey_rs (s0 := [jR (some a984)]) (s1 := [jR (some 76)]) (by rw [w988.1]) ?_
  refine ey_cv (s0 := [jR (some 76)]) (s1 := []) (st' := [jI (jd_203 (jmf h982))]) (cd_403 rfl) mt_403 mt_203 rfl rfl rfl ⟨Nat.lt_of_lt_of_le (by decide) w988.2.1, w988.2.2.2.1⟩ rfl (jsml_s rfl) rfl (mm_Runs.up (d := 1) (by decide) (by have w := ok_203 (L := L) (xs := xs) (b := h982) (m := jmf h982) w988.2.1 w988.2.2.1 ; rw [w988.2.2.2.2] at w; exact w)) ?_
  refine ey_iload (cd_403 rfl) (jup_pi (lv := (jup lv 5 (jI q973.1))) (j := 5) (v := jI q980.1) (z := q973.1) rfl) ?_
  by_cases q989 : (jw (jd_203 (jmf h982))) = (jw q973.1)
  · rw [if_pos q989] at e
    refine ey_ceq (cd_403 rfl) rfl rfl rfl q989 ?_
    refine ey_iload (cd_403 rfl) (jup_pi (lv := (jup lv 5 (jI q973.1))) (j := 5) (v := jI q980.1) (z := q973.1) rfl) ?_
    by_cases q990 : (jw q973.1) = 0
    · rw [if_pos q990] at e
      refine ey_yne (cd_403 rfl) rfl rfl (fun w => w q990) ?_
      refine ey_aload_n (cd_403 rfl) f3 ?_
      refine ey_iconst (cd_403 rfl) ?_
      obtain ⟨a991, e992, e⟩ := jbind e
      refine ey_rs (s0 := [jI 0, jR x3]) (s1 := [jI 0, jR (some a991)]) (by rw [e992]) ?_
      obtain ⟨v993, e994, e⟩ := jbind e
      refine ey_lald (cd_403 rfl) e994 ?_
      refine ey_iload (cd_403 rfl) rfl ?_
      refine ey_i2l (cd_403 rfl) ?_
      refine ey_lcmp (cd_403 rfl) ?_
      by_cases q995 : (jwl v993) = (jw q980.1)
      · rw [if_pos q995] at e
        refine ey_zeq (cd_403 rfl) rfl rfl ((jlc_eq rfl (jwl_jw _)).mpr q995) ?_
        exact jk_403_b2331 e K (jup (jup lv 5 (jI q973.1)) 6 (jI q980.1)) f0 f1 f2 f3 (jup_o rfl (jup_pi (lv := lv) (j := 4) (v := jI q973.1) (z := x4) f4))
      · rw [if_neg q995] at e
        refine ey_yeq (cd_403 rfl) rfl rfl (fun w => q995 ((jlc_eq rfl (jwl_jw _)).mp w)) ?_
        cases e
    · rw [if_neg q990] at e
      refine ey_zne (cd_403 rfl) rfl rfl q990 ?_
      exact jk_403_b2331 e K (jup (jup lv 5 (jI q973.1)) 6 (jI q980.1)) f0 f1 f2 f3 (jup_o rfl (jup_pi (lv := lv) (j := 4) (v := jI q973.1) (z := x4) f4))
  · rw [if_neg q989] at e
    refine ey_neq (cd_403 rfl) rfl rfl rfl q989 ?_
    cases e
set_option maxRecDepth 100000 in
theorem jk_403_b2411 {L : Nat} {xs : Nat → Int32} {x1 : Option Nat} {x2 : Option Nat} {x3 : Option Nat} {x4 : Int} {h : jH} {o : ((Int × jH) ⊕ jH)} {r : mm_R} (e : jd_403_b2411 L xs x1 x2 x3 x4 h = some o) (K : jsm (fun s => (∀ lv : jL, lv 0 = some (jR (some 1000000)) → lv 1 = some (jR x1) → lv 2 = some (jR x2) → lv 3 = some (jR x3) → lv 4 = some (jI s.1) → ey (mm_xt L xs) 72 403 23 lv [] s.2 r)) (fun x => (∀ lv : jL, ey (mm_xt L xs) 72 403 3175 lv [] x r)) o) : ∀ lv : jL, lv 0 = some (jR (some 1000000)) → lv 1 = some (jR x1) → lv 2 = some (jR x2) → lv 3 = some (jR x3) → lv 4 = some (jI x4) → ey (mm_xt L xs) 72 403 2411 lv [] h r := by
  intro lv f0 f1 f2 f3 f4
  unfold jd_403_b2411 at e
  refine ey_goto (cd_403 rfl) rfl ?_
  exact jk_403_b3169 e K lv f0 f1 f2 f3 f4
set_option maxRecDepth 100000 in
theorem jk_403_b2334 {L : Nat} {xs : Nat → Int32} {x1 : Option Nat} {x2 : Option Nat} {x3 : Option Nat} {x4 : Int} {h : jH} {o : ((Int × jH) ⊕ jH)} {r : mm_R} (e : jd_403_b2334 L xs x1 x2 x3 x4 h = some o) (K : jsm (fun s => (∀ lv : jL, lv 0 = some (jR (some 1000000)) → lv 1 = some (jR x1) → lv 2 = some (jR x2) → lv 3 = some (jR x3) → lv 4 = some (jI s.1) → ey (mm_xt L xs) 72 403 23 lv [] s.2 r)) (fun x => (∀ lv : jL, ey (mm_xt L xs) 72 403 3175 lv [] x r)) o) : ∀ lv : jL, lv 0 = some (jR (some 1000000)) → lv 1 = some (jR x1) → lv 2 = some (jR x2) → lv 3 = some (jR x3) → lv 4 = some (jI x4) → ey (mm_xt L xs) 72 403 2334 lv [] h r := by
  intro lv f0 f1 f2 f3 f4
  unfold jd_403_b2334 at e
  refine ey_aload_n (cd_403 rfl) f1 ?_
  refine ey_aload_n (cd_403 rfl) f0 ?_
  refine ey_iload (cd_403 rfl) f4 ?_
  refine ey_iconst (cd_403 rfl) ?_
  refine ey_iadd (cd_403 rfl) ?_
  obtain ⟨v997, e998, e⟩ := jbind e
  refine ey_iasc (cd_403 rfl) e998 ?_
  refine ey_aload_n (cd_403 rfl) f0 ?_
  refine ey_iload (cd_403 rfl) f4 ?_
  refine ey_iconst (cd_403 rfl) ?_
  refine ey_iadd (cd_403 rfl) ?_
  obtain ⟨v999, e1000, e⟩ := jbind e
  refine ey_iasc (cd_403 rfl) e1000 ?_
  refine ey_aload_n (cd_403 rfl) f0 ?_
  refine ey_iload (cd_403 rfl) f4 ?_
  refine ey_iconst (cd_403 rfl) ?_
  refine ey_iadd (cd_403 rfl) ?_
  obtain ⟨v1001, e1002, e⟩ := jbind e
  refine ey_iasc (cd_403 rfl) e1002 ?_
  refine ey_aload_n (cd_403 rfl) f3 ?_
  obtain ⟨q1003, e1004, e⟩ := jbind e
  refine ey_cs (s0 := [jR x3, jI v1001, jI v999, jI v997, jR x1]) (s1 := []) (st' := [jI q1003.1]) (cd_403 rfl) mt_403 mt_391 rfl (by decide) rfl rfl (jsml_s rfl) rfl (mm_Runs.up (d := 5) (by decide) (ok_391 e1004)) ?_
  refine ey_istore (cd_403 rfl) mt_403 rfl ?_
  refine ey_aload_n (cd_403 rfl) f2 ?_
  refine ey_aload_n (cd_403 rfl) f0 ?_
  refine ey_iload (cd_403 rfl) (jup_pi (lv := lv) (j := 4) (v := jI q1003.1) (z := x4) f4) ?_
  refine ey_iconst (cd_403 rfl) ?_
  refine ey_iadd (cd_403 rfl) ?_
  obtain ⟨v1005, e1006, e⟩ := jbind e
  refine ey_iasc (cd_403 rfl) e1006 ?_
  refine ey_aload_n (cd_403 rfl) f0 ?_
  refine ey_iload (cd_403 rfl) (jup_pi (lv := lv) (j := 4) (v := jI q1003.1) (z := x4) f4) ?_
  refine ey_iconst (cd_403 rfl) ?_
  refine ey_iadd (cd_403 rfl) ?_
  obtain ⟨v1007, e1008, e⟩ := jbind e
  refine ey_iasc (cd_403 rfl) e1008 ?_
  refine ey_aload_n (cd_403 rfl) f0 ?_
  refine ey_iload (cd_403 rfl) (jup_pi (lv := lv) (j := 4) (v := jI q1003.1) (z := x4) f4) ?_
  refine ey_iconst (cd_403 rfl) ?_
  refine ey_iadd (cd_403 rfl) ?_
  obtain ⟨v1009, e1010, e⟩ := jbind e
  refine ey_iasc (cd_403 rfl) e1010 ?_
  obtain ⟨a1011, e1012, e⟩ := jbind e
  refine ey_rs (s0 := [jI v1009, jI v1007, jI v1005, jR x2]) (s1 := [jI v1009, jI v1007, jI v1005, jR (some a1011)]) (by rw [e1012]) ?_
  obtain ⟨u1013, e1014, e⟩ := jbind e
  have w1015 := jlk_s e1014
  refine ey_rs (s0 := [jI v1009, jI v1007, jI v1005, jR (some a1011)]) (s1 := [jI v1009, jI v1007, jI v1005, jR (some 76)]) (by rw [w1015.1]) ?_
  obtain ⟨q1016, e1017, e⟩ := jbind e
  refine ey_cv (s0 := [jI v1009, jI v1007, jI v1005, jR (some 76)]) (s1 := []) (st' := [jI q1016.1]) (cd_403 rfl) mt_403 mt_347 rfl rfl rfl ⟨Nat.lt_of_lt_of_le (by decide) w1015.2.1, w1015.2.2.2.1⟩ rfl (jsml_s rfl) rfl (mm_Runs.up (d := 4) (by decide) (by have w := ok_347 (L := L) (xs := xs) (b := q1003.2) (m := jmf q1003.2) w1015.2.1 w1015.2.2.1 e1017; rw [w1015.2.2.2.2] at w; exact w)) ?_
  obtain ⟨h1018, e1019, e⟩ := jbind e
  refine ey_hs (Option.some.inj e1019) ?_
  refine ey_istore (cd_403 rfl) mt_403 rfl ?_
  refine ey_aload_n (cd_403 rfl) f2 ?_
  obtain ⟨a1020, e1021, e⟩ := jbind e
  refine ey_rs (s0 := [jR x2]) (s1 := [jR (some a1020)]) (by rw [e1021]) ?_
  obtain ⟨u1022, e1023, e⟩ := jbind e
  have w1024 := jlk_s e1023
  refine ey_rs (s0 := [jR (some a1020)]) (s1 := [jR (some 76)]) (by rw [w1024.1]) ?_
  refine ey_cv (s0 := [jR (some 76)]) (s1 := []) (st' := [jI (jd_203 (jmf h1018))]) (cd_403 rfl) mt_403 mt_203 rfl rfl rfl ⟨Nat.lt_of_lt_of_le (by decide) w1024.2.1, w1024.2.2.2.1⟩ rfl (jsml_s rfl) rfl (mm_Runs.up (d := 1) (by decide) (by have w := ok_203 (L := L) (xs := xs) (b := h1018) (m := jmf h1018) w1024.2.1 w1024.2.2.1 ; rw [w1024.2.2.2.2] at w; exact w)) ?_
  refine ey_iload (cd_403 rfl) (jup_pi (lv := (jup lv 5 (jI q1003.1))) (j := 5) (v := jI q1016.1) (z := q1003.1) rfl) ?_
  by_cases q1025 : (jw (jd_203 (jmf h1018))) = (jw q1003.1)
  · rw [if_pos q1025] at e
    refine ey_ceq (cd_403 rfl) rfl rfl rfl q1025 ?_
    refine ey_iload (cd_403 rfl) (jup_pi (lv := (jup lv 5 (jI q1003.1))) (j := 5) (v := jI q1016.1) (z := q1003.1) rfl) ?_
    by_cases q1026 : (jw q1003.1) = 0
    · rw [if_pos q1026] at e
      refine ey_yne (cd_403 rfl) rfl rfl (fun w => w q1026) ?_
      refine ey_aload_n (cd_403 rfl) f3 ?_
      refine ey_iconst (cd_403 rfl) ?_
      obtain ⟨a1027, e1028, e⟩ := jbind e
      refine ey_rs (s0 := [jI 0, jR x3]) (s1 := [jI 0, jR (some a1027)]) (by rw [e1028]) ?_
      obtain ⟨v1029, e1030, e⟩ := jbind e
      refine ey_lald (cd_403 rfl) e1030 ?_
      refine ey_iload (cd_403 rfl) rfl ?_
      refine ey_i2l (cd_403 rfl) ?_
      refine ey_lcmp (cd_403 rfl) ?_
      by_cases q1031 : (jwl v1029) = (jw q1016.1)
      · rw [if_pos q1031] at e
        refine ey_zeq (cd_403 rfl) rfl rfl ((jlc_eq rfl (jwl_jw _)).mpr q1031) ?_
        exact jk_403_b2411 e K (jup (jup lv 5 (jI q1003.1)) 6 (jI q1016.1)) f0 f1 f2 f3 (jup_o rfl (jup_pi (lv := lv) (j := 4) (v := jI q1003.1) (z := x4) f4))
      · rw [if_neg q1031] at e
        refine ey_yeq (cd_403 rfl) rfl rfl (fun w => q1031 ((jlc_eq rfl (jwl_jw _)).mp w)) ?_
        cases e
    · rw [if_neg q1026] at e
      refine ey_zne (cd_403 rfl) rfl rfl q1026 ?_
      exact jk_403_b2411 e K (jup (jup lv 5 (jI q1003.1)) 6 (jI q1016.1)) f0 f1 f2 f3 (jup_o rfl (jup_pi (lv := lv) (j := 4) (v := jI q1003.1) (z := x4) f4))
  · rw [if_neg q1025] at e
    refine ey_neq (cd_403 rfl) rfl rfl rfl q1025 ?_
    cases e
set_option maxRecDepth 100000 in
theorem jk_403_b2491 {L : Nat} {xs : Nat → Int32} {x1 : Option Nat} {x2 : Option Nat} {x3 : Option Nat} {x4 : Int} {h : jH} {o : ((Int × jH) ⊕ jH)} {r : mm_R} (e : jd_403_b2491 L xs x1 x2 x3 x4 h = some o) (K : jsm (fun s => (∀ lv : jL, lv 0 = some (jR (some 1000000)) → lv 1 = some (jR x1) → lv 2 = some (jR x2) → lv 3 = some (jR x3) → lv 4 = some (jI s.1) → ey (mm_xt L xs) 72 403 23 lv [] s.2 r)) (fun x => (∀ lv : jL, ey (mm_xt L xs) 72 403 3175 lv [] x r)) o) : ∀ lv : jL, lv 0 = some (jR (some 1000000)) → lv 1 = some (jR x1) → lv 2 = some (jR x2) → lv 3 = some (jR x3) → lv 4 = some (jI x4) → ey (mm_xt L xs) 72 403 2491 lv [] h r := by
  intro lv f0 f1 f2 f3 f4
  unfold jd_403_b2491 at e
  refine ey_goto (cd_403 rfl) rfl ?_
  exact jk_403_b3169 e K lv f0 f1 f2 f3 f4
set_option maxRecDepth 100000 in
theorem jk_403_b2414 {L : Nat} {xs : Nat → Int32} {x1 : Option Nat} {x2 : Option Nat} {x3 : Option Nat} {x4 : Int} {h : jH} {o : ((Int × jH) ⊕ jH)} {r : mm_R} (e : jd_403_b2414 L xs x1 x2 x3 x4 h = some o) (K : jsm (fun s => (∀ lv : jL, lv 0 = some (jR (some 1000000)) → lv 1 = some (jR x1) → lv 2 = some (jR x2) → lv 3 = some (jR x3) → lv 4 = some (jI s.1) → ey (mm_xt L xs) 72 403 23 lv [] s.2 r)) (fun x => (∀ lv : jL, ey (mm_xt L xs) 72 403 3175 lv [] x r)) o) : ∀ lv : jL, lv 0 = some (jR (some 1000000)) → lv 1 = some (jR x1) → lv 2 = some (jR x2) → lv 3 = some (jR x3) → lv 4 = some (jI x4) → ey (mm_xt L xs) 72 403 2414 lv [] h r := by
  intro lv f0 f1 f2 f3 f4
  unfold jd_403_b2414 at e
  refine ey_aload_n (cd_403 rfl) f1 ?_
  refine ey_aload_n (cd_403 rfl) f0 ?_
  refine ey_iload (cd_403 rfl) f4 ?_
  refine ey_iconst (cd_403 rfl) ?_
  refine ey_iadd (cd_403 rfl) ?_
  obtain ⟨v1033, e1034, e⟩ := jbind e
  refine ey_iasc (cd_403 rfl) e1034 ?_
  refine ey_aload_n (cd_403 rfl) f0 ?_
  refine ey_iload (cd_403 rfl) f4 ?_
  refine ey_iconst (cd_403 rfl) ?_
  refine ey_iadd (cd_403 rfl) ?_
  obtain ⟨v1035, e1036, e⟩ := jbind e
  refine ey_iasc (cd_403 rfl) e1036 ?_
  refine ey_aload_n (cd_403 rfl) f0 ?_
  refine ey_iload (cd_403 rfl) f4 ?_
  refine ey_iconst (cd_403 rfl) ?_
  refine ey_iadd (cd_403 rfl) ?_
  obtain ⟨v1037, e1038, e⟩ := jbind e
  refine ey_iasc (cd_403 rfl) e1038 ?_
  refine ey_aload_n (cd_403 rfl) f3 ?_
  obtain ⟨q1039, e1040, e⟩ := jbind e
  refine ey_cs (s0 := [jR x3, jI v1037, jI v1035, jI v1033, jR x1]) (s1 := []) (st' := [jI q1039.1]) (cd_403 rfl) mt_403 mt_392 rfl (by decide) rfl rfl (jsml_s rfl) rfl (mm_Runs.up (d := 4) (by decide) (ok_392 e1040)) ?_
  refine ey_istore (cd_403 rfl) mt_403 rfl ?_
  refine ey_aload_n (cd_403 rfl) f2 ?_
  refine ey_aload_n (cd_403 rfl) f0 ?_
  refine ey_iload (cd_403 rfl) (jup_pi (lv := lv) (j := 4) (v := jI q1039.1) (z := x4) f4) ?_
  refine ey_iconst (cd_403 rfl) ?_
  refine ey_iadd (cd_403 rfl) ?_
  obtain ⟨v1041, e1042, e⟩ := jbind e
  refine ey_iasc (cd_403 rfl) e1042 ?_
  refine ey_aload_n (cd_403 rfl) f0 ?_
  refine ey_iload (cd_403 rfl) (jup_pi (lv := lv) (j := 4) (v := jI q1039.1) (z := x4) f4) ?_
  refine ey_iconst (cd_403 rfl) ?_
  refine ey_iadd (cd_403 rfl) ?_
  obtain ⟨v1043, e1044, e⟩ := jbind e
  refine ey_iasc (cd_403 rfl) e1044 ?_
  refine ey_aload_n (cd_403 rfl) f0 ?_
  refine ey_iload (cd_403 rfl) (jup_pi (lv := lv) (j := 4) (v := jI q1039.1) (z := x4) f4) ?_
  refine ey_iconst (cd_403 rfl) ?_
  refine ey_iadd (cd_403 rfl) ?_
  obtain ⟨v1045, e1046, e⟩ := jbind e
  refine ey_iasc (cd_403 rfl) e1046 ?_
  obtain ⟨a1047, e1048, e⟩ := jbind e
  refine ey_rs (s0 := [jI v1045, jI v1043, jI v1041, jR x2]) (s1 := [jI v1045, jI v1043, jI v1041, jR (some a1047)]) (by rw [e1048]) ?_
  obtain ⟨u1049, e1050, e⟩ := jbind e
  have w1051 := jlk_s e1050
  refine ey_rs (s0 := [jI v1045, jI v1043, jI v1041, jR (some a1047)]) (s1 := [jI v1045, jI v1043, jI v1041, jR (some 76)]) (by rw [w1051.1]) ?_
  obtain ⟨q1052, e1053, e⟩ := jbind e
  refine ey_cv (s0 := [jI v1045, jI v1043, jI v1041, jR (some 76)]) (s1 := []) (st' := [jI q1052.1]) (cd_403 rfl) mt_403 mt_348 rfl rfl rfl ⟨Nat.lt_of_lt_of_le (by decide) w1051.2.1, w1051.2.2.2.1⟩ rfl (jsml_s rfl) rfl (mm_Runs.up (d := 3) (by decide) (by have w := ok_348 (L := L) (xs := xs) (b := q1039.2) (m := jmf q1039.2) w1051.2.1 w1051.2.2.1 e1053; rw [w1051.2.2.2.2] at w; exact w)) ?_
  obtain ⟨h1054, e1055, e⟩ := jbind e
  refine ey_hs (Option.some.inj e1055) ?_
  refine ey_istore (cd_403 rfl) mt_403 rfl ?_
  refine ey_aload_n (cd_403 rfl) f2 ?_
  obtain ⟨a1056, e1057, e⟩ := jbind e
  refine ey_rs (s0 := [jR x2]) (s1 := [jR (some a1056)]) (by rw [e1057]) ?_
  obtain ⟨u1058, e1059, e⟩ := jbind e
  have w1060 := jlk_s e1059
  refine ey_rs (s0 := [jR (some a1056)]) (s1 := [jR (some 76)]) (by rw [w1060.1]) ?_
  refine ey_cv (s0 := [jR (some 76)]) (s1 := []) (st' := [jI (jd_203 (jmf h1054))]) (cd_403 rfl) mt_403 mt_203 rfl rfl rfl ⟨Nat.lt_of_lt_of_le (by decide) w1060.2.1, w1060.2.2.2.1⟩ rfl (jsml_s rfl) rfl (mm_Runs.up (d := 1) (by decide) (by have w := ok_203 (L := L) (xs := xs) (b := h1054) (m := jmf h1054) w1060.2.1 w1060.2.2.1 ; rw [w1060.2.2.2.2] at w; exact w)) ?_
  refine ey_iload (cd_403 rfl) (jup_pi (lv := (jup lv 5 (jI q1039.1))) (j := 5) (v := jI q1052.1) (z := q1039.1) rfl) ?_
  by_cases q1061 : (jw (jd_203 (jmf h1054))) = (jw q1039.1)
  · rw [if_pos q1061] at e
    refine ey_ceq (cd_403 rfl) rfl rfl rfl q1061 ?_
    refine ey_iload (cd_403 rfl) (jup_pi (lv := (jup lv 5 (jI q1039.1))) (j := 5) (v := jI q1052.1) (z := q1039.1) rfl) ?_
    by_cases q1062 : (jw q1039.1) = 0
    · rw [if_pos q1062] at e
      refine ey_yne (cd_403 rfl) rfl rfl (fun w => w q1062) ?_
      refine ey_aload_n (cd_403 rfl) f3 ?_
      refine ey_iconst (cd_403 rfl) ?_
      obtain ⟨a1063, e1064, e⟩ := jbind e
      refine ey_rs (s0 := [jI 0, jR x3]) (s1 := [jI 0, jR (some a1063)]) (by rw [e1064]) ?_
      obtain ⟨v1065, e1066, e⟩ := jbind e
      refine ey_lald (cd_403 rfl) e1066 ?_
      refine ey_iload (cd_403 rfl) rfl ?_
      refine ey_i2l (cd_403 rfl) ?_
      refine ey_lcmp (cd_403 rfl) ?_
      by_cases q1067 : (jwl v1065) = (jw q1052.1)
      · rw [if_pos q1067] at e
        refine ey_zeq (cd_403 rfl) rfl rfl ((jlc_eq rfl (jwl_jw _)).mpr q1067) ?_
        exact jk_403_b2491 e K (jup (jup lv 5 (jI q1039.1)) 6 (jI q1052.1)) f0 f1 f2 f3 (jup_o rfl (jup_pi (lv := lv) (j := 4) (v := jI q1039.1) (z := x4) f4))
      · rw [if_neg q1067] at e
        refine ey_yeq (cd_403 rfl) rfl rfl (fun w => q1067 ((jlc_eq rfl (jwl_jw _)).mp w)) ?_
        cases e
    · rw [if_neg q1062] at e
      refine ey_zne (cd_403 rfl) rfl rfl q1062 ?_
      exact jk_403_b2491 e K (jup (jup lv 5 (jI q1039.1)) 6 (jI q1052.1)) f0 f1 f2 f3 (jup_o rfl (jup_pi (lv := lv) (j := 4) (v := jI q1039.1) (z := x4) f4))
  · rw [if_neg q1061] at e
    refine ey_neq (cd_403 rfl) rfl rfl rfl q1061 ?_
    cases e
set_option maxRecDepth 100000 in
theorem jk_403_b2566 {L : Nat} {xs : Nat → Int32} {x1 : Option Nat} {x2 : Option Nat} {x3 : Option Nat} {x4 : Int} {h : jH} {o : ((Int × jH) ⊕ jH)} {r : mm_R} (e : jd_403_b2566 L xs x1 x2 x3 x4 h = some o) (K : jsm (fun s => (∀ lv : jL, lv 0 = some (jR (some 1000000)) → lv 1 = some (jR x1) → lv 2 = some (jR x2) → lv 3 = some (jR x3) → lv 4 = some (jI s.1) → ey (mm_xt L xs) 72 403 23 lv [] s.2 r)) (fun x => (∀ lv : jL, ey (mm_xt L xs) 72 403 3175 lv [] x r)) o) : ∀ lv : jL, lv 0 = some (jR (some 1000000)) → lv 1 = some (jR x1) → lv 2 = some (jR x2) → lv 3 = some (jR x3) → lv 4 = some (jI x4) → ey (mm_xt L xs) 72 403 2566 lv [] h r := by
  intro lv f0 f1 f2 f3 f4
  unfold jd_403_b2566 at e
  refine ey_goto (cd_403 rfl) rfl ?_
  exact jk_403_b3169 e K lv f0 f1 f2 f3 f4
set_option maxRecDepth 100000 in
theorem jk_403_b2494 {L : Nat} {xs : Nat → Int32} {x1 : Option Nat} {x2 : Option Nat} {x3 : Option Nat} {x4 : Int} {h : jH} {o : ((Int × jH) ⊕ jH)} {r : mm_R} (e : jd_403_b2494 L xs x1 x2 x3 x4 h = some o) (K : jsm (fun s => (∀ lv : jL, lv 0 = some (jR (some 1000000)) → lv 1 = some (jR x1) → lv 2 = some (jR x2) → lv 3 = some (jR x3) → lv 4 = some (jI s.1) → ey (mm_xt L xs) 72 403 23 lv [] s.2 r)) (fun x => (∀ lv : jL, ey (mm_xt L xs) 72 403 3175 lv [] x r)) o) : ∀ lv : jL, lv 0 = some (jR (some 1000000)) → lv 1 = some (jR x1) → lv 2 = some (jR x2) → lv 3 = some (jR x3) → lv 4 = some (jI x4) → ey (mm_xt L xs) 72 403 2494 lv [] h r := by
  intro lv f0 f1 f2 f3 f4
  unfold jd_403_b2494 at e
  refine ey_aload_n (cd_403 rfl) f1 ?_
  refine ey_aload_n (cd_403 rfl) f0 ?_
  refine ey_iload (cd_403 rfl) f4 ?_
  refine ey_iconst (cd_403 rfl) ?_
  refine ey_iadd (cd_403 rfl) ?_
  obtain ⟨v1069, e1070, e⟩ := jbind e
  refine ey_iasc (cd_403 rfl) e1070 ?_
  refine ey_aload_n (cd_403 rfl) f0 ?_
  refine ey_iload (cd_403 rfl) f4 ?_
  refine ey_iconst (cd_403 rfl) ?_
  refine ey_iadd (cd_403 rfl) ?_
  obtain ⟨v1071, e1072, e⟩ := jbind e
  refine ey_iasc (cd_403 rfl) e1072 ?_
  refine ey_aload_n (cd_403 rfl) f3 ?_
  obtain ⟨q1073, e1074, e⟩ := jbind e
  refine ey_cs (s0 := [jR x3, jI v1071, jI v1069, jR x1]) (s1 := []) (st' := [jI q1073.1]) (cd_403 rfl) mt_403 mt_393 rfl (by decide) rfl rfl (jsml_s rfl) rfl (mm_Runs.up (d := 4) (by decide) (ok_393 e1074)) ?_
  refine ey_istore (cd_403 rfl) mt_403 rfl ?_
  refine ey_aload_n (cd_403 rfl) f2 ?_
  refine ey_aload_n (cd_403 rfl) f0 ?_
  refine ey_iload (cd_403 rfl) (jup_pi (lv := lv) (j := 4) (v := jI q1073.1) (z := x4) f4) ?_
  refine ey_iconst (cd_403 rfl) ?_
  refine ey_iadd (cd_403 rfl) ?_
  obtain ⟨v1075, e1076, e⟩ := jbind e
  refine ey_iasc (cd_403 rfl) e1076 ?_
  refine ey_aload_n (cd_403 rfl) f0 ?_
  refine ey_iload (cd_403 rfl) (jup_pi (lv := lv) (j := 4) (v := jI q1073.1) (z := x4) f4) ?_
  refine ey_iconst (cd_403 rfl) ?_
  refine ey_iadd (cd_403 rfl) ?_
  obtain ⟨v1077, e1078, e⟩ := jbind e
  refine ey_iasc (cd_403 rfl) e1078 ?_
  obtain ⟨a1079, e1080, e⟩ := jbind e
  refine ey_rs (s0 := [jI v1077, jI v1075, jR x2]) (s1 := [jI v1077, jI v1075, jR (some a1079)]) (by rw [e1080]) ?_
  obtain ⟨u1081, e1082, e⟩ := jbind e
  have w1083 := jlk_s e1082
  refine ey_rs (s0 := [jI v1077, jI v1075, jR (some a1079)]) (s1 := [jI v1077, jI v1075, jR (some 76)]) (by rw [w1083.1]) ?_
  obtain ⟨q1084, e1085, e⟩ := jbind e
  refine ey_cv (s0 := [jI v1077, jI v1075, jR (some 76)]) (s1 := []) (st' := [jI q1084.1]) (cd_403 rfl) mt_403 mt_350 rfl rfl rfl ⟨Nat.lt_of_lt_of_le (by decide) w1083.2.1, w1083.2.2.2.1⟩ rfl (jsml_s rfl) rfl (mm_Runs.up (d := 4) (by decide) (by have w := ok_350 (L := L) (xs := xs) (b := q1073.2) (m := jmf q1073.2) w1083.2.1 w1083.2.2.1 e1085; rw [w1083.2.2.2.2] at w; exact w)) ?_
  obtain ⟨h1086, e1087, e⟩ := jbind e
  refine ey_hs (Option.some.inj e1087) ?_
  refine ey_istore (cd_403 rfl) mt_403 rfl ?_
  refine ey_aload_n (cd_403 rfl) f2 ?_
  obtain ⟨a1088, e1089, e⟩ := jbind e
  refine ey_rs (s0 := [jR x2]) (s1 := [jR (some a1088)]) (by rw [e1089]) ?_
  obtain ⟨u1090, e1091, e⟩ := jbind e
  have w1092 := jlk_s e1091
  refine ey_rs (s0 := [jR (some a1088)]) (s1 := [jR (some 76)]) (by rw [w1092.1]) ?_
  refine ey_cv (s0 := [jR (some 76)]) (s1 := []) (st' := [jI (jd_203 (jmf h1086))]) (cd_403 rfl) mt_403 mt_203 rfl rfl rfl ⟨Nat.lt_of_lt_of_le (by decide) w1092.2.1, w1092.2.2.2.1⟩ rfl (jsml_s rfl) rfl (mm_Runs.up (d := 1) (by decide) (by have w := ok_203 (L := L) (xs := xs) (b := h1086) (m := jmf h1086) w1092.2.1 w1092.2.2.1 ; rw [w1092.2.2.2.2] at w; exact w)) ?_
  refine ey_iload (cd_403 rfl) (jup_pi (lv := (jup lv 5 (jI q1073.1))) (j := 5) (v := jI q1084.1) (z := q1073.1) rfl) ?_
  by_cases q1093 : (jw (jd_203 (jmf h1086))) = (jw q1073.1)
  · rw [if_pos q1093] at e
    refine ey_ceq (cd_403 rfl) rfl rfl rfl q1093 ?_
    refine ey_iload (cd_403 rfl) (jup_pi (lv := (jup lv 5 (jI q1073.1))) (j := 5) (v := jI q1084.1) (z := q1073.1) rfl) ?_
    by_cases q1094 : (jw q1073.1) = 0
    · rw [if_pos q1094] at e
      refine ey_yne (cd_403 rfl) rfl rfl (fun w => w q1094) ?_
      refine ey_aload_n (cd_403 rfl) f3 ?_
      refine ey_iconst (cd_403 rfl) ?_
      obtain ⟨a1095, e1096, e⟩ := jbind e
      refine ey_rs (s0 := [jI 0, jR x3]) (s1 := [jI 0, jR (some a1095)]) (by rw [e1096]) ?_
      obtain ⟨v1097, e1098, e⟩ := jbind e
      refine ey_lald (cd_403 rfl) e1098 ?_
      refine ey_iload (cd_403 rfl) rfl ?_
      have K1100 : ∀ lv : jL, lv 0 = some (jR (some 1000000)) → lv 1 = some (jR x1) → lv 2 = some (jR x2) → lv 3 = some (jR x3) → lv 4 = some (jI x4) → ey (mm_xt L xs) 72 403 2560 lv [jJ (if (jw q1084.1) = 0 then 0 else 1), jJ v1097] h1086 r := by
        intro lv g0 g1 g2 g3 g4
        refine ey_lcmp (cd_403 rfl) ?_
        by_cases q1099 : (jwl v1097) = (jwl (if (jw q1084.1) = 0 then 0 else 1))
        · rw [if_pos q1099] at e
          refine ey_zeq (cd_403 rfl) rfl rfl ((jlc_eq rfl rfl).mpr q1099) ?_
          exact jk_403_b2566 e K lv g0 g1 g2 g3 g4
        · rw [if_neg q1099] at e
          refine ey_yeq (cd_403 rfl) rfl rfl (fun w => q1099 ((jlc_eq rfl rfl).mp w)) ?_
          cases e
      by_cases q1101 : (jw q1084.1) = 0
      · refine ey_zeq (cd_403 rfl) rfl rfl q1101 ?_
        refine ey_lconst0 (cd_403 rfl) ?_
        exact ey_rs (s0 := [jJ 0, jJ v1097]) (s1 := [jJ (if (jw q1084.1) = 0 then 0 else 1), jJ v1097]) (by rw [show ((if (jw q1084.1) = 0 then 0 else 1) : Int) = 0 from (if_pos q1101)]) (K1100 (jup (jup lv 5 (jI q1073.1)) 6 (jI q1084.1)) f0 f1 f2 f3 (jup_o rfl (jup_pi (lv := lv) (j := 4) (v := jI q1073.1) (z := x4) f4)))
      · refine ey_yeq (cd_403 rfl) rfl rfl q1101 ?_
        refine ey_lconst1 (cd_403 rfl) ?_
        refine ey_goto (cd_403 rfl) rfl ?_
        exact ey_rs (s0 := [jJ 1, jJ v1097]) (s1 := [jJ (if (jw q1084.1) = 0 then 0 else 1), jJ v1097]) (by rw [show ((if (jw q1084.1) = 0 then 0 else 1) : Int) = 1 from (if_neg q1101)]) (K1100 (jup (jup lv 5 (jI q1073.1)) 6 (jI q1084.1)) f0 f1 f2 f3 (jup_o rfl (jup_pi (lv := lv) (j := 4) (v := jI q1073.1) (z := x4) f4)))
    · rw [if_neg q1094] at e
      refine ey_zne (cd_403 rfl) rfl rfl q1094 ?_
      exact jk_403_b2566 e K (jup (jup lv 5 (jI q1073.1)) 6 (jI q1084.1)) f0 f1 f2 f3 (jup_o rfl (jup_pi (lv := lv) (j := 4) (v := jI q1073.1) (z := x4) f4))
  · rw [if_neg q1093] at e
    refine ey_neq (cd_403 rfl) rfl rfl rfl q1093 ?_
    cases e
set_option maxRecDepth 100000 in
theorem jk_403_b2634 {L : Nat} {xs : Nat → Int32} {x1 : Option Nat} {x2 : Option Nat} {x3 : Option Nat} {x4 : Int} {h : jH} {o : ((Int × jH) ⊕ jH)} {r : mm_R} (e : jd_403_b2634 L xs x1 x2 x3 x4 h = some o) (K : jsm (fun s => (∀ lv : jL, lv 0 = some (jR (some 1000000)) → lv 1 = some (jR x1) → lv 2 = some (jR x2) → lv 3 = some (jR x3) → lv 4 = some (jI s.1) → ey (mm_xt L xs) 72 403 23 lv [] s.2 r)) (fun x => (∀ lv : jL, ey (mm_xt L xs) 72 403 3175 lv [] x r)) o) : ∀ lv : jL, lv 0 = some (jR (some 1000000)) → lv 1 = some (jR x1) → lv 2 = some (jR x2) → lv 3 = some (jR x3) → lv 4 = some (jI x4) → ey (mm_xt L xs) 72 403 2634 lv [] h r := by
  intro lv f0 f1 f2 f3 f4
  unfold jd_403_b2634 at e
  refine ey_goto (cd_403 rfl) rfl ?_
  exact jk_403_b3169 e K lv f0 f1 f2 f3 f4
set_option maxRecDepth 100000 in
theorem jk_403_b2569 {L : Nat} {xs : Nat → Int32} {x1 : Option Nat} {x2 : Option Nat} {x3 : Option Nat} {x4 : Int} {h : jH} {o : ((Int × jH) ⊕ jH)} {r : mm_R} (e : jd_403_b2569 L xs x1 x2 x3 x4 h = some o) (K : jsm (fun s => (∀ lv : jL, lv 0 = some (jR (some 1000000)) → lv 1 = some (jR x1) → lv 2 = some (jR x2) → lv 3 = some (jR x3) → lv 4 = some (jI s.1) → ey (mm_xt L xs) 72 403 23 lv [] s.2 r)) (fun x => (∀ lv : jL, ey (mm_xt L xs) 72 403 3175 lv [] x r)) o) : ∀ lv : jL, lv 0 = some (jR (some 1000000)) → lv 1 = some (jR x1) → lv 2 = some (jR x2) → lv 3 = some (jR x3) → lv 4 = some (jI x4) → ey (mm_xt L xs) 72 403 2569 lv [] h r := by
  intro lv f0 f1 f2 f3 f4
  unfold jd_403_b2569 at e
  refine ey_aload_n (cd_403 rfl) f1 ?_
  refine ey_aload_n (cd_403 rfl) f0 ?_
  refine ey_iload (cd_403 rfl) f4 ?_
  refine ey_iconst (cd_403 rfl) ?_
  refine ey_iadd (cd_403 rfl) ?_
  obtain ⟨v1103, e1104, e⟩ := jbind e
  refine ey_iasc (cd_403 rfl) e1104 ?_
  refine ey_aload_n (cd_403 rfl) f0 ?_
  refine ey_iload (cd_403 rfl) f4 ?_
  refine ey_iconst (cd_403 rfl) ?_
  refine ey_iadd (cd_403 rfl) ?_
  obtain ⟨v1105, e1106, e⟩ := jbind e
  refine ey_iasc (cd_403 rfl) e1106 ?_
  refine ey_aload_n (cd_403 rfl) f3 ?_
  obtain ⟨q1107, e1108, e⟩ := jbind e
  refine ey_cs (s0 := [jR x3, jI v1105, jI v1103, jR x1]) (s1 := []) (st' := [jI q1107.1]) (cd_403 rfl) mt_403 mt_394 rfl (by decide) rfl rfl (jsml_s rfl) rfl (mm_Runs.up (d := 4) (by decide) (ok_394 e1108)) ?_
  refine ey_istore (cd_403 rfl) mt_403 rfl ?_
  refine ey_aload_n (cd_403 rfl) f2 ?_
  refine ey_aload_n (cd_403 rfl) f0 ?_
  refine ey_iload (cd_403 rfl) (jup_pi (lv := lv) (j := 4) (v := jI q1107.1) (z := x4) f4) ?_
  refine ey_iconst (cd_403 rfl) ?_
  refine ey_iadd (cd_403 rfl) ?_
  obtain ⟨v1109, e1110, e⟩ := jbind e
  refine ey_iasc (cd_403 rfl) e1110 ?_
  refine ey_aload_n (cd_403 rfl) f0 ?_
  refine ey_iload (cd_403 rfl) (jup_pi (lv := lv) (j := 4) (v := jI q1107.1) (z := x4) f4) ?_
  refine ey_iconst (cd_403 rfl) ?_
  refine ey_iadd (cd_403 rfl) ?_
  obtain ⟨v1111, e1112, e⟩ := jbind e
  refine ey_iasc (cd_403 rfl) e1112 ?_
  obtain ⟨a1113, e1114, e⟩ := jbind e
  refine ey_rs (s0 := [jI v1111, jI v1109, jR x2]) (s1 := [jI v1111, jI v1109, jR (some a1113)]) (by rw [e1114]) ?_
  obtain ⟨u1115, e1116, e⟩ := jbind e
  have w1117 := jlk_s e1116
  refine ey_rs (s0 := [jI v1111, jI v1109, jR (some a1113)]) (s1 := [jI v1111, jI v1109, jR (some 76)]) (by rw [w1117.1]) ?_
  obtain ⟨q1118, e1119, e⟩ := jbind e
  refine ey_cv (s0 := [jI v1111, jI v1109, jR (some 76)]) (s1 := []) (st' := [jI q1118.1]) (cd_403 rfl) mt_403 mt_352 rfl rfl rfl ⟨Nat.lt_of_lt_of_le (by decide) w1117.2.1, w1117.2.2.2.1⟩ rfl (jsml_s rfl) rfl (mm_Runs.up (d := 4) (by decide) (by have w := ok_352 (L := L) (xs := xs) (b := q1107.2) (m := jmf q1107.2) w1117.2.1 w1117.2.2.1 e1119; rw [w1117.2.2.2.2] at w; exact w)) ?_
  obtain ⟨h1120, e1121, e⟩ := jbind e
  refine ey_hs (Option.some.inj e1121) ?_
  refine ey_istore (cd_403 rfl) mt_403 rfl ?_
  refine ey_aload_n (cd_403 rfl) f2 ?_
  obtain ⟨a1122, e1123, e⟩ := jbind e
  refine ey_rs (s0 := [jR x2]) (s1 := [jR (some a1122)]) (by rw [e1123]) ?_
  obtain ⟨u1124, e1125, e⟩ := jbind e
  have w1126 := jlk_s e1125
  refine ey_rs (s0 := [jR (some a1122)]) (s1 := [jR (some 76)]) (by rw [w1126.1]) ?_
  refine ey_cv (s0 := [jR (some 76)]) (s1 := []) (st' := [jI (jd_203 (jmf h1120))]) (cd_403 rfl) mt_403 mt_203 rfl rfl rfl ⟨Nat.lt_of_lt_of_le (by decide) w1126.2.1, w1126.2.2.2.1⟩ rfl (jsml_s rfl) rfl (mm_Runs.up (d := 1) (by decide) (by have w := ok_203 (L := L) (xs := xs) (b := h1120) (m := jmf h1120) w1126.2.1 w1126.2.2.1 ; rw [w1126.2.2.2.2] at w; exact w)) ?_
  refine ey_iload (cd_403 rfl) (jup_pi (lv := (jup lv 5 (jI q1107.1))) (j := 5) (v := jI q1118.1) (z := q1107.1) rfl) ?_
  by_cases q1127 : (jw (jd_203 (jmf h1120))) = (jw q1107.1)
  · rw [if_pos q1127] at e
    refine ey_ceq (cd_403 rfl) rfl rfl rfl q1127 ?_
    refine ey_iload (cd_403 rfl) (jup_pi (lv := (jup lv 5 (jI q1107.1))) (j := 5) (v := jI q1118.1) (z := q1107.1) rfl) ?_
    by_cases q1128 : (jw q1107.1) = 0
    · rw [if_pos q1128] at e
      refine ey_yne (cd_403 rfl) rfl rfl (fun w => w q1128) ?_
      refine ey_aload_n (cd_403 rfl) f3 ?_
      refine ey_iconst (cd_403 rfl) ?_
      obtain ⟨a1129, e1130, e⟩ := jbind e
      refine ey_rs (s0 := [jI 0, jR x3]) (s1 := [jI 0, jR (some a1129)]) (by rw [e1130]) ?_
      obtain ⟨v1131, e1132, e⟩ := jbind e
      refine ey_lald (cd_403 rfl) e1132 ?_
      refine ey_iload (cd_403 rfl) rfl ?_
      refine ey_i2l (cd_403 rfl) ?_
      refine ey_lcmp (cd_403 rfl) ?_
      by_cases q1133 : (jwl v1131) = (jw q1118.1)
      · rw [if_pos q1133] at e
        refine ey_zeq (cd_403 rfl) rfl rfl ((jlc_eq rfl (jwl_jw _)).mpr q1133) ?_
        exact jk_403_b2634 e K (jup (jup lv 5 (jI q1107.1)) 6 (jI q1118.1)) f0 f1 f2 f3 (jup_o rfl (jup_pi (lv := lv) (j := 4) (v := jI q1107.1) (z := x4) f4))
      · rw [if_neg q1133] at e
        refine ey_yeq (cd_403 rfl) rfl rfl (fun w => q1133 ((jlc_eq rfl (jwl_jw _)).mp w)) ?_
        cases e
    · rw [if_neg q1128] at e
      refine ey_zne (cd_403 rfl) rfl rfl q1128 ?_
      exact jk_403_b2634 e K (jup (jup lv 5 (jI q1107.1)) 6 (jI q1118.1)) f0 f1 f2 f3 (jup_o rfl (jup_pi (lv := lv) (j := 4) (v := jI q1107.1) (z := x4) f4))
  · rw [if_neg q1127] at e
    refine ey_neq (cd_403 rfl) rfl rfl rfl q1127 ?_
    cases e
set_option maxRecDepth 100000 in
theorem jk_403_b2726 {L : Nat} {xs : Nat → Int32} {x1 : Option Nat} {x2 : Option Nat} {x3 : Option Nat} {x4 : Int} {h : jH} {o : ((Int × jH) ⊕ jH)} {r : mm_R} (e : jd_403_b2726 L xs x1 x2 x3 x4 h = some o) (K : jsm (fun s => (∀ lv : jL, lv 0 = some (jR (some 1000000)) → lv 1 = some (jR x1) → lv 2 = some (jR x2) → lv 3 = some (jR x3) → lv 4 = some (jI s.1) → ey (mm_xt L xs) 72 403 23 lv [] s.2 r)) (fun x => (∀ lv : jL, ey (mm_xt L xs) 72 403 3175 lv [] x r)) o) : ∀ lv : jL, lv 0 = some (jR (some 1000000)) → lv 1 = some (jR x1) → lv 2 = some (jR x2) → lv 3 = some (jR x3) → lv 4 = some (jI x4) → ey (mm_xt L xs) 72 403 2726 lv [] h r := by
  intro lv f0 f1 f2 f3 f4
  unfold jd_403_b2726 at e
  refine ey_goto (cd_403 rfl) rfl ?_
  exact jk_403_b3169 e K lv f0 f1 f2 f3 f4
set_option maxRecDepth 100000 in
theorem jk_403_b2637 {L : Nat} {xs : Nat → Int32} {x1 : Option Nat} {x2 : Option Nat} {x3 : Option Nat} {x4 : Int} {h : jH} {o : ((Int × jH) ⊕ jH)} {r : mm_R} (e : jd_403_b2637 L xs x1 x2 x3 x4 h = some o) (K : jsm (fun s => (∀ lv : jL, lv 0 = some (jR (some 1000000)) → lv 1 = some (jR x1) → lv 2 = some (jR x2) → lv 3 = some (jR x3) → lv 4 = some (jI s.1) → ey (mm_xt L xs) 72 403 23 lv [] s.2 r)) (fun x => (∀ lv : jL, ey (mm_xt L xs) 72 403 3175 lv [] x r)) o) : ∀ lv : jL, lv 0 = some (jR (some 1000000)) → lv 1 = some (jR x1) → lv 2 = some (jR x2) → lv 3 = some (jR x3) → lv 4 = some (jI x4) → ey (mm_xt L xs) 72 403 2637 lv [] h r := by
  intro lv f0 f1 f2 f3 f4
  unfold jd_403_b2637 at e
  refine ey_aload_n (cd_403 rfl) f1 ?_
  refine ey_aload_n (cd_403 rfl) f0 ?_
  refine ey_iload (cd_403 rfl) f4 ?_
  refine ey_iconst (cd_403 rfl) ?_
  refine ey_iadd (cd_403 rfl) ?_
  obtain ⟨v1135, e1136, e⟩ := jbind e
  refine ey_iasc (cd_403 rfl) e1136 ?_
  refine ey_aload_n (cd_403 rfl) f0 ?_
  refine ey_iload (cd_403 rfl) f4 ?_
  refine ey_iconst (cd_403 rfl) ?_
  refine ey_iadd (cd_403 rfl) ?_
  obtain ⟨v1137, e1138, e⟩ := jbind e
  refine ey_iasc (cd_403 rfl) e1138 ?_
  refine ey_aload_n (cd_403 rfl) f0 ?_
  refine ey_iload (cd_403 rfl) f4 ?_
  refine ey_iconst (cd_403 rfl) ?_
  refine ey_iadd (cd_403 rfl) ?_
  obtain ⟨v1139, e1140, e⟩ := jbind e
  refine ey_iasc (cd_403 rfl) e1140 ?_
  refine ey_aload_n (cd_403 rfl) f0 ?_
  refine ey_iload (cd_403 rfl) f4 ?_
  refine ey_iconst (cd_403 rfl) ?_
  refine ey_iadd (cd_403 rfl) ?_
  obtain ⟨v1141, e1142, e⟩ := jbind e
  refine ey_iasc (cd_403 rfl) e1142 ?_
  refine ey_aload_n (cd_403 rfl) f3 ?_
  obtain ⟨q1143, e1144, e⟩ := jbind e
  refine ey_cs (s0 := [jR x3, jI v1141, jI v1139, jI v1137, jI v1135, jR x1]) (s1 := []) (st' := [jI q1143.1]) (cd_403 rfl) mt_403 mt_395 rfl (by decide) rfl rfl (jsml_s rfl) rfl (mm_Runs.up (d := 6) (by decide) (ok_395 e1144)) ?_
  refine ey_istore (cd_403 rfl) mt_403 rfl ?_
  refine ey_aload_n (cd_403 rfl) f2 ?_
  refine ey_aload_n (cd_403 rfl) f0 ?_
  refine ey_iload (cd_403 rfl) (jup_pi (lv := lv) (j := 4) (v := jI q1143.1) (z := x4) f4) ?_
  refine ey_iconst (cd_403 rfl) ?_
  refine ey_iadd (cd_403 rfl) ?_
  obtain ⟨v1145, e1146, e⟩ := jbind e
  refine ey_iasc (cd_403 rfl) e1146 ?_
  refine ey_aload_n (cd_403 rfl) f0 ?_
  refine ey_iload (cd_403 rfl) (jup_pi (lv := lv) (j := 4) (v := jI q1143.1) (z := x4) f4) ?_
  refine ey_iconst (cd_403 rfl) ?_
  refine ey_iadd (cd_403 rfl) ?_
  obtain ⟨v1147, e1148, e⟩ := jbind e
  refine ey_iasc (cd_403 rfl) e1148 ?_
  refine ey_aload_n (cd_403 rfl) f0 ?_
  refine ey_iload (cd_403 rfl) (jup_pi (lv := lv) (j := 4) (v := jI q1143.1) (z := x4) f4) ?_
  refine ey_iconst (cd_403 rfl) ?_
  refine ey_iadd (cd_403 rfl) ?_
  obtain ⟨v1149, e1150, e⟩ := jbind e
  refine ey_iasc (cd_403 rfl) e1150 ?_
  refine ey_aload_n (cd_403 rfl) f0 ?_
  refine ey_iload (cd_403 rfl) (jup_pi (lv := lv) (j := 4) (v := jI q1143.1) (z := x4) f4) ?_
  refine ey_iconst (cd_403 rfl) ?_
  refine ey_iadd (cd_403 rfl) ?_
  obtain ⟨v1151, e1152, e⟩ := jbind e
  refine ey_iasc (cd_403 rfl) e1152 ?_
  obtain ⟨a1153, e1154, e⟩ := jbind e
  refine ey_rs (s0 := [jI v1151, jI v1149, jI v1147, jI v1145, jR x2]) (s1 := [jI v1151, jI v1149, jI v1147, jI v1145, jR (some a1153)]) (by rw [e1154]) ?_
  obtain ⟨u1155, e1156, e⟩ := jbind e
  have w1157 := jlk_s e1156
  refine ey_rs (s0 := [jI v1151, jI v1149, jI v1147, jI v1145, jR (some a1153)]) (s1 := [jI v1151, jI v1149, jI v1147, jI v1145, jR (some 76)]) (by rw [w1157.1]) ?_
  obtain ⟨q1158, e1159, e⟩ := jbind e
  refine ey_cv (s0 := [jI v1151, jI v1149, jI v1147, jI v1145, jR (some 76)]) (s1 := []) (st' := [jI q1158.1]) (cd_403 rfl) mt_403 mt_354 rfl rfl rfl ⟨Nat.lt_of_lt_of_le (by decide) w1157.2.1, w1157.2.2.2.1⟩ rfl (jsml_s rfl) rfl (mm_Runs.up (d := 4) (by decide) (by have w := ok_354 (L := L) (xs := xs) (b := q1143.2) (m := jmf q1143.2) w1157.2.1 w1157.2.2.1 e1159; rw [w1157.2.2.2.2] at w; exact w)) ?_
  obtain ⟨h1160, e1161, e⟩ := jbind e
  refine ey_hs (Option.some.inj e1161) ?_
  refine ey_istore (cd_403 rfl) mt_403 rfl ?_
  refine ey_aload_n (cd_403 rfl) f2 ?_
  obtain ⟨a1162, e1163, e⟩ := jbind e
  refine ey_rs (s0 := [jR x2]) (s1 := [jR (some a1162)]) (by rw [e1163]) ?_
  obtain ⟨u1164, e1165, e⟩ := jbind e
  have w1166 := jlk_s e1165
  refine ey_rs (s0 := [jR (some a1162)]) (s1 := [jR (some 76)]) (by rw [w1166.1]) ?_
  refine ey_cv (s0 := [jR (some 76)]) (s1 := []) (st' := [jI (jd_203 (jmf h1160))]) (cd_403 rfl) mt_403 mt_203 rfl rfl rfl ⟨Nat.lt_of_lt_of_le (by decide) w1166.2.1, w1166.2.2.2.1⟩ rfl (jsml_s rfl) rfl (mm_Runs.up (d := 1) (by decide) (by have w := ok_203 (L := L) (xs := xs) (b := h1160) (m := jmf h1160) w1166.2.1 w1166.2.2.1 ; rw [w1166.2.2.2.2] at w; exact w)) ?_
  refine ey_iload (cd_403 rfl) (jup_pi (lv := (jup lv 5 (jI q1143.1))) (j := 5) (v := jI q1158.1) (z := q1143.1) rfl) ?_
  by_cases q1167 : (jw (jd_203 (jmf h1160))) = (jw q1143.1)
  · rw [if_pos q1167] at e
    refine ey_ceq (cd_403 rfl) rfl rfl rfl q1167 ?_
    refine ey_iload (cd_403 rfl) (jup_pi (lv := (jup lv 5 (jI q1143.1))) (j := 5) (v := jI q1158.1) (z := q1143.1) rfl) ?_
    by_cases q1168 : (jw q1143.1) = 0
    · rw [if_pos q1168] at e
      refine ey_yne (cd_403 rfl) rfl rfl (fun w => w q1168) ?_
      refine ey_aload_n (cd_403 rfl) f3 ?_
      refine ey_iconst (cd_403 rfl) ?_
      obtain ⟨a1169, e1170, e⟩ := jbind e
      refine ey_rs (s0 := [jI 0, jR x3]) (s1 := [jI 0, jR (some a1169)]) (by rw [e1170]) ?_
      obtain ⟨v1171, e1172, e⟩ := jbind e
      refine ey_lald (cd_403 rfl) e1172 ?_
      refine ey_iload (cd_403 rfl) rfl ?_
      refine ey_i2l (cd_403 rfl) ?_
      refine ey_lcmp (cd_403 rfl) ?_
      by_cases q1173 : (jwl v1171) = (jw q1158.1)
      · rw [if_pos q1173] at e
        refine ey_zeq (cd_403 rfl) rfl rfl ((jlc_eq rfl (jwl_jw _)).mpr q1173) ?_
        exact jk_403_b2726 e K (jup (jup lv 5 (jI q1143.1)) 6 (jI q1158.1)) f0 f1 f2 f3 (jup_o rfl (jup_pi (lv := lv) (j := 4) (v := jI q1143.1) (z := x4) f4))
      · rw [if_neg q1173] at e
        refine ey_yeq (cd_403 rfl) rfl rfl (fun w => q1173 ((jlc_eq rfl (jwl_jw _)).mp w)) ?_
        cases e
    · rw [if_neg q1168] at e
      refine ey_zne (cd_403 rfl) rfl rfl q1168 ?_
      exact jk_403_b2726 e K (jup (jup lv 5 (jI q1143.1)) 6 (jI q1158.1)) f0 f1 f2 f3 (jup_o rfl (jup_pi (lv := lv) (j := 4) (v := jI q1143.1) (z := x4) f4))
  · rw [if_neg q1167] at e
    refine ey_neq (cd_403 rfl) rfl rfl rfl q1167 ?_
    cases e
set_option maxRecDepth 100000 in
theorem jk_403_b2729 {L : Nat} {xs : Nat → Int32} {x1 : Option Nat} {x2 : Option Nat} {x3 : Option Nat} {x4 : Int} {h : jH} {o : ((Int × jH) ⊕ jH)} {r : mm_R} (e : jd_403_b2729 L xs x1 x2 x3 x4 h = some o) (K : jsm (fun s => (∀ lv : jL, lv 0 = some (jR (some 1000000)) → lv 1 = some (jR x1) → lv 2 = some (jR x2) → lv 3 = some (jR x3) → lv 4 = some (jI s.1) → ey (mm_xt L xs) 72 403 23 lv [] s.2 r)) (fun x => (∀ lv : jL, ey (mm_xt L xs) 72 403 3175 lv [] x r)) o) : ∀ lv : jL, lv 0 = some (jR (some 1000000)) → lv 1 = some (jR x1) → lv 2 = some (jR x2) → lv 3 = some (jR x3) → lv 4 = some (jI x4) → ey (mm_xt L xs) 72 403 2729 lv [] h r := by
  intro lv f0 f1 f2 f3 f4
  unfold jd_403_b2729 at e
  refine ey_aload_n (cd_403 rfl) f1 ?_
  refine ey_aload_n (cd_403 rfl) f0 ?_
  refine ey_iload (cd_403 rfl) f4 ?_
  refine ey_iconst (cd_403 rfl) ?_
  refine ey_iadd (cd_403 rfl) ?_
  obtain ⟨v1175, e1176, e⟩ := jbind e
  refine ey_iasc (cd_403 rfl) e1176 ?_
  refine ey_aload_n (cd_403 rfl) f0 ?_
  refine ey_iload (cd_403 rfl) f4 ?_
  refine ey_iconst (cd_403 rfl) ?_
  refine ey_iadd (cd_403 rfl) ?_
  obtain ⟨v1177, e1178, e⟩ := jbind e
  refine ey_iasc (cd_403 rfl) e1178 ?_
  refine ey_aload_n (cd_403 rfl) f0 ?_
  refine ey_iload (cd_403 rfl) f4 ?_
  refine ey_iconst (cd_403 rfl) ?_
  refine ey_iadd (cd_403 rfl) ?_
  obtain ⟨v1179, e1180, e⟩ := jbind e
  refine ey_iasc (cd_403 rfl) e1180 ?_
  refine ey_aload_n (cd_403 rfl) f0 ?_
  refine ey_iload (cd_403 rfl) f4 ?_
  refine ey_iconst (cd_403 rfl) ?_
  refine ey_iadd (cd_403 rfl) ?_
  obtain ⟨v1181, e1182, e⟩ := jbind e
  refine ey_iasc (cd_403 rfl) e1182 ?_
  obtain ⟨q1183, e1184, e⟩ := jbind e
  refine ey_cs (s0 := [jI v1181, jI v1179, jI v1177, jI v1175, jR x1]) (s1 := []) (st' := [jI q1183.1]) (cd_403 rfl) mt_403 mt_396 rfl (by decide) rfl rfl (jsml_s rfl) rfl (mm_Runs.up (d := 4) (by decide) (ok_396 e1184)) ?_
  refine ey_istore (cd_403 rfl) mt_403 rfl ?_
  refine ey_aload_n (cd_403 rfl) f2 ?_
  refine ey_aload_n (cd_403 rfl) f0 ?_
  refine ey_iload (cd_403 rfl) (jup_pi (lv := lv) (j := 4) (v := jI q1183.1) (z := x4) f4) ?_
  refine ey_iconst (cd_403 rfl) ?_
  refine ey_iadd (cd_403 rfl) ?_
  obtain ⟨v1185, e1186, e⟩ := jbind e
  refine ey_iasc (cd_403 rfl) e1186 ?_
  refine ey_aload_n (cd_403 rfl) f0 ?_
  refine ey_iload (cd_403 rfl) (jup_pi (lv := lv) (j := 4) (v := jI q1183.1) (z := x4) f4) ?_
  refine ey_iconst (cd_403 rfl) ?_
  refine ey_iadd (cd_403 rfl) ?_
  obtain ⟨v1187, e1188, e⟩ := jbind e
  refine ey_iasc (cd_403 rfl) e1188 ?_
  refine ey_aload_n (cd_403 rfl) f0 ?_
  refine ey_iload (cd_403 rfl) (jup_pi (lv := lv) (j := 4) (v := jI q1183.1) (z := x4) f4) ?_
  refine ey_iconst (cd_403 rfl) ?_
  refine ey_iadd (cd_403 rfl) ?_
  obtain ⟨v1189, e1190, e⟩ := jbind e
  refine ey_iasc (cd_403 rfl) e1190 ?_
  refine ey_aload_n (cd_403 rfl) f0 ?_
  refine ey_iload (cd_403 rfl) (jup_pi (lv := lv) (j := 4) (v := jI q1183.1) (z := x4) f4) ?_
  refine ey_iconst (cd_403 rfl) ?_
  refine ey_iadd (cd_403 rfl) ?_
  obtain ⟨v1191, e1192, e⟩ := jbind e
  refine ey_iasc (cd_403 rfl) e1192 ?_
  obtain ⟨a1193, e1194, e⟩ := jbind e
  refine ey_rs (s0 := [jI v1191, jI v1189, jI v1187, jI v1185, jR x2]) (s1 := [jI v1191, jI v1189, jI v1187, jI v1185, jR (some a1193)]) (by rw [e1194]) ?_
  obtain ⟨u1195, e1196, e⟩ := jbind e
  have w1197 := jlk_s e1196
  refine ey_rs (s0 := [jI v1191, jI v1189, jI v1187, jI v1185, jR (some a1193)]) (s1 := [jI v1191, jI v1189, jI v1187, jI v1185, jR (some 76)]) (by rw [w1197.1]) ?_
  obtain ⟨m1198, e1199, e⟩ := jbind e
  refine ey_cv (s0 := [jI v1191, jI v1189, jI v1187, jI v1185, jR (some 76)]) (s1 := []) (st' := []) (cd_403 rfl) mt_403 mt_356 rfl rfl rfl ⟨Nat.lt_of_lt_of_le (by decide) w1197.2.1, w1197.2.2.2.1⟩ rfl (jsml_s rfl) rfl (mm_Runs.up (d := 3) (by decide) (by have w := ok_356 (L := L) (xs := xs) (b := q1183.2) (m := jmf q1183.2) w1197.2.1 w1197.2.2.1 e1199; rw [w1197.2.2.2.2] at w; exact w)) ?_
  obtain ⟨h1200, e1201, e⟩ := jbind e
  refine ey_hs (Option.some.inj e1201) ?_
  refine ey_aload_n (cd_403 rfl) f2 ?_
  obtain ⟨a1202, e1203, e⟩ := jbind e
  refine ey_rs (s0 := [jR x2]) (s1 := [jR (some a1202)]) (by rw [e1203]) ?_
  obtain ⟨u1204, e1205, e⟩ := jbind e
  have w1206 := jlk_s e1205
  refine ey_rs (s0 := [jR (some a1202)]) (s1 := [jR (some 76)]) (by rw [w1206.1]) ?_
  refine ey_cv (s0 := [jR (some 76)]) (s1 := []) (st' := [jI (jd_203 (jmf h1200))]) (cd_403 rfl) mt_403 mt_203 rfl rfl rfl ⟨Nat.lt_of_lt_of_le (by decide) w1206.2.1, w1206.2.2.2.1⟩ rfl (jsml_s rfl) rfl (mm_Runs.up (d := 1) (by decide) (by have w := ok_203 (L := L) (xs := xs) (b := h1200) (m := jmf h1200) w1206.2.1 w1206.2.2.1 ; rw [w1206.2.2.2.2] at w; exact w)) ?_
  refine ey_iload (cd_403 rfl) rfl ?_
  by_cases q1207 : (jw (jd_203 (jmf h1200))) = (jw q1183.1)
  · rw [if_pos q1207] at e
    refine ey_ceq (cd_403 rfl) rfl rfl rfl q1207 ?_
    refine ey_goto (cd_403 rfl) rfl ?_
    exact jk_403_b3169 e K (jup lv 5 (jI q1183.1)) f0 f1 f2 f3 (jup_pi (lv := lv) (j := 4) (v := jI q1183.1) (z := x4) f4)
  · rw [if_neg q1207] at e
    refine ey_neq (cd_403 rfl) rfl rfl rfl q1207 ?_
    cases e
