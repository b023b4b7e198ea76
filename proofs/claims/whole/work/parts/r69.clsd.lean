set_option maxRecDepth 100000 in
theorem jk_51_b166 {L : Nat} {xs : Nat → Int32} {n : Nat} {F : jFR} (HF : jHF L xs n F) {this : Nat} {x1 : Int} {x2 : Int} {h : jH} {o : (Int × jH)} (e : jd_51_b166 F this x1 x2 h = some o) : ∀ lv : jL, lv 0 = some (jR (some this)) → lv 1 = some (jI x1) → lv 2 = some (jI x2) → ey (mm_xt L xs) (n + 8) 51 166 lv [] h (.inl (some (jcv (jI o.1)), jaH o.2)) := by
  intro lv f0 f1 f2
  unfold jd_51_b166 at e
  refine ey_aload_n (cd_51 rfl) f0 ?_
  refine ey_dup (cd_51 rfl) rfl ?_
  obtain ⟨v21, e22, e⟩ := jbind e
  refine ey_getf_i (cd_51 rfl) mt_51 rfl rfl rfl e22 ?_
  refine ey_iconst (cd_51 rfl) ?_
  refine ey_iadd (cd_51 rfl) ?_
  obtain ⟨h23, e24, e⟩ := jbind e
  refine ey_putf_i (cd_51 rfl) mt_51 rfl rfl rfl e24 ?_
  refine ey_aload_n (cd_51 rfl) f0 ?_
  refine ey_iload_n (cd_51 rfl) f1 ?_
  refine ey_iload_n (cd_51 rfl) f2 ?_
  refine ey_bipush (cd_51 rfl) (by decide) ?_
  have K35 : ∀ lv : jL, lv 0 = some (jR (some this)) → lv 2 = some (jI x2) → ey (mm_xt L xs) (n + 8) 51 189 lv [jI (if (jw x2) = 105 then 3 else 2), jI x1, jR (some this)] h23 (.inl (some (jcv (jI o.1)), jaH o.2)) := by
    intro lv g0 g2
    obtain ⟨u25, e26, e⟩ := jbind e
    obtain ⟨q27, e28, e⟩ := jbind e
    refine ey_cv (s0 := [jI (if (jw x2) = 105 then 3 else 2), jI x1, jR (some this)]) (s1 := []) (st' := [jI q27.1]) (cd_51 rfl) mt_51 mt_55 rfl rfl rfl (jck_s e26) rfl (jsml_s rfl) rfl ((HF).2.2.2.2 _ _ _ _ _ e28) ?_
    refine ey_istore_n (cd_51 rfl) mt_51 rfl ?_
    refine ey_aload_n (cd_51 rfl) g0 ?_
    refine ey_iload_n (cd_51 rfl) (jup_pi (lv := lv) (j := 2) (v := jI q27.1) (z := x2) g2) ?_
    obtain ⟨u29, e30, e⟩ := jbind e
    obtain ⟨h31, e32, e⟩ := jbind e
    refine ey_cv (s0 := [jI x2, jR (some this)]) (s1 := []) (st' := []) (cd_51 rfl) mt_51 mt_46 rfl rfl rfl (jck_s e30) rfl (jsml_s rfl) rfl (mm_Runs.up (d := 1) (by omega) (ok_46 e32)) ?_
    refine ey_iload_n (cd_51 rfl) rfl ?_
    obtain ⟨u33, e34, e⟩ := jbind e
    cases e
    exact ey_retz (cd_51 rfl) mt_51 rfl (jbc_s e34)
  by_cases q36 : (jw x2) = 105
  · refine ey_nne (cd_51 rfl) rfl rfl (show jw 105 = 105 from by decide) (fun w => w q36) ?_
    refine ey_iconst (cd_51 rfl) ?_
    refine ey_goto (cd_51 rfl) rfl ?_
    exact ey_rs (s0 := [jI 3, jI x1, jR (some this)]) (s1 := [jI (if (jw x2) = 105 then 3 else 2), jI x1, jR (some this)]) (by rw [show ((if (jw x2) = 105 then 3 else 2) : Int) = 3 from (if_pos q36)]) (K35 lv f0 f2)
  · refine ey_cne (cd_51 rfl) rfl rfl (show jw 105 = 105 from by decide) q36 ?_
    refine ey_iconst (cd_51 rfl) ?_
    exact ey_rs (s0 := [jI 2, jI x1, jR (some this)]) (s1 := [jI (if (jw x2) = 105 then 3 else 2), jI x1, jR (some this)]) (by rw [show ((if (jw x2) = 105 then 3 else 2) : Int) = 2 from (if_neg q36)]) (K35 lv f0 f2)
set_option maxRecDepth 100000 in
theorem jk_51_b136 {L : Nat} {xs : Nat → Int32} {n : Nat} {F : jFR} (HF : jHF L xs n F) {this : Nat} {x2 : Int} {h : jH} {o : (Int × jH)} (e : jd_51_b136 F this x2 h = some o) : ∀ lv : jL, lv 0 = some (jR (some this)) → lv 2 = some (jI x2) → ey (mm_xt L xs) (n + 8) 51 136 lv [] h (.inl (some (jcv (jI o.1)), jaH o.2)) := by
  intro lv f0 f2
  unfold jd_51_b136 at e
  refine ey_aload_n (cd_51 rfl) f0 ?_
  refine ey_dup (cd_51 rfl) rfl ?_
  obtain ⟨v39, e40, e⟩ := jbind e
  refine ey_getf_i (cd_51 rfl) mt_51 rfl rfl rfl e40 ?_
  refine ey_iconst (cd_51 rfl) ?_
  refine ey_iadd (cd_51 rfl) ?_
  obtain ⟨h41, e42, e⟩ := jbind e
  refine ey_putf_i (cd_51 rfl) mt_51 rfl rfl rfl e42 ?_
  refine ey_aload_n (cd_51 rfl) f0 ?_
  refine ey_iload_n (cd_51 rfl) f2 ?_
  obtain ⟨u43, e44, e⟩ := jbind e
  obtain ⟨h45, e46, e⟩ := jbind e
  refine ey_cv (s0 := [jI x2, jR (some this)]) (s1 := []) (st' := []) (cd_51 rfl) mt_51 mt_46 rfl rfl rfl (jck_s e44) rfl (jsml_s rfl) rfl (mm_Runs.up (d := 1) (by omega) (ok_46 e46)) ?_
  refine ey_iconst (cd_51 rfl) ?_
  cases e
  exact ey_retz (cd_51 rfl) mt_51 rfl (Or.inr rfl)
set_option maxRecDepth 100000 in
theorem jk_51_b22 {L : Nat} {xs : Nat → Int32} {n : Nat} {F : jFR} (HF : jHF L xs n F) {this : Nat} {x1 : Int} {x2 : Int} {h : jH} {o : (Int × jH)} (e : jd_51_b22 F this x1 x2 h = some o) : ∀ lv : jL, lv 0 = some (jR (some this)) → lv 1 = some (jI x1) → lv 2 = some (jI x2) → ey (mm_xt L xs) (n + 8) 51 22 lv [] h (.inl (some (jcv (jI o.1)), jaH o.2)) := by
  intro lv f0 f1 f2
  unfold jd_51_b22 at e
  refine ey_iload_n (cd_51 rfl) f2 ?_
  by_cases q6 : (jw x2) = 40
  · rw [if_pos q6] at e
    refine ey_lsw (off := 136) (cd_51 rfl) (by decide) (Eq.trans (congrArg (Op.lookupswitch.offset _ _) q6) rfl) rfl ?_
    refine ey_aload_n (cd_51 rfl) f0 ?_
    refine ey_iload_n (cd_51 rfl) f1 ?_
    refine ey_iconst (cd_51 rfl) ?_
    obtain ⟨u7, e8, e⟩ := jbind e
    obtain ⟨q9, e10, e⟩ := jbind e
    refine ey_cv (s0 := [jI 1, jI x1, jR (some this)]) (s1 := []) (st' := [jI q9.1]) (cd_51 rfl) mt_51 mt_55 rfl rfl rfl (jck_s e8) rfl (jsml_s rfl) rfl ((HF).2.2.2.2 _ _ _ _ _ e10) ?_
    obtain ⟨u11, e12, e⟩ := jbind e
    cases e
    exact ey_retz (cd_51 rfl) mt_51 rfl (jbc_s e12)
  · rw [if_neg q6] at e
    by_cases q13 : (jw x2) = 45
    · rw [if_pos q13] at e
      refine ey_lsw (off := 130) (cd_51 rfl) (by decide) (Eq.trans (congrArg (Op.lookupswitch.offset _ _) q13) rfl) rfl ?_
      refine ey_aload_n (cd_51 rfl) f0 ?_
      refine ey_iload_n (cd_51 rfl) f1 ?_
      obtain ⟨u14, e15, e⟩ := jbind e
      obtain ⟨q16, e17, e⟩ := jbind e
      refine ey_cv (s0 := [jI x1, jR (some this)]) (s1 := []) (st' := [jI q16.1]) (cd_51 rfl) mt_51 mt_54 rfl rfl rfl (jck_s e15) rfl (jsml_s rfl) rfl ((HF).2.2.2.1 _ _ _ _ e17) ?_
      obtain ⟨u18, e19, e⟩ := jbind e
      cases e
      exact ey_retz (cd_51 rfl) mt_51 rfl (jbc_s e19)
    · rw [if_neg q13] at e
      by_cases q20 : (jw x2) = 77
      · rw [if_pos q20] at e
        refine ey_lsw (off := 143) (cd_51 rfl) (by decide) (Eq.trans (congrArg (Op.lookupswitch.offset _ _) q20) rfl) rfl ?_
        exact jk_51_b166 HF e lv f0 f1 f2
      · rw [if_neg q20] at e
        by_cases q37 : (jw x2) = 97
        · rw [if_pos q37] at e
          refine ey_lsw (off := 143) (cd_51 rfl) (by decide) (Eq.trans (congrArg (Op.lookupswitch.offset _ _) q37) rfl) rfl ?_
          exact jk_51_b166 HF e lv f0 f1 f2
        · rw [if_neg q37] at e
          by_cases q38 : (jw x2) = 104
          · rw [if_pos q38] at e
            refine ey_lsw (off := 113) (cd_51 rfl) (by decide) (Eq.trans (congrArg (Op.lookupswitch.offset _ _) q38) rfl) rfl ?_
            exact jk_51_b136 HF e lv f0 f2
          · rw [if_neg q38] at e
            by_cases q47 : (jw x2) = 105
            · rw [if_pos q47] at e
              refine ey_lsw (off := 143) (cd_51 rfl) (by decide) (Eq.trans (congrArg (Op.lookupswitch.offset _ _) q47) rfl) rfl ?_
              exact jk_51_b166 HF e lv f0 f1 f2
            · rw [if_neg q47] at e
              by_cases q48 : (jw x2) = 109
              · rw [if_pos q48] at e
                refine ey_lsw (off := 143) (cd_51 rfl) (by decide) (Eq.trans (congrArg (Op.lookupswitch.offset _ _) q48) rfl) rfl ?_
                exact jk_51_b166 HF e lv f0 f1 f2
              · rw [if_neg q48] at e
                by_cases q49 : (jw x2) = 110
                · rw [if_pos q49] at e
                  refine ey_lsw (off := 113) (cd_51 rfl) (by decide) (Eq.trans (congrArg (Op.lookupswitch.offset _ _) q49) rfl) rfl ?_
                  exact jk_51_b136 HF e lv f0 f2
                · rw [if_neg q49] at e
                  by_cases q50 : (jw x2) = 115
                  · rw [if_pos q50] at e
                    refine ey_lsw (off := 113) (cd_51 rfl) (by decide) (Eq.trans (congrArg (Op.lookupswitch.offset _ _) q50) rfl) rfl ?_
                    exact jk_51_b136 HF e lv f0 f2
                  · rw [if_neg q50] at e
                    by_cases q51 : (jw x2) = 116
                    · rw [if_pos q51] at e
                      refine ey_lsw (off := 113) (cd_51 rfl) (by decide) (Eq.trans (congrArg (Op.lookupswitch.offset _ _) q51) rfl) rfl ?_
                      exact jk_51_b136 HF e lv f0 f2
                    · rw [if_neg q51] at e
                      by_cases q52 : (jw x2) = 119
                      · rw [if_pos q52] at e
                        refine ey_lsw (off := 113) (cd_51 rfl) (by decide) (Eq.trans (congrArg (Op.lookupswitch.offset _ _) q52) rfl) rfl ?_
                        exact jk_51_b136 HF e lv f0 f2
                      · rw [if_neg q52] at e
                        by_cases q53 : (jw x2) = 120
                        · rw [if_pos q53] at e
                          refine ey_lsw (off := 113) (cd_51 rfl) (by decide) (Eq.trans (congrArg (Op.lookupswitch.offset _ _) q53) rfl) rfl ?_
                          exact jk_51_b136 HF e lv f0 f2
                        · rw [if_neg q53] at e
                          by_cases q54 : (jw x2) = 121
                          · rw [if_pos q54] at e
                            refine ey_lsw (off := 113) (cd_51 rfl) (by decide) (Eq.trans (congrArg (Op.lookupswitch.offset _ _) q54) rfl) rfl ?_
                            exact jk_51_b136 HF e lv f0 f2
                          · rw [if_neg q54] at e
                            refine ey_lsw (off := 177) (cd_51 rfl) (by decide) (by simp only [Op.lookupswitch.offset, if_neg (fun w => q6 (Eq.symm w)), if_neg (fun w => q13 (Eq.symm w)), if_neg (fun w => q20 (Eq.symm w)), if_neg (fun w => q37 (Eq.symm w)), if_neg (fun w => q38 (Eq.symm w)), if_neg (fun w => q47 (Eq.symm w)), if_neg (fun w => q48 (Eq.symm w)), if_neg (fun w => q49 (Eq.symm w)), if_neg (fun w => q50 (Eq.symm w)), if_neg (fun w => q51 (Eq.symm w)), if_neg (fun w => q52 (Eq.symm w)), if_neg (fun w => q53 (Eq.symm w)), if_neg (fun w => q54 (Eq.symm w))]) rfl ?_
                            refine ey_iconst (cd_51 rfl) ?_
                            cases e
                            exact ey_retz (cd_51 rfl) mt_51 rfl (Or.inl rfl)
set_option maxRecDepth 100000 in
theorem ok_51 {L : Nat} {xs : Nat → Int32} {n : Nat} {F : jFR} (HF : jHF L xs n F) {this : Nat} {p0 : Int} {h : jH} {o : (Int × jH)} (e : jd_51 F this p0 h = some o) : mm_Runs (mm_xt L xs) (n + 9) 51 ([jR (some this), jI p0].map jcv) (jaH h) (.inl (some (jcv (jI o.1)), jaH o.2)) := by
  refine ey_run0 _ mt_51 (jsl_s rfl) ?_
  unfold jd_51 at e
  refine ey_aload_n (cd_51 rfl) rfl ?_
  obtain ⟨u1, e2, e⟩ := jbind e
  obtain ⟨q3, e4, e⟩ := jbind e
  refine ey_cv (s0 := [jR (some this)]) (s1 := []) (st' := [jI q3.1]) (cd_51 rfl) mt_51 mt_47 rfl rfl rfl (jck_s e2) rfl (jsml_s rfl) rfl (mm_Runs.up (d := 1) (by omega) (ok_47 e4)) ?_
  refine ey_istore_n (cd_51 rfl) mt_51 rfl ?_
  refine ey_iload_n (cd_51 rfl) rfl ?_
  refine ey_bipush (cd_51 rfl) (by decide) ?_
  by_cases q5 : (jw q3.1) < 48
  · rw [if_pos q5] at e
    refine ey_clt (cd_51 rfl) rfl rfl (show jw 48 = 48 from by decide) q5 ?_
    exact jk_51_b22 HF e (jup (jlf (jla 0 [jR (some this), jI p0])) 2 (jI q3.1)) rfl (jup_pi (lv := (jlf (jla 0 [jR (some this), jI p0]))) (j := 1) (v := jI q3.1) (z := p0) rfl) rfl
  · rw [if_neg q5] at e
    refine ey_nlt (cd_51 rfl) rfl rfl (show jw 48 = 48 from by decide) q5 ?_
    refine ey_iload_n (cd_51 rfl) rfl ?_
    refine ey_bipush (cd_51 rfl) (by decide) ?_
    by_cases q55 : 57 < (jw q3.1)
    · rw [if_pos q55] at e
      refine ey_cgt (cd_51 rfl) rfl rfl (show jw 57 = 57 from by decide) q55 ?_
      exact jk_51_b22 HF e (jup (jlf (jla 0 [jR (some this), jI p0])) 2 (jI q3.1)) rfl (jup_pi (lv := (jlf (jla 0 [jR (some this), jI p0]))) (j := 1) (v := jI q3.1) (z := p0) rfl) rfl
    · rw [if_neg q55] at e
      refine ey_ngt (cd_51 rfl) rfl rfl (show jw 57 = 57 from by decide) q55 ?_
      refine ey_aload_n (cd_51 rfl) rfl ?_
      obtain ⟨u56, e57, e⟩ := jbind e
      obtain ⟨q58, e59, e⟩ := jbind e
      refine ey_cv (s0 := [jR (some this)]) (s1 := []) (st' := [jI q58.1]) (cd_51 rfl) mt_51 mt_52 rfl rfl rfl (jck_s e57) rfl (jsml_s rfl) rfl (mm_Runs.up (d := 2) (by omega) (ok_52 e59)) ?_
      obtain ⟨u60, e61, e⟩ := jbind e
      cases e
      exact ey_retz (cd_51 rfl) mt_51 rfl (jbc_s e61)
set_option maxRecDepth 100000 in
theorem jk_50_b48 {L : Nat} {xs : Nat → Int32} {n : Nat} {F : jFR} (HF : jHF L xs n F) {this : Nat} {x1 : Int} {x3 : Int} {x4 : Int} {h : jH} {o : ((Int × Int × jH) ⊕ (jH ⊕ (Int × jH)))} {r : mm_R} (e : jd_50_b48 F this x1 x3 x4 h = some o) (K : jsm (fun s => (∀ lv : jL, lv 0 = some (jR (some this)) → lv 1 = some (jI x1) → lv 2 = some (jI s.1) → lv 3 = some (jI s.2.1) → ey (mm_xt L xs) (n + 8) 50 8 lv [] s.2.2 r)) (fun x => (jsm (fun y => (∀ lv : jL, ey (mm_xt L xs) (n + 8) 50 46 lv [] y r)) (fun z => (∀ lv : jL, lv 2 = some (jI z.1) → ey (mm_xt L xs) (n + 8) 50 76 lv [] z.2 r)) x)) o) : ∀ lv : jL, lv 0 = some (jR (some this)) → lv 1 = some (jI x1) → lv 3 = some (jI x3) → lv 4 = some (jI x4) → ey (mm_xt L xs) (n + 8) 50 48 lv [] h r := by
  intro lv f0 f1 f3 f4
  unfold jd_50_b48 at e
  refine ey_aload_n (cd_50 rfl) f0 ?_
  refine ey_dup (cd_50 rfl) rfl ?_
  obtain ⟨v12, e13, e⟩ := jbind e
  refine ey_getf_i (cd_50 rfl) mt_50 rfl rfl rfl e13 ?_
  refine ey_iconst (cd_50 rfl) ?_
  refine ey_iadd (cd_50 rfl) ?_
  obtain ⟨h14, e15, e⟩ := jbind e
  refine ey_putf_i (cd_50 rfl) mt_50 rfl rfl rfl e15 ?_
  refine ey_aload_n (cd_50 rfl) f0 ?_
  refine ey_iload_n (cd_50 rfl) f1 ?_
  obtain ⟨u16, e17, e⟩ := jbind e
  obtain ⟨q18, e19, e⟩ := jbind e
  refine ey_cv (s0 := [jI x1, jR (some this)]) (s1 := []) (st' := [jI q18.1]) (cd_50 rfl) mt_50 mt_51 rfl rfl rfl (jck_s e17) rfl (jsml_s rfl) rfl ((HF).2.2.1 _ _ _ _ e19) ?_
  refine ey_istore_n (cd_50 rfl) mt_50 rfl ?_
  refine ey_aload_n (cd_50 rfl) f0 ?_
  refine ey_iload (cd_50 rfl) f4 ?_
  obtain ⟨u20, e21, e⟩ := jbind e
  obtain ⟨h22, e23, e⟩ := jbind e
  refine ey_cv (s0 := [jI x4, jR (some this)]) (s1 := []) (st' := []) (cd_50 rfl) mt_50 mt_46 rfl rfl rfl (jck_s e21) rfl (jsml_s rfl) rfl (mm_Runs.up (d := 1) (by omega) (ok_46 e23)) ?_
  refine ey_iinc (cd_50 rfl) mt_50 rfl f3 ?_
  refine ey_goto (cd_50 rfl) rfl ?_
  cases e
  exact K (jup (jup lv 2 (jI q18.1)) 3 (jI (x3 + 1))) f0 (jup_o rfl (jup_pi (lv := lv) (j := 1) (v := jI q18.1) (z := x1) f1)) (jup_pi (lv := (jup lv 2 (jI q18.1))) (j := 2) (v := jI (x3 + 1)) (z := q18.1) rfl) rfl
set_option maxRecDepth 100000 in
theorem jk_50_s8 {L : Nat} {xs : Nat → Int32} {n : Nat} {F : jFR} (HF : jHF L xs n F) {this : Nat} {x1 : Int} {x2 : Int} {x3 : Int} {h : jH} {o : ((Int × Int × jH) ⊕ (jH ⊕ (Int × jH)))} {r : mm_R} (e : jd_50_s8 F this x1 x2 x3 h = some o) (K : jsm (fun s => (∀ lv : jL, lv 0 = some (jR (some this)) → lv 1 = some (jI x1) → lv 2 = some (jI s.1) → lv 3 = some (jI s.2.1) → ey (mm_xt L xs) (n + 8) 50 8 lv [] s.2.2 r)) (fun x => (jsm (fun y => (∀ lv : jL, ey (mm_xt L xs) (n + 8) 50 46 lv [] y r)) (fun z => (∀ lv : jL, lv 2 = some (jI z.1) → ey (mm_xt L xs) (n + 8) 50 76 lv [] z.2 r)) x)) o) : ∀ lv : jL, lv 0 = some (jR (some this)) → lv 1 = some (jI x1) → lv 2 = some (jI x2) → lv 3 = some (jI x3) → ey (mm_xt L xs) (n + 8) 50 8 lv [] h r := by
  intro lv f0 f1 f2 f3
  unfold jd_50_s8 at e
  refine ey_iload_n (cd_50 rfl) f3 ?_
  refine ey_sipush (cd_50 rfl) (by decide) ?_
  by_cases q5 : 200 ≤ (jw x3)
  · rw [if_pos q5] at e
    refine ey_cge (cd_50 rfl) rfl rfl (show jw 200 = 200 from by decide) q5 ?_
    cases e
    exact K lv f2
  · rw [if_neg q5] at e
    refine ey_nge (cd_50 rfl) rfl rfl (show jw 200 = 200 from by decide) q5 ?_
    refine ey_iload_n (cd_50 rfl) f2 ?_
    by_cases q6 : (jw x2) = 0
    · rw [if_pos q6] at e
      refine ey_zeq (cd_50 rfl) rfl rfl q6 ?_
      cases e
      exact K lv f2
    · rw [if_neg q6] at e
      refine ey_yeq (cd_50 rfl) rfl rfl q6 ?_
      refine ey_aload_n (cd_50 rfl) f0 ?_
      obtain ⟨u7, e8, e⟩ := jbind e
      obtain ⟨q9, e10, e⟩ := jbind e
      refine ey_cv (s0 := [jR (some this)]) (s1 := []) (st' := [jI q9.1]) (cd_50 rfl) mt_50 mt_47 rfl rfl rfl (jck_s e8) rfl (jsml_s rfl) rfl (mm_Runs.up (d := 1) (by omega) (ok_47 e10)) ?_
      refine ey_istore (cd_50 rfl) mt_50 rfl ?_
      refine ey_iload (cd_50 rfl) rfl ?_
      refine ey_bipush (cd_50 rfl) (by decide) ?_
      by_cases q11 : (jw q9.1) = 42
      · rw [if_pos q11] at e
        refine ey_ceq (cd_50 rfl) rfl rfl (show jw 42 = 42 from by decide) q11 ?_
        exact jk_50_b48 HF e K (jup lv 4 (jI q9.1)) f0 f1 (jup_pi (lv := lv) (j := 3) (v := jI q9.1) (z := x3) f3) rfl
      · rw [if_neg q11] at e
        refine ey_neq (cd_50 rfl) rfl rfl (show jw 42 = 42 from by decide) q11 ?_
        refine ey_iload (cd_50 rfl) rfl ?_
        refine ey_bipush (cd_50 rfl) (by decide) ?_
        by_cases q24 : (jw q9.1) = 47
        · rw [if_pos q24] at e
          refine ey_ceq (cd_50 rfl) rfl rfl (show jw 47 = 47 from by decide) q24 ?_
          exact jk_50_b48 HF e K (jup lv 4 (jI q9.1)) f0 f1 (jup_pi (lv := lv) (j := 3) (v := jI q9.1) (z := x3) f3) rfl
        · rw [if_neg q24] at e
          refine ey_neq (cd_50 rfl) rfl rfl (show jw 47 = 47 from by decide) q24 ?_
          refine ey_iload (cd_50 rfl) rfl ?_
          refine ey_bipush (cd_50 rfl) (by decide) ?_
          by_cases q25 : (jw q9.1) = 37
          · rw [if_pos q25] at e
            refine ey_ceq (cd_50 rfl) rfl rfl (show jw 37 = 37 from by decide) q25 ?_
            exact jk_50_b48 HF e K (jup lv 4 (jI q9.1)) f0 f1 (jup_pi (lv := lv) (j := 3) (v := jI q9.1) (z := x3) f3) rfl
          · rw [if_neg q25] at e
            refine ey_neq (cd_50 rfl) rfl rfl (show jw 37 = 37 from by decide) q25 ?_
            cases e
            exact K (jup lv 4 (jI q9.1)) 
theorem jk_50_l8 {L : Nat} {xs : Nat → Int32} {n : Nat} {F : jFR} (HF : jHF L xs n F) {this : Nat} {x1 : Int} {x2 : Int} {x3 : Int} {h : jH} {x : (jH ⊕ (Int × jH))} {r : mm_R} (e : jd_50_l8 F this x1 x2 x3 h = some x) (K : (jsm (fun y => (∀ lv : jL, ey (mm_xt L xs) (n + 8) 50 46 lv [] y r)) (fun z => (∀ lv : jL, lv 2 = some (jI z.1) → ey (mm_xt L xs) (n + 8) 50 76 lv [] z.2 r)) x)) : ∀ lv : jL, lv 0 = some (jR (some this)) → lv 1 = some (jI x1) → lv 2 = some (jI x2) → lv 3 = some (jI x3) → ey (mm_xt L xs) (n + 8) 50 8 lv [] h r := by
  unfold jd_50_l8 at e
  exact jlp_ok2 (P := fun s => ∀ lv : jL, lv 0 = some (jR (some this)) → lv 1 = some (jI x1) → lv 2 = some (jI s.1) → lv 3 = some (jI s.2.1) → ey (mm_xt L xs) (n + 8) 50 8 lv [] s.2.2 r) (Q := fun x => (jsm (fun y => (∀ lv : jL, ey (mm_xt L xs) (n + 8) 50 46 lv [] y r)) (fun z => (∀ lv : jL, lv 2 = some (jI z.1) → ey (mm_xt L xs) (n + 8) 50 76 lv [] z.2 r)) x)) (fun s q hq hk => jk_50_s8 HF hq hk) jfu _ x e K
set_option maxRecDepth 100000 in
theorem ok_50 {L : Nat} {xs : Nat → Int32} {n : Nat} {F : jFR} (HF : jHF L xs n F) {this : Nat} {p0 : Int} {h : jH} {o : (Int × jH)} (e : jd_50 F this p0 h = some o) : mm_Runs (mm_xt L xs) (n + 9) 50 ([jR (some this), jI p0].map jcv) (jaH h) (.inl (some (jcv (jI o.1)), jaH o.2)) := by
  refine ey_run0 _ mt_50 (jsl_s rfl) ?_
  unfold jd_50 at e
  refine ey_aload_n (cd_50 rfl) rfl ?_
  refine ey_iload_n (cd_50 rfl) rfl ?_
  obtain ⟨u1, e2, e⟩ := jbind e
  obtain ⟨q3, e4, e⟩ := jbind e
  refine ey_cv (s0 := [jI p0, jR (some this)]) (s1 := []) (st' := [jI q3.1]) (cd_50 rfl) mt_50 mt_51 rfl rfl rfl (jck_s e2) rfl (jsml_s rfl) rfl ((HF).2.2.1 _ _ _ _ e4) ?_
  refine ey_istore_n (cd_50 rfl) mt_50 rfl ?_
  refine ey_iconst (cd_50 rfl) ?_
  refine ey_istore_n (cd_50 rfl) mt_50 rfl ?_
  obtain ⟨x26, e27, e⟩ := jbind e
  refine jk_50_l8 HF e27 ?_ (jup (jup (jlf (jla 0 [jR (some this), jI p0])) 2 (jI q3.1)) 3 (jI 0)) rfl (jup_o rfl (jup_pi (lv := (jlf (jla 0 [jR (some this), jI p0]))) (j := 1) (v := jI q3.1) (z := p0) rfl)) (jup_pi (lv := (jup (jlf (jla 0 [jR (some this), jI p0])) 2 (jI q3.1))) (j := 2) (v := jI 0) (z := q3.1) rfl) rfl
  cases x26 with
  | inl y28 =>
    replace e : (some (1, y28) : Option (Int × jH)) = some o := e
    intro lv 
    refine ey_iconst (cd_50 rfl) ?_
    cases e
    exact ey_retz (cd_50 rfl) mt_50 rfl (Or.inr rfl)
  | inr y29 =>
    replace e : (((jbc y29.1).bind fun u30 => some (y29.1, y29.2)) : Option (Int × jH)) = some o := e
    intro lv g2
    refine ey_iload_n (cd_50 rfl) g2 ?_
    obtain ⟨u30, e31, e⟩ := jbind e
    cases e
    exact ey_retz (cd_50 rfl) mt_50 rfl (jbc_s e31)
set_option maxRecDepth 100000 in
theorem jk_49_b41 {L : Nat} {xs : Nat → Int32} {n : Nat} {F : jFR} (HF : jHF L xs n F) {this : Nat} {x1 : Int} {x3 : Int} {x4 : Int} {h : jH} {o : ((Int × Int × jH) ⊕ (jH ⊕ (Int × jH)))} {r : mm_R} (e : jd_49_b41 F this x1 x3 x4 h = some o) (K : jsm (fun s => (∀ lv : jL, lv 0 = some (jR (some this)) → lv 1 = some (jI x1) → lv 2 = some (jI s.1) → lv 3 = some (jI s.2.1) → ey (mm_xt L xs) (n + 8) 49 8 lv [] s.2.2 r)) (fun x => (jsm (fun y => (∀ lv : jL, ey (mm_xt L xs) (n + 8) 49 39 lv [] y r)) (fun z => (∀ lv : jL, lv 2 = some (jI z.1) → ey (mm_xt L xs) (n + 8) 49 69 lv [] z.2 r)) x)) o) : ∀ lv : jL, lv 0 = some (jR (some this)) → lv 1 = some (jI x1) → lv 3 = some (jI x3) → lv 4 = some (jI x4) → ey (mm_xt L xs) (n + 8) 49 41 lv [] h r := by
  intro lv f0 f1 f3 f4
  unfold jd_49_b41 at e
  refine ey_aload_n (cd_49 rfl) f0 ?_
  refine ey_dup (cd_49 rfl) rfl ?_
  obtain ⟨v12, e13, e⟩ := jbind e
  refine ey_getf_i (cd_49 rfl) mt_49 rfl rfl rfl e13 ?_
  refine ey_iconst (cd_49 rfl) ?_
  refine ey_iadd (cd_49 rfl) ?_
  obtain ⟨h14, e15, e⟩ := jbind e
  refine ey_putf_i (cd_49 rfl) mt_49 rfl rfl rfl e15 ?_
  refine ey_aload_n (cd_49 rfl) f0 ?_
  refine ey_iload_n (cd_49 rfl) f1 ?_
  obtain ⟨u16, e17, e⟩ := jbind e
  obtain ⟨q18, e19, e⟩ := jbind e
  refine ey_cv (s0 := [jI x1, jR (some this)]) (s1 := []) (st' := [jI q18.1]) (cd_49 rfl) mt_49 mt_50 rfl rfl rfl (jck_s e17) rfl (jsml_s rfl) rfl ((HF).2.1 _ _ _ _ e19) ?_
  refine ey_istore_n (cd_49 rfl) mt_49 rfl ?_
  refine ey_aload_n (cd_49 rfl) f0 ?_
  refine ey_iload (cd_49 rfl) f4 ?_
  obtain ⟨u20, e21, e⟩ := jbind e
  obtain ⟨h22, e23, e⟩ := jbind e
  refine ey_cv (s0 := [jI x4, jR (some this)]) (s1 := []) (st' := []) (cd_49 rfl) mt_49 mt_46 rfl rfl rfl (jck_s e21) rfl (jsml_s rfl) rfl (mm_Runs.up (d := 1) (by omega) (ok_46 e23)) ?_
  refine ey_iinc (cd_49 rfl) mt_49 rfl f3 ?_
  refine ey_goto (cd_49 rfl) rfl ?_
  cases e
  exact K (jup (jup lv 2 (jI q18.1)) 3 (jI (x3 + 1))) f0 (jup_o rfl (jup_pi (lv := lv) (j := 1) (v := jI q18.1) (z := x1) f1)) (jup_pi (lv := (jup lv 2 (jI q18.1))) (j := 2) (v := jI (x3 + 1)) (z := q18.1) rfl) rfl
set_option maxRecDepth 100000 in
theorem jk_49_s8 {L : Nat} {xs : Nat → Int32} {n : Nat} {F : jFR} (HF : jHF L xs n F) {this : Nat} {x1 : Int} {x2 : Int} {x3 : Int} {h : jH} {o : ((Int × Int × jH) ⊕ (jH ⊕ (Int × jH)))} {r : mm_R} (e : jd_49_s8 F this x1 x2 x3 h = some o) (K : jsm (fun s => (∀ lv : jL, lv 0 = some (jR (some this)) → lv 1 = some (jI x1) → lv 2 = some (jI s.1) → lv 3 = some (jI s.2.1) → ey (mm_xt L xs) (n + 8) 49 8 lv [] s.2.2 r)) (fun x => (jsm (fun y => (∀ lv : jL, ey (mm_xt L xs) (n + 8) 49 39 lv [] y r)) (fun z => (∀ lv : jL, lv 2 = some (jI z.1) → ey (mm_xt L xs) (n + 8) 49 69 lv [] z.2 r)) x)) o) : ∀ lv : jL, lv 0 = some (jR (some this)) → lv 1 = some (jI x1) → lv 2 = some (jI x2) → lv 3 = some (jI x3) → ey (mm_xt L xs) (n + 8) 49 8 lv [] h r := by
  intro lv f0 f1 f2 f3
  unfold jd_49_s8 at e
  refine ey_iload_n (cd_49 rfl) f3 ?_
  refine ey_sipush (cd_49 rfl) (by decide) ?_
  by_cases q5 : 200 ≤ (jw x3)
  · rw [if_pos q5] at e
    refine ey_cge (cd_49 rfl) rfl rfl (show jw 200 = 200 from by decide) q5 ?_
    cases e
    exact K lv f2
  · rw [if_neg q5] at e
    refine ey_nge (cd_49 rfl) rfl rfl (show jw 200 = 200 from by decide) q5 ?_
    refine ey_iload_n (cd_49 rfl) f2 ?_
    by_cases q6 : (jw x2) = 0
    · rw [if_pos q6] at e
      refine ey_zeq (cd_49 rfl) rfl rfl q6 ?_
      cases e
      exact K lv f2
    · rw [if_neg q6] at e
      refine ey_yeq (cd_49 rfl) rfl rfl q6 ?_
      refine ey_aload_n (cd_49 rfl) f0 ?_
      obtain ⟨u7, e8, e⟩ := jbind e
      obtain ⟨q9, e10, e⟩ := jbind e
      refine ey_cv (s0 := [jR (some this)]) (s1 := []) (st' := [jI q9.1]) (cd_49 rfl) mt_49 mt_47 rfl rfl rfl (jck_s e8) rfl (jsml_s rfl) rfl (mm_Runs.up (d := 1) (by omega) (ok_47 e10)) ?_
      refine ey_istore (cd_49 rfl) mt_49 rfl ?_
      refine ey_iload (cd_49 rfl) rfl ?_
      refine ey_bipush (cd_49 rfl) (by decide) ?_
      by_cases q11 : (jw q9.1) = 43
      · rw [if_pos q11] at e
        refine ey_ceq (cd_49 rfl) rfl rfl (show jw 43 = 43 from by decide) q11 ?_
        exact jk_49_b41 HF e K (jup lv 4 (jI q9.1)) f0 f1 (jup_pi (lv := lv) (j := 3) (v := jI q9.1) (z := x3) f3) rfl
      · rw [if_neg q11] at e
        refine ey_neq (cd_49 rfl) rfl rfl (show jw 43 = 43 from by decide) q11 ?_
        refine ey_iload (cd_49 rfl) rfl ?_
        refine ey_bipush (cd_49 rfl) (by decide) ?_
        by_cases q24 : (jw q9.1) = 45
        · rw [if_pos q24] at e
          refine ey_ceq (cd_49 rfl) rfl rfl (show jw 45 = 45 from by decide) q24 ?_
          exact jk_49_b41 HF e K (jup lv 4 (jI q9.1)) f0 f1 (jup_pi (lv := lv) (j := 3) (v := jI q9.1) (z := x3) f3) rfl
        · rw [if_neg q24] at e
          refine ey_neq (cd_49 rfl) rfl rfl (show jw 45 = 45 from by decide) q24 ?_
          cases e
          exact K (jup lv 4 (jI q9.1)) 
theorem jk_49_l8 {L : Nat} {xs : Nat → Int32} {n : Nat} {F : jFR} (HF : jHF L xs n F) {this : Nat} {x1 : Int} {x2 : Int} {x3 : Int} {h : jH} {x : (jH ⊕ (Int × jH))} {r : mm_R} (e : jd_49_l8 F this x1 x2 x3 h = some x) (K : (jsm (fun y => (∀ lv : jL, ey (mm_xt L xs) (n + 8) 49 39 lv [] y r)) (fun z => (∀ lv : jL, lv 2 = some (jI z.1) → ey (mm_xt L xs) (n + 8) 49 69 lv [] z.2 r)) x)) : ∀ lv : jL, lv 0 = some (jR (some this)) → lv 1 = some (jI x1) → lv 2 = some (jI x2) → lv 3 = some (jI x3) → ey (mm_xt L xs) (n + 8) 49 8 lv [] h r := by
  unfold jd_49_l8 at e
  exact jlp_ok2 (P := fun s => ∀ lv : jL, lv 0 = some (jR (some this)) → lv 1 = some (jI x1) → lv 2 = some (jI s.1) → lv 3 = some (jI s.2.1) → ey (mm_xt L xs) (n + 8) 49 8 lv [] s.2.2 r) (Q := fun x => (jsm (fun y => (∀ lv : jL, ey (mm_xt L xs) (n + 8) 49 39 lv [] y r)) (fun z => (∀ lv : jL, lv 2 = some (jI z.1) → ey (mm_xt L xs) (n + 8) 49 69 lv [] z.2 r)) x)) (fun s q hq hk => jk_49_s8 HF hq hk) jfu _ x e K
set_option maxRecDepth 100000 in
theorem ok_49 {L : Nat} {xs : Nat → Int32} {n : Nat} {F : jFR} (HF : jHF L xs n F) {this : Nat} {p0 : Int} {h : jH} {o : (Int × jH)} (e : jd_49 F this p0 h = some o) : mm_Runs (mm_xt L xs) (n + 9) 49 ([jR (some this), jI p0].map jcv) (jaH h) (.inl (some (jcv (jI o.1)), jaH o.2)) := by
  refine ey_run0 _ mt_49 (jsl_s rfl) ?_
  unfold jd_49 at e
  refine ey_aload_n (cd_49 rfl) rfl ?_
  refine ey_iload_n (cd_49 rfl) rfl ?_
  obtain ⟨u1, e2, e⟩ := jbind e
  obtain ⟨q3, e4, e⟩ := jbind e
  refine ey_cv (s0 := [jI p0, jR (some this)]) (s1 := []) (st' := [jI q3.1]) (cd_49 rfl) mt_49 mt_50 rfl rfl rfl (jck_s e2) rfl (jsml_s rfl) rfl ((HF).2.1 _ _ _ _ e4) ?_
  refine ey_istore_n (cd_49 rfl) mt_49 rfl ?_
  refine ey_iconst (cd_49 rfl) ?_
  refine ey_istore_n (cd_49 rfl) mt_49 rfl ?_
  obtain ⟨x25, e26, e⟩ := jbind e
  refine jk_49_l8 HF e26 ?_ (jup (jup (jlf (jla 0 [jR (some this), jI p0])) 2 (jI q3.1)) 3 (jI 0)) rfl (jup_o rfl (jup_pi (lv := (jlf (jla 0 [jR (some this), jI p0]))) (j := 1) (v := jI q3.1) (z := p0) rfl)) (jup_pi (lv := (jup (jlf (jla 0 [jR (some this), jI p0])) 2 (jI q3.1))) (j := 2) (v := jI 0) (z := q3.1) rfl) rfl
  cases x25 with
  | inl y27 =>
    replace e : (some (1, y27) : Option (Int × jH)) = some o := e
    intro lv 
    refine ey_iconst (cd_49 rfl) ?_
    cases e
    exact ey_retz (cd_49 rfl) mt_49 rfl (Or.inr rfl)
  | inr y28 =>
    replace e : (((jbc y28.1).bind fun u29 => some (y28.1, y28.2)) : Option (Int × jH)) = some o := e
    intro lv g2
    refine ey_iload_n (cd_49 rfl) g2 ?_
    obtain ⟨u29, e30, e⟩ := jbind e
    cases e
    exact ey_retz (cd_49 rfl) mt_49 rfl (jbc_s e30)
theorem jrec_ok {L : Nat} {xs : Nat → Int32} : ∀ n : Nat, jHF L xs n (jrec n) := by
  intro n
  induction n with
  | zero => exact ⟨fun _ _ _ _ e => (nomatch e), fun _ _ _ _ e => (nomatch e), fun _ _ _ _ e => (nomatch e), fun _ _ _ _ e => (nomatch e), fun _ _ _ _ _ e => (nomatch e)⟩
  | succ n ih =>
    have e9 : n + 1 + 8 = n + 9 := by omega
    refine ⟨?_, ?_, ?_, ?_, ?_⟩
    · intro this p0 h o e
      rw [e9]
      exact ok_49 ih e
    · intro this p0 h o e
      rw [e9]
      exact ok_50 ih e
    · intro this p0 h o e
      rw [e9]
      exact ok_51 ih e
    · intro this p0 h o e
      rw [e9]
      exact ok_54 ih e
    · intro this p0 p1 h o e
      rw [e9]
      exact ok_55 ih e

theorem cd_45 {pc : Nat} {i : Instr × Nat} (h : mm_lk mm_c45 pc = some i) : mm_cd 45 pc = some i := h
theorem mt_45 : mm_MT 45 = (3, 3, some .int, 2, 0, []) := rfl
set_option maxRecDepth 100000 in
theorem jk_45_b55 {L : Nat} {xs : Nat → Int32} {this : Nat} {y0 : Int} {h : jH} {o : (Int × jH)} (e : jd_45_b55 this y0 h = some o) : ∀ lv : jL, ey (mm_xt L xs) 69 45 55 lv [jI y0] h (.inl (some (jcv (jI o.1)), jaH o.2)) := by
  intro lv 
  unfold jd_45_b55 at e
  cases e
  exact ey_reti (cd_45 rfl) mt_45 rfl
set_option maxRecDepth 100000 in
theorem ok_45 {L : Nat} {xs : Nat → Int32} {this : Nat} {p0 : Option Nat} {p1 : Int} {h : jH} {o : (Int × jH)} (e : jd_45 this p0 p1 h = some o) : mm_Runs (mm_xt L xs) 70 45 ([jR (some this), jR p0, jI p1].map jcv) (jaH h) (.inl (some (jcv (jI o.1)), jaH o.2)) := by
  refine ey_run0 _ mt_45 (jsl_s rfl) ?_
  unfold jd_45 at e
  refine ey_aload_n (cd_45 rfl) rfl ?_
  refine ey_aload_n (cd_45 rfl) rfl ?_
  obtain ⟨h1, e2, e⟩ := jbind e
  refine ey_putf_r (cd_45 rfl) mt_45 rfl rfl rfl e2 ?_
  refine ey_aload_n (cd_45 rfl) rfl ?_
  refine ey_iload_n (cd_45 rfl) rfl ?_
  refine ey_sipush (cd_45 rfl) (by decide) ?_
  refine ey_min (cd_45 rfl) mt_45 rfl (jsml_s rfl) ?_
  obtain ⟨h3, e4, e⟩ := jbind e
  refine ey_putf_i (cd_45 rfl) mt_45 rfl rfl rfl e4 ?_
  refine ey_aload_n (cd_45 rfl) rfl ?_
  refine ey_iconst (cd_45 rfl) ?_
  obtain ⟨h5, e6, e⟩ := jbind e
  refine ey_putf_i (cd_45 rfl) mt_45 rfl rfl rfl e6 ?_
  refine ey_aload_n (cd_45 rfl) rfl ?_
  refine ey_iconst (cd_45 rfl) ?_
  obtain ⟨h7, e8, e⟩ := jbind e
  refine ey_putf_i (cd_45 rfl) mt_45 rfl rfl rfl e8 ?_
  refine ey_aload_n (cd_45 rfl) rfl ?_
  refine ey_iconst (cd_45 rfl) ?_
  obtain ⟨u9, e10, e⟩ := jbind e
  obtain ⟨q11, e12, e⟩ := jbind e
  refine ey_cv (s0 := [jI 0, jR (some this)]) (s1 := []) (st' := [jI q11.1]) (cd_45 rfl) mt_45 mt_49 rfl rfl rfl (jck_s e10) rfl (jsml_s rfl) rfl (mm_Runs.up (d := 68) (by decide) ((jrec_ok (L := L) (xs := xs) 60).1 _ _ _ _ e12)) ?_
  by_cases q13 : (jw q11.1) = 0
  · rw [if_pos q13] at e
    refine ey_yne (cd_45 rfl) rfl rfl (fun w => w q13) ?_
    refine ey_aload_n (cd_45 rfl) rfl ?_
    obtain ⟨v14, e15, e⟩ := jbind e
    refine ey_getf_i (cd_45 rfl) mt_45 rfl rfl rfl e15 ?_
    cases e
    exact ey_reti (cd_45 rfl) mt_45 rfl
  · rw [if_neg q13] at e
    refine ey_zne (cd_45 rfl) rfl rfl q13 ?_
    refine ey_aload_n (cd_45 rfl) rfl ?_
    obtain ⟨v16, e17, e⟩ := jbind e
    refine ey_getf_i (cd_45 rfl) mt_45 rfl rfl rfl e17 ?_
    refine ey_iload_n (cd_45 rfl) rfl ?_
    by_cases q18 : (jw p1) ≤ (jw v16)
    · rw [if_pos q18] at e
      refine ey_cge (cd_45 rfl) rfl rfl rfl q18 ?_
      refine ey_iconst (cd_45 rfl) ?_
      exact jk_45_b55 e (jlf (jla 0 [jR (some this), jR p0, jI p1])) 
    · rw [if_neg q18] at e
      refine ey_nge (cd_45 rfl) rfl rfl rfl q18 ?_
      refine ey_aload_n (cd_45 rfl) rfl ?_
      obtain ⟨v19, e20, e⟩ := jbind e
      refine ey_getf_i (cd_45 rfl) mt_45 rfl rfl rfl e20 ?_
      refine ey_goto (cd_45 rfl) rfl ?_
      exact jk_45_b55 e (jlf (jla 0 [jR (some this), jR p0, jI p1])) 
theorem cd_57 {pc : Nat} {i : Instr × Nat} (h : mm_lk mm_c57 pc = some i) : mm_cd 57 pc = some i := h
theorem mt_57 : mm_MT 57 = (3, 1, some .int, 1, 1, []) := rfl
set_option maxRecDepth 100000 in
theorem ok_57 {L : Nat} {xs : Nat → Int32} {p0 : Int} {h : jH} : mm_Runs (mm_xt L xs) 1 57 ([jI p0].map jcv) (jaH h) (.inl (some (jcv (jI (jd_57 p0))), jaH h)) := by
  refine ey_run0 _ mt_57 (jsl_s rfl) ?_
  refine ey_iload_n (cd_57 rfl) rfl ?_
  by_cases q1 : (jw p0) = 104
  · refine ey_tsw (cd_57 rfl) q1 (by decide) rfl rfl ?_
    refine ey_iconst (cd_57 rfl) ?_
    rw [show (jd_57 p0) = 0 from by unfold jd_57; exact (if_pos q1)]
    exact ey_reti (cd_57 rfl) mt_57 rfl
  · by_cases q2 : (jw p0) = 105
    · refine ey_tsw (cd_57 rfl) q2 (by decide) rfl rfl ?_
      refine ey_iconst (cd_57 rfl) ?_
      rw [show (jd_57 p0) = 3 from by unfold jd_57; exact ((if_neg q1).trans (if_pos q2))]
      exact ey_reti (cd_57 rfl) mt_57 rfl
    · by_cases q3 : (jw p0) = 106
      · refine ey_tsw (cd_57 rfl) q3 (by decide) rfl rfl ?_
        refine ey_iload_n (cd_57 rfl) rfl ?_
        refine ey_sipush (cd_57 rfl) (by decide) ?_
        by_cases q4 : (jw p0) < 1000
        · refine ey_clt (cd_57 rfl) rfl rfl (show jw 1000 = 1000 from by decide) q4 ?_
          refine ey_iconst (cd_57 rfl) ?_
          rw [show (jd_57 p0) = 2 from by unfold jd_57; exact ((if_neg q1).trans ((if_neg q2).trans ((if_pos q3).trans (if_pos q4))))]
          exact ey_reti (cd_57 rfl) mt_57 rfl
        · refine ey_nlt (cd_57 rfl) rfl rfl (show jw 1000 = 1000 from by decide) q4 ?_
          refine ey_iconst (cd_57 rfl) ?_
          refine ey_goto (cd_57 rfl) rfl ?_
          rw [show (jd_57 p0) = 0 from by unfold jd_57; exact ((if_neg q1).trans ((if_neg q2).trans ((if_pos q3).trans (if_neg q4))))]
          exact ey_reti (cd_57 rfl) mt_57 rfl
      · by_cases q5 : (jw p0) = 107
        · refine ey_tsw (cd_57 rfl) q5 (by decide) rfl rfl ?_
          refine ey_iload_n (cd_57 rfl) rfl ?_
          refine ey_sipush (cd_57 rfl) (by decide) ?_
          by_cases q6 : (jw p0) < 1000
          · refine ey_clt (cd_57 rfl) rfl rfl (show jw 1000 = 1000 from by decide) q6 ?_
            refine ey_iconst (cd_57 rfl) ?_
            rw [show (jd_57 p0) = 2 from by unfold jd_57; exact ((if_neg q1).trans ((if_neg q2).trans ((if_neg q3).trans ((if_pos q5).trans (if_pos q6)))))]
            exact ey_reti (cd_57 rfl) mt_57 rfl
          · refine ey_nlt (cd_57 rfl) rfl rfl (show jw 1000 = 1000 from by decide) q6 ?_
            refine ey_iconst (cd_57 rfl) ?_
            refine ey_goto (cd_57 rfl) rfl ?_
            rw [show (jd_57 p0) = 0 from by unfold jd_57; exact ((if_neg q1).trans ((if_neg q2).trans ((if_neg q3).trans ((if_pos q5).trans (if_neg q6)))))]
            exact ey_reti (cd_57 rfl) mt_57 rfl
        · by_cases q7 : (jw p0) = 108
          · refine ey_tsw (cd_57 rfl) q7 (by decide) rfl rfl ?_
            refine ey_iload_n (cd_57 rfl) rfl ?_
            refine ey_sipush (cd_57 rfl) (by decide) ?_
            by_cases q8 : (jw p0) < 1000
            · refine ey_clt (cd_57 rfl) rfl rfl (show jw 1000 = 1000 from by decide) q8 ?_
              refine ey_iconst (cd_57 rfl) ?_
              rw [show (jd_57 p0) = 2 from by unfold jd_57; exact ((if_neg q1).trans ((if_neg q2).trans ((if_neg q3).trans ((if_neg q5).trans ((if_pos q7).trans (if_pos q8))))))]
              exact ey_reti (cd_57 rfl) mt_57 rfl
            · refine ey_nlt (cd_57 rfl) rfl rfl (show jw 1000 = 1000 from by decide) q8 ?_
              refine ey_iconst (cd_57 rfl) ?_
              refine ey_goto (cd_57 rfl) rfl ?_
              rw [show (jd_57 p0) = 0 from by unfold jd_57; exact ((if_neg q1).trans ((if_neg q2).trans ((if_neg q3).trans ((if_neg q5).trans ((if_pos q7).trans (if_neg q8))))))]
              exact ey_reti (cd_57 rfl) mt_57 rfl
          · by_cases q9 : (jw p0) = 109
            · refine ey_tsw (cd_57 rfl) q9 (by decide) rfl rfl ?_
              refine ey_iload_n (cd_57 rfl) rfl ?_
              refine ey_sipush (cd_57 rfl) (by decide) ?_
              by_cases q10 : (jw p0) < 1000
              · refine ey_clt (cd_57 rfl) rfl rfl (show jw 1000 = 1000 from by decide) q10 ?_
                refine ey_iconst (cd_57 rfl) ?_
                rw [show (jd_57 p0) = 2 from by unfold jd_57; exact ((if_neg q1).trans ((if_neg q2).trans ((if_neg q3).trans ((if_neg q5).trans ((if_neg q7).trans ((if_pos q9).trans (if_pos q10)))))))]
                exact ey_reti (cd_57 rfl) mt_57 rfl
              · refine ey_nlt (cd_57 rfl) rfl rfl (show jw 1000 = 1000 from by decide) q10 ?_
                refine ey_iconst (cd_57 rfl) ?_
                refine ey_goto (cd_57 rfl) rfl ?_
                rw [show (jd_57 p0) = 0 from by unfold jd_57; exact ((if_neg q1).trans ((if_neg q2).trans ((if_neg q3).trans ((if_neg q5).trans ((if_neg q7).trans ((if_pos q9).trans (if_neg q10)))))))]
                exact ey_reti (cd_57 rfl) mt_57 rfl
            · by_cases q11 : (jw p0) = 110
              · refine ey_tsw (cd_57 rfl) q11 (by decide) rfl rfl ?_
                refine ey_iconst (cd_57 rfl) ?_
                rw [show (jd_57 p0) = 0 from by unfold jd_57; exact ((if_neg q1).trans ((if_neg q2).trans ((if_neg q3).trans ((if_neg q5).trans ((if_neg q7).trans ((if_neg q9).trans (if_pos q11)))))))]
                exact ey_reti (cd_57 rfl) mt_57 rfl
              · by_cases q12 : (jw p0) = 111
                · refine ey_tsw (cd_57 rfl) q12 (by decide) rfl rfl ?_
                  refine ey_iload_n (cd_57 rfl) rfl ?_
                  refine ey_sipush (cd_57 rfl) (by decide) ?_
                  by_cases q13 : (jw p0) < 1000
                  · refine ey_clt (cd_57 rfl) rfl rfl (show jw 1000 = 1000 from by decide) q13 ?_
                    refine ey_iconst (cd_57 rfl) ?_
                    rw [show (jd_57 p0) = 2 from by unfold jd_57; exact ((if_neg q1).trans ((if_neg q2).trans ((if_neg q3).trans ((if_neg q5).trans ((if_neg q7).trans ((if_neg q9).trans ((if_neg q11).trans ((if_pos q12).trans (if_pos q13)))))))))]
                    exact ey_reti (cd_57 rfl) mt_57 rfl
                  · refine ey_nlt (cd_57 rfl) rfl rfl (show jw 1000 = 1000 from by decide) q13 ?_
                    refine ey_iconst (cd_57 rfl) ?_
                    refine ey_goto (cd_57 rfl) rfl ?_
                    rw [show (jd_57 p0) = 0 from by unfold jd_57; exact ((if_neg q1).trans ((if_neg q2).trans ((if_neg q3).trans ((if_neg q5).trans ((if_neg q7).trans ((if_neg q9).trans ((if_neg q11).trans ((if_pos q12).trans (if_neg q13)))))))))]
                    exact ey_reti (cd_57 rfl) mt_57 rfl
                · by_cases q14 : (jw p0) = 112
                  · refine ey_tsw (cd_57 rfl) q14 (by decide) rfl rfl ?_
                    refine ey_iload_n (cd_57 rfl) rfl ?_
                    refine ey_sipush (cd_57 rfl) (by decide) ?_
                    by_cases q15 : (jw p0) < 1000
                    · refine ey_clt (cd_57 rfl) rfl rfl (show jw 1000 = 1000 from by decide) q15 ?_
                      refine ey_iconst (cd_57 rfl) ?_
                      rw [show (jd_57 p0) = 2 from by unfold jd_57; exact ((if_neg q1).trans ((if_neg q2).trans ((if_neg q3).trans ((if_neg q5).trans ((if_neg q7).trans ((if_neg q9).trans ((if_neg q11).trans ((if_neg q12).trans ((if_pos q14).trans (if_pos q15))))))))))]
                      exact ey_reti (cd_57 rfl) mt_57 rfl
                    · refine ey_nlt (cd_57 rfl) rfl rfl (show jw 1000 = 1000 from by decide) q15 ?_
                      refine ey_iconst (cd_57 rfl) ?_
                      refine ey_goto (cd_57 rfl) rfl ?_
                      rw [show (jd_57 p0) = 0 from by unfold jd_57; exact ((if_neg q1).trans ((if_neg q2).trans ((if_neg q3).trans ((if_neg q5).trans ((if_neg q7).trans ((if_neg q9).trans ((if_neg q11).trans ((if_neg q12).trans ((if_pos q14).trans (if_neg q15))))))))))]
                      exact ey_reti (cd_57 rfl) mt_57 rfl
                  · by_cases q16 : (jw p0) = 113
                    · refine ey_tsw (cd_57 rfl) q16 (by decide) rfl rfl ?_
                      refine ey_iload_n (cd_57 rfl) rfl ?_
                      refine ey_sipush (cd_57 rfl) (by decide) ?_
                      by_cases q17 : (jw p0) < 1000
                      · refine ey_clt (cd_57 rfl) rfl rfl (show jw 1000 = 1000 from by decide) q17 ?_
                        refine ey_iconst (cd_57 rfl) ?_
                        rw [show (jd_57 p0) = 2 from by unfold jd_57; exact ((if_neg q1).trans ((if_neg q2).trans ((if_neg q3).trans ((if_neg q5).trans ((if_neg q7).trans ((if_neg q9).trans ((if_neg q11).trans ((if_neg q12).trans ((if_neg q14).trans ((if_pos q16).trans (if_pos q17)))))))))))]
                        exact ey_reti (cd_57 rfl) mt_57 rfl
                      · refine ey_nlt (cd_57 rfl) rfl rfl (show jw 1000 = 1000 from by decide) q17 ?_
                        refine ey_iconst (cd_57 rfl) ?_
                        refine ey_goto (cd_57 rfl) rfl ?_
                        rw [show (jd_57 p0) = 0 from by unfold jd_57; exact ((if_neg q1).trans ((if_neg q2).trans ((if_neg q3).trans ((if_neg q5).trans ((if_neg q7).trans ((if_neg q9).trans ((if_neg q11).trans ((if_neg q12).trans ((if_neg q14).trans ((if_pos q16).trans (if_neg q17)))))))))))]
                        exact ey_reti (cd_57 rfl) mt_57 rfl
                    · by_cases q18 : (jw p0) = 114
                      · refine ey_tsw (cd_57 rfl) q18 (by decide) rfl rfl ?_
                        refine ey_iload_n (cd_57 rfl) rfl ?_
                        refine ey_sipush (cd_57 rfl) (by decide) ?_
                        by_cases q19 : (jw p0) < 1000
                        · refine ey_clt (cd_57 rfl) rfl rfl (show jw 1000 = 1000 from by decide) q19 ?_
                          refine ey_iconst (cd_57 rfl) ?_
                          rw [show (jd_57 p0) = 2 from by unfold jd_57; exact ((if_neg q1).trans ((if_neg q2).trans ((if_neg q3).trans ((if_neg q5).trans ((if_neg q7).trans ((if_neg q9).trans ((if_neg q11).trans ((if_neg q12).trans ((if_neg q14).trans ((if_neg q16).trans ((if_pos q18).trans (if_pos q19))))))))))))]
                          exact ey_reti (cd_57 rfl) mt_57 rfl
                        · refine ey_nlt (cd_57 rfl) rfl rfl (show jw 1000 = 1000 from by decide) q19 ?_
                          refine ey_iconst (cd_57 rfl) ?_
                          refine ey_goto (cd_57 rfl) rfl ?_
                          rw [show (jd_57 p0) = 0 from by unfold jd_57; exact ((if_neg q1).trans ((if_neg q2).trans ((if_neg q3).trans ((if_neg q5).trans ((if_neg q7).trans ((if_neg q9).trans ((if_neg q11).trans ((if_neg q12).trans ((if_neg q14).trans ((if_neg q16).trans ((if_pos q18).trans (if_neg q19))))))))))))]
                          exact ey_reti (cd_57 rfl) mt_57 rfl
                      · by_cases q20 : (jw p0) = 115
                        · refine ey_tsw (cd_57 rfl) q20 (by decide) rfl rfl ?_
                          refine ey_iconst (cd_57 rfl) ?_
                          rw [show (jd_57 p0) = 0 from by unfold jd_57; exact ((if_neg q1).trans ((if_neg q2).trans ((if_neg q3).trans ((if_neg q5).trans ((if_neg q7).trans ((if_neg q9).trans ((if_neg q11).trans ((if_neg q12).trans ((if_neg q14).trans ((if_neg q16).trans ((if_neg q18).trans (if_pos q20))))))))))))]
                          exact ey_reti (cd_57 rfl) mt_57 rfl
                        · by_cases q21 : (jw p0) = 116
                          · refine ey_tsw (cd_57 rfl) q21 (by decide) rfl rfl ?_
                            refine ey_iconst (cd_57 rfl) ?_
                            rw [show (jd_57 p0) = 0 from by unfold jd_57; exact ((if_neg q1).trans ((if_neg q2).trans ((if_neg q3).trans ((if_neg q5).trans ((if_neg q7).trans ((if_neg q9).trans ((if_neg q11).trans ((if_neg q12).trans ((if_neg q14).trans ((if_neg q16).trans ((if_neg q18).trans ((if_neg q20).trans (if_pos q21)))))))))))))]
                            exact ey_reti (cd_57 rfl) mt_57 rfl
                          · by_cases q22 : (jw p0) = 117
                            · refine ey_tsw (cd_57 rfl) q22 (by decide) rfl rfl ?_
                              refine ey_iload_n (cd_57 rfl) rfl ?_
                              refine ey_sipush (cd_57 rfl) (by decide) ?_
                              by_cases q23 : (jw p0) < 1000
                              · refine ey_clt (cd_57 rfl) rfl rfl (show jw 1000 = 1000 from by decide) q23 ?_
                                refine ey_iconst (cd_57 rfl) ?_
                                rw [show (jd_57 p0) = 2 from by unfold jd_57; exact ((if_neg q1).trans ((if_neg q2).trans ((if_neg q3).trans ((if_neg q5).trans ((if_neg q7).trans ((if_neg q9).trans ((if_neg q11).trans ((if_neg q12).trans ((if_neg q14).trans ((if_neg q16).trans ((if_neg q18).trans ((if_neg q20).trans ((if_neg q21).trans ((if_pos q22).trans (if_pos q23)))))))))))))))]
                                exact ey_reti (cd_57 rfl) mt_57 rfl
                              · refine ey_nlt (cd_57 rfl) rfl rfl (show jw 1000 = 1000 from by decide) q23 ?_
                                refine ey_iconst (cd_57 rfl) ?_
                                refine ey_goto (cd_57 rfl) rfl ?_
                                rw [show (jd_57 p0) = 0 from by unfold jd_57; exact ((if_neg q1).trans ((if_neg q2).trans ((if_neg q3).trans ((if_neg q5).trans ((if_neg q7).trans ((if_neg q9).trans ((if_neg q11).trans ((if_neg q12).trans ((if_neg q14).trans ((if_neg q16).trans ((if_neg q18).trans ((if_neg q20).trans ((if_neg q21).trans ((if_pos q22).trans (if_neg q23)))))))))))))))]
                                exact ey_reti (cd_57 rfl) mt_57 rfl
                            · by_cases q24 : (jw p0) = 118
                              · refine ey_tsw (cd_57 rfl) q24 (by decide) rfl rfl ?_
                                refine ey_iload_n (cd_57 rfl) rfl ?_
                                refine ey_sipush (cd_57 rfl) (by decide) ?_
                                by_cases q25 : (jw p0) < 1000
                                · refine ey_clt (cd_57 rfl) rfl rfl (show jw 1000 = 1000 from by decide) q25 ?_
                                  refine ey_iconst (cd_57 rfl) ?_
                                  rw [show (jd_57 p0) = 2 from by unfold jd_57; exact ((if_neg q1).trans ((if_neg q2).trans ((if_neg q3).trans ((if_neg q5).trans ((if_neg q7).trans ((if_neg q9).trans ((if_neg q11).trans ((if_neg q12).trans ((if_neg q14).trans ((if_neg q16).trans ((if_neg q18).trans ((if_neg q20).trans ((if_neg q21).trans ((if_neg q22).trans ((if_pos q24).trans (if_pos q25))))))))))))))))]
                                  exact ey_reti (cd_57 rfl) mt_57 rfl
                                · refine ey_nlt (cd_57 rfl) rfl rfl (show jw 1000 = 1000 from by decide) q25 ?_
                                  refine ey_iconst (cd_57 rfl) ?_
                                  refine ey_goto (cd_57 rfl) rfl ?_
                                  rw [show (jd_57 p0) = 0 from by unfold jd_57; exact ((if_neg q1).trans ((if_neg q2).trans ((if_neg q3).trans ((if_neg q5).trans ((if_neg q7).trans ((if_neg q9).trans ((if_neg q11).trans ((if_neg q12).trans ((if_neg q14).trans ((if_neg q16).trans ((if_neg q18).trans ((if_neg q20).trans ((if_neg q21).trans ((if_neg q22).trans ((if_pos q24).trans (if_neg q25))))))))))))))))]
                                  exact ey_reti (cd_57 rfl) mt_57 rfl
                              · by_cases q26 : (jw p0) = 119
                                · refine ey_tsw (cd_57 rfl) q26 (by decide) rfl rfl ?_
                                  refine ey_iconst (cd_57 rfl) ?_
                                  rw [show (jd_57 p0) = 0 from by unfold jd_57; exact ((if_neg q1).trans ((if_neg q2).trans ((if_neg q3).trans ((if_neg q5).trans ((if_neg q7).trans ((if_neg q9).trans ((if_neg q11).trans ((if_neg q12).trans ((if_neg q14).trans ((if_neg q16).trans ((if_neg q18).trans ((if_neg q20).trans ((if_neg q21).trans ((if_neg q22).trans ((if_neg q24).trans (if_pos q26))))))))))))))))]
                                  exact ey_reti (cd_57 rfl) mt_57 rfl
                                · by_cases q27 : (jw p0) = 120
                                  · refine ey_tsw (cd_57 rfl) q27 (by decide) rfl rfl ?_
                                    refine ey_iconst (cd_57 rfl) ?_
                                    rw [show (jd_57 p0) = 0 from by unfold jd_57; exact ((if_neg q1).trans ((if_neg q2).trans ((if_neg q3).trans ((if_neg q5).trans ((if_neg q7).trans ((if_neg q9).trans ((if_neg q11).trans ((if_neg q12).trans ((if_neg q14).trans ((if_neg q16).trans ((if_neg q18).trans ((if_neg q20).trans ((if_neg q21).trans ((if_neg q22).trans ((if_neg q24).trans ((if_neg q26).trans (if_pos q27)))))))))))))))))]
                                    exact ey_reti (cd_57 rfl) mt_57 rfl
                                  · by_cases q28 : (jw p0) = 121
                                    · refine ey_tsw (cd_57 rfl) q28 (by decide) rfl rfl ?_
                                      refine ey_iconst (cd_57 rfl) ?_
                                      rw [show (jd_57 p0) = 0 from by unfold jd_57; exact ((if_neg q1).trans ((if_neg q2).trans ((if_neg q3).trans ((if_neg q5).trans ((if_neg q7).trans ((if_neg q9).trans ((if_neg q11).trans ((if_neg q12).trans ((if_neg q14).trans ((if_neg q16).trans ((if_neg q18).trans ((if_neg q20).trans ((if_neg q21).trans ((if_neg q22).trans ((if_neg q24).trans ((if_neg q26).trans ((if_neg q27).trans (if_pos q28))))))))))))))))))]
                                      exact ey_reti (cd_57 rfl) mt_57 rfl
                                    · by_cases q29 : (jw p0) = 122
                                      · refine ey_tsw (cd_57 rfl) q29 (by decide) rfl rfl ?_
                                        refine ey_iload_n (cd_57 rfl) rfl ?_
                                        refine ey_sipush (cd_57 rfl) (by decide) ?_
                                        by_cases q30 : (jw p0) < 1000
                                        · refine ey_clt (cd_57 rfl) rfl rfl (show jw 1000 = 1000 from by decide) q30 ?_
                                          refine ey_iconst (cd_57 rfl) ?_
                                          rw [show (jd_57 p0) = 2 from by unfold jd_57; exact ((if_neg q1).trans ((if_neg q2).trans ((if_neg q3).trans ((if_neg q5).trans ((if_neg q7).trans ((if_neg q9).trans ((if_neg q11).trans ((if_neg q12).trans ((if_neg q14).trans ((if_neg q16).trans ((if_neg q18).trans ((if_neg q20).trans ((if_neg q21).trans ((if_neg q22).trans ((if_neg q24).trans ((if_neg q26).trans ((if_neg q27).trans ((if_neg q28).trans ((if_pos q29).trans (if_pos q30))))))))))))))))))))]
                                          exact ey_reti (cd_57 rfl) mt_57 rfl
                                        · refine ey_nlt (cd_57 rfl) rfl rfl (show jw 1000 = 1000 from by decide) q30 ?_
                                          refine ey_iconst (cd_57 rfl) ?_
                                          refine ey_goto (cd_57 rfl) rfl ?_
                                          rw [show (jd_57 p0) = 0 from by unfold jd_57; exact ((if_neg q1).trans ((if_neg q2).trans ((if_neg q3).trans ((if_neg q5).trans ((if_neg q7).trans ((if_neg q9).trans ((if_neg q11).trans ((if_neg q12).trans ((if_neg q14).trans ((if_neg q16).trans ((if_neg q18).trans ((if_neg q20).trans ((if_neg q21).trans ((if_neg q22).trans ((if_neg q24).trans ((if_neg q26).trans ((if_neg q27).trans ((if_neg q28).trans ((if_pos q29).trans (if_neg q30))))))))))))))))))))]
                                          exact ey_reti (cd_57 rfl) mt_57 rfl
                                      · by_cases q31 : (jw p0) = 123
                                        · refine ey_tsw (cd_57 rfl) q31 (by decide) rfl rfl ?_
                                          refine ey_iload_n (cd_57 rfl) rfl ?_
                                          refine ey_sipush (cd_57 rfl) (by decide) ?_
                                          by_cases q32 : (jw p0) < 1000
                                          · refine ey_clt (cd_57 rfl) rfl rfl (show jw 1000 = 1000 from by decide) q32 ?_
                                            refine ey_iconst (cd_57 rfl) ?_
                                            rw [show (jd_57 p0) = 2 from by unfold jd_57; exact ((if_neg q1).trans ((if_neg q2).trans ((if_neg q3).trans ((if_neg q5).trans ((if_neg q7).trans ((if_neg q9).trans ((if_neg q11).trans ((if_neg q12).trans ((if_neg q14).trans ((if_neg q16).trans ((if_neg q18).trans ((if_neg q20).trans ((if_neg q21).trans ((if_neg q22).trans ((if_neg q24).trans ((if_neg q26).trans ((if_neg q27).trans ((if_neg q28).trans ((if_neg q29).trans ((if_pos q31).trans (if_pos q32)))))))))))))))))))))]
                                            exact ey_reti (cd_57 rfl) mt_57 rfl
                                          · refine ey_nlt (cd_57 rfl) rfl rfl (show jw 1000 = 1000 from by decide) q32 ?_
                                            refine ey_iconst (cd_57 rfl) ?_
                                            refine ey_goto (cd_57 rfl) rfl ?_
                                            rw [show (jd_57 p0) = 0 from by unfold jd_57; exact ((if_neg q1).trans ((if_neg q2).trans ((if_neg q3).trans ((if_neg q5).trans ((if_neg q7).trans ((if_neg q9).trans ((if_neg q11).trans ((if_neg q12).trans ((if_neg q14).trans ((if_neg q16).trans ((if_neg q18).trans ((if_neg q20).trans ((if_neg q21).trans ((if_neg q22).trans ((if_neg q24).trans ((if_neg q26).trans ((if_neg q27).trans ((if_neg q28).trans ((if_neg q29).trans ((if_pos q31).trans (if_neg q32)))))))))))))))))))))]
                                            exact ey_reti (cd_57 rfl) mt_57 rfl
                                        · by_cases q33 : (jw p0) = 124
                                          · refine ey_tsw (cd_57 rfl) q33 (by decide) rfl rfl ?_
                                            refine ey_iload_n (cd_57 rfl) rfl ?_
                                            refine ey_sipush (cd_57 rfl) (by decide) ?_
                                            by_cases q34 : (jw p0) < 1000
                                            · refine ey_clt (cd_57 rfl) rfl rfl (show jw 1000 = 1000 from by decide) q34 ?_
                                              refine ey_iconst (cd_57 rfl) ?_
                                              rw [show (jd_57 p0) = 2 from by unfold jd_57; exact ((if_neg q1).trans ((if_neg q2).trans ((if_neg q3).trans ((if_neg q5).trans ((if_neg q7).trans ((if_neg q9).trans ((if_neg q11).trans ((if_neg q12).trans ((if_neg q14).trans ((if_neg q16).trans ((if_neg q18).trans ((if_neg q20).trans ((if_neg q21).trans ((if_neg q22).trans ((if_neg q24).trans ((if_neg q26).trans ((if_neg q27).trans ((if_neg q28).trans ((if_neg q29).trans ((if_neg q31).trans ((if_pos q33).trans (if_pos q34))))))))))))))))))))))]
                                              exact ey_reti (cd_57 rfl) mt_57 rfl
                                            · refine ey_nlt (cd_57 rfl) rfl rfl (show jw 1000 = 1000 from by decide) q34 ?_
                                              refine ey_iconst (cd_57 rfl) ?_
                                              refine ey_goto (cd_57 rfl) rfl ?_
                                              rw [show (jd_57 p0) = 0 from by unfold jd_57; exact ((if_neg q1).trans ((if_neg q2).trans ((if_neg q3).trans ((if_neg q5).trans ((if_neg q7).trans ((if_neg q9).trans ((if_neg q11).trans ((if_neg q12).trans ((if_neg q14).trans ((if_neg q16).trans ((if_neg q18).trans ((if_neg q20).trans ((if_neg q21).trans ((if_neg q22).trans ((if_neg q24).trans ((if_neg q26).trans ((if_neg q27).trans ((if_neg q28).trans ((if_neg q29).trans ((if_neg q31).trans ((if_pos q33).trans (if_neg q34))))))))))))))))))))))]
                                              exact ey_reti (cd_57 rfl) mt_57 rfl
                                          · by_cases q35 : (jw p0) = 125
                                            · refine ey_tsw (cd_57 rfl) q35 (by decide) rfl rfl ?_
                                              refine ey_iload_n (cd_57 rfl) rfl ?_
                                              refine ey_sipush (cd_57 rfl) (by decide) ?_
                                              by_cases q36 : (jw p0) < 1000
                                              · refine ey_clt (cd_57 rfl) rfl rfl (show jw 1000 = 1000 from by decide) q36 ?_
                                                refine ey_iconst (cd_57 rfl) ?_
                                                rw [show (jd_57 p0) = 2 from by unfold jd_57; exact ((if_neg q1).trans ((if_neg q2).trans ((if_neg q3).trans ((if_neg q5).trans ((if_neg q7).trans ((if_neg q9).trans ((if_neg q11).trans ((if_neg q12).trans ((if_neg q14).trans ((if_neg q16).trans ((if_neg q18).trans ((if_neg q20).trans ((if_neg q21).trans ((if_neg q22).trans ((if_neg q24).trans ((if_neg q26).trans ((if_neg q27).trans ((if_neg q28).trans ((if_neg q29).trans ((if_neg q31).trans ((if_neg q33).trans ((if_pos q35).trans (if_pos q36)))))))))))))))))))))))]
                                                exact ey_reti (cd_57 rfl) mt_57 rfl
                                              · refine ey_nlt (cd_57 rfl) rfl rfl (show jw 1000 = 1000 from by decide) q36 ?_
                                                refine ey_iconst (cd_57 rfl) ?_
                                                refine ey_goto (cd_57 rfl) rfl ?_
                                                rw [show (jd_57 p0) = 0 from by unfold jd_57; exact ((if_neg q1).trans ((if_neg q2).trans ((if_neg q3).trans ((if_neg q5).trans ((if_neg q7).trans ((if_neg q9).trans ((if_neg q11).trans ((if_neg q12).trans ((if_neg q14).trans ((if_neg q16).trans ((if_neg q18).trans ((if_neg q20).trans ((if_neg q21).trans ((if_neg q22).trans ((if_neg q24).trans ((if_neg q26).trans ((if_neg q27).trans ((if_neg q28).trans ((if_neg q29).trans ((if_neg q31).trans ((if_neg q33).trans ((if_pos q35).trans (if_neg q36)))))))))))))))))))))))]
                                                exact ey_reti (cd_57 rfl) mt_57 rfl
                                            · by_cases q37 : (jw p0) = 126
                                              · refine ey_tsw (cd_57 rfl) q37 (by decide) rfl rfl ?_
                                                refine ey_iconst (cd_57 rfl) ?_
                                                rw [show (jd_57 p0) = 1 from by unfold jd_57; exact ((if_neg q1).trans ((if_neg q2).trans ((if_neg q3).trans ((if_neg q5).trans ((if_neg q7).trans ((if_neg q9).trans ((if_neg q11).trans ((if_neg q12).trans ((if_neg q14).trans ((if_neg q16).trans ((if_neg q18).trans ((if_neg q20).trans ((if_neg q21).trans ((if_neg q22).trans ((if_neg q24).trans ((if_neg q26).trans ((if_neg q27).trans ((if_neg q28).trans ((if_neg q29).trans ((if_neg q31).trans ((if_neg q33).trans ((if_neg q35).trans (if_pos q37)))))))))))))))))))))))]
                                                exact ey_reti (cd_57 rfl) mt_57 rfl
                                              · refine ey_tsw_d (cd_57 rfl) (by omega) rfl ?_
                                                refine ey_iload_n (cd_57 rfl) rfl ?_
                                                refine ey_sipush (cd_57 rfl) (by decide) ?_
                                                by_cases q38 : (jw p0) < 1000
                                                · refine ey_clt (cd_57 rfl) rfl rfl (show jw 1000 = 1000 from by decide) q38 ?_
                                                  refine ey_iconst (cd_57 rfl) ?_
                                                  rw [show (jd_57 p0) = 2 from by unfold jd_57; exact ((if_neg q1).trans ((if_neg q2).trans ((if_neg q3).trans ((if_neg q5).trans ((if_neg q7).trans ((if_neg q9).trans ((if_neg q11).trans ((if_neg q12).trans ((if_neg q14).trans ((if_neg q16).trans ((if_neg q18).trans ((if_neg q20).trans ((if_neg q21).trans ((if_neg q22).trans ((if_neg q24).trans ((if_neg q26).trans ((if_neg q27).trans ((if_neg q28).trans ((if_neg q29).trans ((if_neg q31).trans ((if_neg q33).trans ((if_neg q35).trans ((if_neg q37).trans (if_pos q38))))))))))))))))))))))))]
                                                  exact ey_reti (cd_57 rfl) mt_57 rfl
                                                · refine ey_nlt (cd_57 rfl) rfl rfl (show jw 1000 = 1000 from by decide) q38 ?_
                                                  refine ey_iconst (cd_57 rfl) ?_
                                                  refine ey_goto (cd_57 rfl) rfl ?_
                                                  rw [show (jd_57 p0) = 0 from by unfold jd_57; exact ((if_neg q1).trans ((if_neg q2).trans ((if_neg q3).trans ((if_neg q5).trans ((if_neg q7).trans ((if_neg q9).trans ((if_neg q11).trans ((if_neg q12).trans ((if_neg q14).trans ((if_neg q16).trans ((if_neg q18).trans ((if_neg q20).trans ((if_neg q21).trans ((if_neg q22).trans ((if_neg q24).trans ((if_neg q26).trans ((if_neg q27).trans ((if_neg q28).trans ((if_neg q29).trans ((if_neg q31).trans ((if_neg q33).trans ((if_neg q35).trans ((if_neg q37).trans (if_neg q38))))))))))))))))))))))))]
                                                  exact ey_reti (cd_57 rfl) mt_57 rfl
theorem cd_58 {pc : Nat} {i : Instr × Nat} (h : mm_lk mm_c58 pc = some i) : mm_cd 58 pc = some i := h
theorem mt_58 : mm_MT 58 = (3, 3, some .int, 3, 1, []) := rfl
set_option maxRecDepth 100000 in
theorem jk_58_b95 {L : Nat} {xs : Nat → Int32} {y0 : Int} {h : jH} {o : Int} (e : jd_58_b95 y0  = some o) : ∀ lv : jL, ey (mm_xt L xs) 0 58 95 lv [jI y0] h (.inl (some (jcv (jI o)), jaH h)) := by
  intro lv 
  unfold jd_58_b95 at e
  cases e
  exact ey_reti (cd_58 rfl) mt_58 rfl
set_option maxRecDepth 100000 in
theorem jk_58_b83 {L : Nat} {xs : Nat → Int32} {y0 : Int} {h : jH} {o : Int} (e : jd_58_b83 y0  = some o) : ∀ lv : jL, ey (mm_xt L xs) 0 58 83 lv [jI y0] h (.inl (some (jcv (jI o)), jaH h)) := by
  intro lv 
  unfold jd_58_b83 at e
  cases e
  exact ey_reti (cd_58 rfl) mt_58 rfl
set_option maxRecDepth 100000 in
theorem ok_58 {L : Nat} {xs : Nat → Int32} {p0 : Int} {p1 : Int} {p2 : Int} {h : jH} {o : Int} (e : jd_58 p0 p1 p2  = some o) : mm_Runs (mm_xt L xs) 1 58 ([jI p0, jI p1, jI p2].map jcv) (jaH h) (.inl (some (jcv (jI o)), jaH h)) := by
  refine ey_run0 _ mt_58 (jsl_s rfl) ?_
  unfold jd_58 at e
  refine ey_iload_n (cd_58 rfl) rfl ?_
  by_cases q1 : (jw p0) = 37
  · rw [if_pos q1] at e
    refine ey_lsw (off := 83) (cd_58 rfl) (by decide) (Eq.trans (congrArg (Op.lookupswitch.offset _ _) q1) rfl) rfl ?_
    refine ey_iload_n (cd_58 rfl) rfl ?_
    by_cases q2 : (jw p2) = 0
    · rw [if_pos q2] at e
      refine ey_yne (cd_58 rfl) rfl rfl (fun w => w q2) ?_
      refine ey_iconst (cd_58 rfl) ?_
      refine ey_goto (cd_58 rfl) rfl ?_
      exact jk_58_b95 e (jlf (jla 0 [jI p0, jI p1, jI p2])) 
    · rw [if_neg q2] at e
      refine ey_zne (cd_58 rfl) rfl rfl q2 ?_
      refine ey_iload_n (cd_58 rfl) rfl ?_
      refine ey_iload_n (cd_58 rfl) rfl ?_
      obtain ⟨u3, e4, e⟩ := jbind e
      refine ey_irem (cd_58 rfl) (jnz_s e4) ?_
      exact jk_58_b95 e (jlf (jla 0 [jI p0, jI p1, jI p2])) 
  · rw [if_neg q1] at e
    by_cases q5 : (jw p0) = 42
    · rw [if_pos q5] at e
      refine ey_lsw (off := 67) (cd_58 rfl) (by decide) (Eq.trans (congrArg (Op.lookupswitch.offset _ _) q5) rfl) rfl ?_
      refine ey_iload_n (cd_58 rfl) rfl ?_
      refine ey_iload_n (cd_58 rfl) rfl ?_
      refine ey_imul (cd_58 rfl) ?_
      cases e
      exact ey_reti (cd_58 rfl) mt_58 rfl
    · rw [if_neg q5] at e
      by_cases q6 : (jw p0) = 43
      · rw [if_pos q6] at e
        refine ey_lsw (off := 59) (cd_58 rfl) (by decide) (Eq.trans (congrArg (Op.lookupswitch.offset _ _) q6) rfl) rfl ?_
        refine ey_iload_n (cd_58 rfl) rfl ?_
        refine ey_iload_n (cd_58 rfl) rfl ?_
        refine ey_iadd (cd_58 rfl) ?_
        cases e
        exact ey_reti (cd_58 rfl) mt_58 rfl
      · rw [if_neg q6] at e
        by_cases q7 : (jw p0) = 45
        · rw [if_pos q7] at e
          refine ey_lsw (off := 63) (cd_58 rfl) (by decide) (Eq.trans (congrArg (Op.lookupswitch.offset _ _) q7) rfl) rfl ?_
          refine ey_iload_n (cd_58 rfl) rfl ?_
          refine ey_iload_n (cd_58 rfl) rfl ?_
          refine ey_isub (cd_58 rfl) ?_
          cases e
          exact ey_reti (cd_58 rfl) mt_58 rfl
        · rw [if_neg q7] at e
          by_cases q8 : (jw p0) = 47
          · rw [if_pos q8] at e
            refine ey_lsw (off := 71) (cd_58 rfl) (by decide) (Eq.trans (congrArg (Op.lookupswitch.offset _ _) q8) rfl) rfl ?_
            refine ey_iload_n (cd_58 rfl) rfl ?_
            by_cases q9 : (jw p2) = 0
            · rw [if_pos q9] at e
              refine ey_yne (cd_58 rfl) rfl rfl (fun w => w q9) ?_
              refine ey_iconst (cd_58 rfl) ?_
              refine ey_goto (cd_58 rfl) rfl ?_
              exact jk_58_b83 e (jlf (jla 0 [jI p0, jI p1, jI p2])) 
            · rw [if_neg q9] at e
              refine ey_zne (cd_58 rfl) rfl rfl q9 ?_
              refine ey_iload_n (cd_58 rfl) rfl ?_
              refine ey_iload_n (cd_58 rfl) rfl ?_
              obtain ⟨u10, e11, e⟩ := jbind e
              refine ey_idiv (cd_58 rfl) (jnz_s e11) ?_
              exact jk_58_b83 e (jlf (jla 0 [jI p0, jI p1, jI p2])) 
          · rw [if_neg q8] at e
            by_cases q12 : (jw p0) = 109
            · rw [if_pos q12] at e
              refine ey_lsw (off := 95) (cd_58 rfl) (by decide) (Eq.trans (congrArg (Op.lookupswitch.offset _ _) q12) rfl) rfl ?_
              refine ey_iload_n (cd_58 rfl) rfl ?_
              refine ey_iload_n (cd_58 rfl) rfl ?_
              refine ey_min (cd_58 rfl) mt_58 rfl (jsml_s rfl) ?_
              cases e
              exact ey_reti (cd_58 rfl) mt_58 rfl
            · rw [if_neg q12] at e
              refine ey_lsw (off := 101) (cd_58 rfl) (by decide) (by simp only [Op.lookupswitch.offset, if_neg (fun w => q1 (Eq.symm w)), if_neg (fun w => q5 (Eq.symm w)), if_neg (fun w => q6 (Eq.symm w)), if_neg (fun w => q7 (Eq.symm w)), if_neg (fun w => q8 (Eq.symm w)), if_neg (fun w => q12 (Eq.symm w))]) rfl ?_
              refine ey_iload_n (cd_58 rfl) rfl ?_
              refine ey_iload_n (cd_58 rfl) rfl ?_
              refine ey_max (cd_58 rfl) mt_58 rfl (jsml_s rfl) ?_
              cases e
              exact ey_reti (cd_58 rfl) mt_58 rfl
theorem cd_103 {pc : Nat} {i : Instr × Nat} (h : mm_lk mm_c103 pc = some i) : mm_cd 103 pc = some i := h
theorem mt_103 : mm_MT 103 = (6, 10, some .int, 3, 0, []) := rfl
set_option maxRecDepth 100000 in
theorem jk_103_b73 {L : Nat} {xs : Nat → Int32} {this : Nat} {x1 : Int} {x6 : Int} {x8 : Int} {y0 : Int} {h : jH} {o : Int} (e : jd_103_b73 this x1 x6 x8 y0 h = some o) : ∀ lv : jL, lv 0 = some (jR (some this)) → lv 1 = some (jI x1) → lv 6 = some (jI x6) → lv 8 = some (jI x8) → ey (mm_xt L xs) 1 103 73 lv [jI y0] h (.inl (some (jcv (jI o)), jaH h)) := by
  intro lv f0 f1 f6 f8
  unfold jd_103_b73 at e
  refine ey_istore (cd_103 rfl) mt_103 rfl ?_
  refine ey_aload_n (cd_103 rfl) f0 ?_
  obtain ⟨r9, e10, e⟩ := jbind e
  refine ey_getf_r (cd_103 rfl) mt_103 rfl rfl rfl e10 ?_
  refine ey_aload_n (cd_103 rfl) f0 ?_
  refine ey_iload_n (cd_103 rfl) f1 ?_
  obtain ⟨u11, e12, e⟩ := jbind e
  obtain ⟨v13, e14, e⟩ := jbind e
  refine ey_cv (s0 := [jI x1, jR (some this), jR r9]) (s1 := [jR r9]) (st' := [jI v13, jR r9]) (cd_103 rfl) mt_103 mt_98 rfl rfl rfl (jck_s e12) rfl (jsml_s rfl) rfl (ok_98 e14) ?_
  refine ey_iload (cd_103 rfl) rfl ?_
  refine ey_iload (cd_103 rfl) f6 ?_
  refine ey_imul (cd_103 rfl) ?_
  refine ey_iadd (cd_103 rfl) ?_
  refine ey_iload (cd_103 rfl) (jup_pi (lv := lv) (j := 8) (v := jI y0) (z := x8) f8) ?_
  refine ey_iadd (cd_103 rfl) ?_
  obtain ⟨a15, e16, e⟩ := jbind e
  refine ey_rs (s0 := [jI ((v13 + (y0 * x6)) + x8), jR r9]) (s1 := [jI ((v13 + (y0 * x6)) + x8), jR (some a15)]) (by rw [e16]) ?_
  obtain ⟨v17, e18, e⟩ := jbind e
  refine ey_iald (cd_103 rfl) e18 ?_
  cases e
  exact ey_reti (cd_103 rfl) mt_103 rfl
set_option maxRecDepth 100000 in
theorem jk_103_b41 {L : Nat} {xs : Nat → Int32} {this : Nat} {x1 : Int} {x4 : Int} {x6 : Int} {x7 : Int} {y0 : Int} {h : jH} {o : Int} (e : jd_103_b41 this x1 x4 x6 x7 y0 h = some o) : ∀ lv : jL, lv 0 = some (jR (some this)) → lv 1 = some (jI x1) → lv 4 = some (jJ x4) → lv 6 = some (jI x6) → lv 7 = some (jI x7) → ey (mm_xt L xs) 1 103 41 lv [jI y0] h (.inl (some (jcv (jI o)), jaH h)) := by
  intro lv f0 f1 f4 f6 f7
  unfold jd_103_b41 at e
  refine ey_istore (cd_103 rfl) mt_103 rfl ?_
  refine ey_lload (cd_103 rfl) f4 ?_
  refine ey_lconst0 (cd_103 rfl) ?_
  refine ey_lcmp (cd_103 rfl) ?_
  have K19 : ∀ lv : jL, lv 0 = some (jR (some this)) → lv 1 = some (jI x1) → lv 6 = some (jI x6) → lv 8 = some (jI y0) → ey (mm_xt L xs) 1 103 73 lv [jI (if 0 ≤ (jwl x4) then (if (jwl x4) < (jw x7) then x4 else (x7 - 1)) else 0)] h (.inl (some (jcv (jI o)), jaH h)) := by
    intro lv g0 g1 g6 g8
    exact jk_103_b73 e lv g0 g1 g6 g8
  by_cases q20 : 0 ≤ (jwl x4)
  · refine ey_zge (cd_103 rfl) rfl rfl ((jlc_ge rfl (show jwl 0 = 0 from by decide)).mpr q20) ?_
    refine ey_lload (cd_103 rfl) f4 ?_
    refine ey_iload (cd_103 rfl) (jup_pi (lv := lv) (j := 7) (v := jI y0) (z := x7) f7) ?_
    refine ey_i2l (cd_103 rfl) ?_
    refine ey_lcmp (cd_103 rfl) ?_
    by_cases q21 : (jwl x4) < (jw x7)
    · refine ey_zlt (cd_103 rfl) rfl rfl ((jlc_lt rfl (jwl_jw _)).mpr q21) ?_
      refine ey_lload (cd_103 rfl) f4 ?_
      refine ey_l2i (cd_103 rfl) ?_
      exact ey_rs (s0 := [jI x4]) (s1 := [jI (if 0 ≤ (jwl x4) then (if (jwl x4) < (jw x7) then x4 else (x7 - 1)) else 0)]) (by rw [show ((if 0 ≤ (jwl x4) then (if (jwl x4) < (jw x7) then x4 else (x7 - 1)) else 0) : Int) = x4 from ((if_pos q20).trans (if_pos q21))]) (K19 (jup lv 8 (jI y0)) f0 f1 f6 rfl)
    · refine ey_ylt (cd_103 rfl) rfl rfl (fun w => q21 ((jlc_lt rfl (jwl_jw _)).mp w)) ?_
      refine ey_iload (cd_103 rfl) (jup_pi (lv := lv) (j := 7) (v := jI y0) (z := x7) f7) ?_
      refine ey_iconst (cd_103 rfl) ?_
      refine ey_isub (cd_103 rfl) ?_
      refine ey_goto (cd_103 rfl) rfl ?_
      exact ey_rs (s0 := [jI (x7 - 1)]) (s1 := [jI (if 0 ≤ (jwl x4) then (if (jwl x4) < (jw x7) then x4 else (x7 - 1)) else 0)]) (by rw [show ((if 0 ≤ (jwl x4) then (if (jwl x4) < (jw x7) then x4 else (x7 - 1)) else 0) : Int) = (x7 - 1) from ((if_pos q20).trans (if_neg q21))]) (K19 (jup lv 8 (jI y0)) f0 f1 f6 rfl)
  · refine ey_yge (cd_103 rfl) rfl rfl (fun w => q20 ((jlc_ge rfl (show jwl 0 = 0 from by decide)).mp w)) ?_
    refine ey_iconst (cd_103 rfl) ?_
    refine ey_goto (cd_103 rfl) rfl ?_
    exact ey_rs (s0 := [jI 0]) (s1 := [jI (if 0 ≤ (jwl x4) then (if (jwl x4) < (jw x7) then x4 else (x7 - 1)) else 0)]) (by rw [show ((if 0 ≤ (jwl x4) then (if (jwl x4) < (jw x7) then x4 else (x7 - 1)) else 0) : Int) = 0 from (if_neg q20)]) (K19 (jup lv 8 (jI y0)) f0 f1 f6 rfl)
set_option maxRecDepth 100000 in
theorem ok_103 {L : Nat} {xs : Nat → Int32} {this : Nat} {p0 : Int} {p1 : Int} {p2 : Int} {h : jH} {o : Int} (e : jd_103 this p0 p1 p2 h = some o) : mm_Runs (mm_xt L xs) 2 103 ([jR (some this), jI p0, jJ p1, jJ p2].map jcv) (jaH h) (.inl (some (jcv (jI o)), jaH h)) := by
  refine ey_run0 _ mt_103 (jsl_s rfl) ?_
  unfold jd_103 at e
  refine ey_aload_n (cd_103 rfl) rfl ?_
  refine ey_iload_n (cd_103 rfl) rfl ?_
  obtain ⟨u1, e2, e⟩ := jbind e
  obtain ⟨v3, e4, e⟩ := jbind e
  refine ey_cv (s0 := [jI p0, jR (some this)]) (s1 := []) (st' := [jI v3]) (cd_103 rfl) mt_103 mt_96 rfl rfl rfl (jck_s e2) rfl (jsml_s rfl) rfl (ok_96 e4) ?_
  refine ey_istore (cd_103 rfl) mt_103 rfl ?_
  refine ey_aload_n (cd_103 rfl) rfl ?_
  refine ey_iload_n (cd_103 rfl) rfl ?_
  obtain ⟨u5, e6, e⟩ := jbind e
  obtain ⟨v7, e8, e⟩ := jbind e
  refine ey_cv (s0 := [jI p0, jR (some this)]) (s1 := []) (st' := [jI v7]) (cd_103 rfl) mt_103 mt_97 rfl rfl rfl (jck_s e6) rfl (jsml_s rfl) rfl (ok_97 e8) ?_
  refine ey_istore (cd_103 rfl) mt_103 rfl ?_
  refine ey_lload_n (cd_103 rfl) rfl ?_
  refine ey_lconst0 (cd_103 rfl) ?_
  refine ey_lcmp (cd_103 rfl) ?_
  have K22 : ∀ lv : jL, lv 0 = some (jR (some this)) → lv 1 = some (jI p0) → lv 4 = some (jJ p2) → lv 6 = some (jI v3) → lv 7 = some (jI v7) → ey (mm_xt L xs) 1 103 41 lv [jI (if 0 ≤ (jwl p1) then (if (jwl p1) < (jw v3) then p1 else (v3 - 1)) else 0)] h (.inl (some (jcv (jI o)), jaH h)) := by
    intro lv g0 g1 g4 g6 g7
    exact jk_103_b41 e lv g0 g1 g4 g6 g7
  by_cases q23 : 0 ≤ (jwl p1)
  · refine ey_zge (cd_103 rfl) rfl rfl ((jlc_ge rfl (show jwl 0 = 0 from by decide)).mpr q23) ?_
    refine ey_lload_n (cd_103 rfl) rfl ?_
    refine ey_iload (cd_103 rfl) (jup_pi (lv := (jup (jlf (jla 0 [jR (some this), jI p0, jJ p1, jJ p2])) 6 (jI v3))) (j := 6) (v := jI v7) (z := v3) rfl) ?_
    refine ey_i2l (cd_103 rfl) ?_
    refine ey_lcmp (cd_103 rfl) ?_
    by_cases q24 : (jwl p1) < (jw v3)
    · refine ey_zlt (cd_103 rfl) rfl rfl ((jlc_lt rfl (jwl_jw _)).mpr q24) ?_
      refine ey_lload_n (cd_103 rfl) rfl ?_
      refine ey_l2i (cd_103 rfl) ?_
      exact ey_rs (s0 := [jI p1]) (s1 := [jI (if 0 ≤ (jwl p1) then (if (jwl p1) < (jw v3) then p1 else (v3 - 1)) else 0)]) (by rw [show ((if 0 ≤ (jwl p1) then (if (jwl p1) < (jw v3) then p1 else (v3 - 1)) else 0) : Int) = p1 from ((if_pos q23).trans (if_pos q24))]) (K22 (jup (jup (jlf (jla 0 [jR (some this), jI p0, jJ p1, jJ p2])) 6 (jI v3)) 7 (jI v7)) rfl rfl rfl (jup_pi (lv := (jup (jlf (jla 0 [jR (some this), jI p0, jJ p1, jJ p2])) 6 (jI v3))) (j := 6) (v := jI v7) (z := v3) rfl) rfl)
    · refine ey_ylt (cd_103 rfl) rfl rfl (fun w => q24 ((jlc_lt rfl (jwl_jw _)).mp w)) ?_
      refine ey_iload (cd_103 rfl) (jup_pi (lv := (jup (jlf (jla 0 [jR (some this), jI p0, jJ p1, jJ p2])) 6 (jI v3))) (j := 6) (v := jI v7) (z := v3) rfl) ?_
      refine ey_iconst (cd_103 rfl) ?_
      refine ey_isub (cd_103 rfl) ?_
      refine ey_goto (cd_103 rfl) rfl ?_
      exact ey_rs (s0 := [jI (v3 - 1)]) (s1 := [jI (if 0 ≤ (jwl p1) then (if (jwl p1) < (jw v3) then p1 else (v3 - 1)) else 0)]) (by rw [show ((if 0 ≤ (jwl p1) then (if (jwl p1) < (jw v3) then p1 else (v3 - 1)) else 0) : Int) = (v3 - 1) from ((if_pos q23).trans (if_neg q24))]) (K22 (jup (jup (jlf (jla 0 [jR (some this), jI p0, jJ p1, jJ p2])) 6 (jI v3)) 7 (jI v7)) rfl rfl rfl (jup_pi (lv := (jup (jlf (jla 0 [jR (some this), jI p0, jJ p1, jJ p2])) 6 (jI v3))) (j := 6) (v := jI v7) (z := v3) rfl) rfl)
  · refine ey_yge (cd_103 rfl) rfl rfl (fun w => q23 ((jlc_ge rfl (show jwl 0 = 0 from by decide)).mp w)) ?_
    refine ey_iconst (cd_103 rfl) ?_
    refine ey_goto (cd_103 rfl) rfl ?_
    exact ey_rs (s0 := [jI 0]) (s1 := [jI (if 0 ≤ (jwl p1) then (if (jwl p1) < (jw v3) then p1 else (v3 - 1)) else 0)]) (by rw [show ((if 0 ≤ (jwl p1) then (if (jwl p1) < (jw v3) then p1 else (v3 - 1)) else 0) : Int) = 0 from (if_neg q23)]) (K22 (jup (jup (jlf (jla 0 [jR (some this), jI p0, jJ p1, jJ p2])) 6 (jI v3)) 7 (jI v7)) rfl rfl rfl (jup_pi (lv := (jup (jlf (jla 0 [jR (some this), jI p0, jJ p1, jJ p2])) 6 (jI v3))) (j := 6) (v := jI v7) (z := v3) rfl) rfl)
theorem cd_56 {pc : Nat} {i : Instr × Nat} (h : mm_lk mm_c56 pc = some i) : mm_cd 56 pc = some i := h
theorem mt_56 : mm_MT 56 = (3, 11, some .int, 5, 0, []) := rfl
set_option maxRecDepth 100000 in
theorem jk_56_b381 {L : Nat} {xs : Nat → Int32} {this : Nat} {x1 : Option Nat} {x2 : Int} {x3 : Int} {x4 : Int} {x5 : Int} {x6 : Int} {x7 : Int} {x10 : Int} {h : jH} {o : ((Int × Int × jH) ⊕ (jH ⊕ (Int × jH)))} {r : mm_R} (e : jd_56_b381 this x1 x2 x3 x4 x5 x6 x7 x10 h = some o) (K : jsm (fun s => (∀ lv : jL, lv 0 = some (jR (some this)) → lv 1 = some (jR x1) → lv 2 = some (jI x2) → lv 3 = some (jI x3) → lv 4 = some (jI x4) → lv 5 = some (jI x5) → lv 6 = some (jI s.1) → lv 7 = some (jI s.2.1) → ey (mm_xt L xs) 2 56 6 lv [] s.2.2 r)) (fun x => (jsm (fun y => (∀ lv : jL, ey (mm_xt L xs) 2 56 49 lv [] y r)) (fun z => (∀ lv : jL, lv 0 = some (jR (some this)) → lv 6 = some (jI z.1) → ey (mm_xt L xs) 2 56 399 lv [] z.2 r)) x)) o) : ∀ lv : jL, lv 0 = some (jR (some this)) → lv 1 = some (jR x1) → lv 2 = some (jI x2) → lv 3 = some (jI x3) → lv 4 = some (jI x4) → lv 5 = some (jI x5) → lv 6 = some (jI x6) → lv 7 = some (jI x7) → lv 10 = some (jI x10) → ey (mm_xt L xs) 2 56 381 lv [] h r := by
  intro lv f0 f1 f2 f3 f4 f5 f6 f7 f10
  unfold jd_56_b381 at e
  refine ey_aload_n (cd_56 rfl) f0 ?_
  obtain ⟨r31, e32, e⟩ := jbind e
  refine ey_getf_r (cd_56 rfl) mt_56 rfl rfl rfl e32 ?_
  refine ey_iload (cd_56 rfl) f6 ?_
  refine ey_iinc (cd_56 rfl) mt_56 rfl f6 ?_
  refine ey_iload (cd_56 rfl) f10 ?_
  obtain ⟨a33, e34, e⟩ := jbind e
  refine ey_rs (s0 := [jI x10, jI x6, jR r31]) (s1 := [jI x10, jI x6, jR (some a33)]) (by rw [e34]) ?_
  obtain ⟨h35, e36, e⟩ := jbind e
  refine ey_iast (cd_56 rfl) e36 ?_
  refine ey_iinc (cd_56 rfl) mt_56 rfl f7 ?_
  refine ey_goto (cd_56 rfl) rfl ?_
  cases e
  exact K (jup (jup lv 6 (jI (x6 + 1))) 7 (jI (x7 + 1))) f0 f1 f2 f3 f4 (jup_o rfl (jup_pi (lv := lv) (j := 5) (v := jI (x6 + 1)) (z := x5) f5)) (jup_pi (lv := (jup lv 6 (jI (x6 + 1)))) (j := 6) (v := jI (x7 + 1)) (z := (x6 + 1)) rfl) rfl
set_option maxRecDepth 100000 in
theorem jk_56_b379 {L : Nat} {xs : Nat → Int32} {this : Nat} {x1 : Option Nat} {x2 : Int} {x3 : Int} {x4 : Int} {x5 : Int} {x6 : Int} {x7 : Int} {y0 : Int} {h : jH} {o : ((Int × Int × jH) ⊕ (jH ⊕ (Int × jH)))} {r : mm_R} (e : jd_56_b379 this x1 x2 x3 x4 x5 x6 x7 y0 h = some o) (K : jsm (fun s => (∀ lv : jL, lv 0 = some (jR (some this)) → lv 1 = some (jR x1) → lv 2 = some (jI x2) → lv 3 = some (jI x3) → lv 4 = some (jI x4) → lv 5 = some (jI x5) → lv 6 = some (jI s.1) → lv 7 = some (jI s.2.1) → ey (mm_xt L xs) 2 56 6 lv [] s.2.2 r)) (fun x => (jsm (fun y => (∀ lv : jL, ey (mm_xt L xs) 2 56 49 lv [] y r)) (fun z => (∀ lv : jL, lv 0 = some (jR (some this)) → lv 6 = some (jI z.1) → ey (mm_xt L xs) 2 56 399 lv [] z.2 r)) x)) o) : ∀ lv : jL, lv 0 = some (jR (some this)) → lv 1 = some (jR x1) → lv 2 = some (jI x2) → lv 3 = some (jI x3) → lv 4 = some (jI x4) → lv 5 = some (jI x5) → lv 6 = some (jI x6) → lv 7 = some (jI x7) → ey (mm_xt L xs) 2 56 379 lv [jI y0] h r := by
  intro lv f0 f1 f2 f3 f4 f5 f6 f7
  unfold jd_56_b379 at e
  refine ey_istore (cd_56 rfl) mt_56 rfl ?_
  exact jk_56_b381 e K (jup lv 10 (jI y0)) f0 f1 f2 f3 f4 f5 f6 f7 rfl
set_option maxRecDepth 100000 in
theorem jk_56_b341 {L : Nat} {xs : Nat → Int32} {this : Nat} {x1 : Option Nat} {x2 : Int} {x3 : Int} {x4 : Int} {x5 : Int} {x6 : Int} {x7 : Int} {x8 : Int} {h : jH} {o : ((Int × Int × jH) ⊕ (jH ⊕ (Int × jH)))} {r : mm_R} (e : jd_56_b341 this x1 x2 x3 x4 x5 x6 x7 x8 h = some o) (K : jsm (fun s => (∀ lv : jL, lv 0 = some (jR (some this)) → lv 1 = some (jR x1) → lv 2 = some (jI x2) → lv 3 = some (jI x3) → lv 4 = some (jI x4) → lv 5 = some (jI x5) → lv 6 = some (jI s.1) → lv 7 = some (jI s.2.1) → ey (mm_xt L xs) 2 56 6 lv [] s.2.2 r)) (fun x => (jsm (fun y => (∀ lv : jL, ey (mm_xt L xs) 2 56 49 lv [] y r)) (fun z => (∀ lv : jL, lv 0 = some (jR (some this)) → lv 6 = some (jI z.1) → ey (mm_xt L xs) 2 56 399 lv [] z.2 r)) x)) o) : ∀ lv : jL, lv 0 = some (jR (some this)) → lv 1 = some (jR x1) → lv 2 = some (jI x2) → lv 3 = some (jI x3) → lv 4 = some (jI x4) → lv 5 = some (jI x5) → lv 6 = some (jI x6) → lv 7 = some (jI x7) → lv 8 = some (jI x8) → ey (mm_xt L xs) 2 56 341 lv [] h r := by
  intro lv f0 f1 f2 f3 f4 f5 f6 f7 f8
  unfold jd_56_b341 at e
  refine ey_iload (cd_56 rfl) f8 ?_
  refine ey_sipush (cd_56 rfl) (by decide) ?_
  by_cases q38 : (jw x8) < 1000
  · rw [if_pos q38] at e
    refine ey_clt (cd_56 rfl) rfl rfl (show jw 1000 = 1000 from by decide) q38 ?_
    refine ey_iload (cd_56 rfl) f8 ?_
    refine ey_aload_n (cd_56 rfl) f0 ?_
    obtain ⟨r39, e40, e⟩ := jbind e
    refine ey_getf_r (cd_56 rfl) mt_56 rfl rfl rfl e40 ?_
    refine ey_iload (cd_56 rfl) f6 ?_
    obtain ⟨a41, e42, e⟩ := jbind e
    refine ey_rs (s0 := [jI x6, jR r39, jI x8]) (s1 := [jI x6, jR (some a41), jI x8]) (by rw [e42]) ?_
    obtain ⟨v43, e44, e⟩ := jbind e
    refine ey_iald (cd_56 rfl) e44 ?_
    refine ey_aload_n (cd_56 rfl) f0 ?_
    obtain ⟨r45, e46, e⟩ := jbind e
    refine ey_getf_r (cd_56 rfl) mt_56 rfl rfl rfl e46 ?_
    refine ey_iload (cd_56 rfl) f6 ?_
    refine ey_iconst (cd_56 rfl) ?_
    refine ey_iadd (cd_56 rfl) ?_
    obtain ⟨a47, e48, e⟩ := jbind e
    refine ey_rs (s0 := [jI (x6 + 1), jR r45, jI v43, jI x8]) (s1 := [jI (x6 + 1), jR (some a47), jI v43, jI x8]) (by rw [e48]) ?_
    obtain ⟨v49, e50, e⟩ := jbind e
    refine ey_iald (cd_56 rfl) e50 ?_
    obtain ⟨v51, e52, e⟩ := jbind e
    refine ey_cs (s0 := [jI v49, jI v43, jI x8]) (s1 := []) (st' := [jI v51]) (cd_56 rfl) mt_56 mt_58 rfl (by decide) rfl rfl (jsml_s rfl) rfl (mm_Runs.up (d := 1) (by decide) (ok_58 e52)) ?_
    exact jk_56_b379 e K lv f0 f1 f2 f3 f4 f5 f6 f7
  · rw [if_neg q38] at e
    refine ey_nlt (cd_56 rfl) rfl rfl (show jw 1000 = 1000 from by decide) q38 ?_
    refine ey_iload (cd_56 rfl) f8 ?_
    refine ey_sipush (cd_56 rfl) (by decide) ?_
    refine ey_isub (cd_56 rfl) ?_
    refine ey_goto (cd_56 rfl) rfl ?_
    exact jk_56_b379 e K lv f0 f1 f2 f3 f4 f5 f6 f7
set_option maxRecDepth 100000 in
theorem jk_56_b323 {L : Nat} {xs : Nat → Int32} {this : Nat} {x1 : Option Nat} {x2 : Int} {x3 : Int} {x4 : Int} {x5 : Int} {x6 : Int} {x7 : Int} {y0 : Int} {h : jH} {o : ((Int × Int × jH) ⊕ (jH ⊕ (Int × jH)))} {r : mm_R} (e : jd_56_b323 this x1 x2 x3 x4 x5 x6 x7 y0 h = some o) (K : jsm (fun s => (∀ lv : jL, lv 0 = some (jR (some this)) → lv 1 = some (jR x1) → lv 2 = some (jI x2) → lv 3 = some (jI x3) → lv 4 = some (jI x4) → lv 5 = some (jI x5) → lv 6 = some (jI s.1) → lv 7 = some (jI s.2.1) → ey (mm_xt L xs) 2 56 6 lv [] s.2.2 r)) (fun x => (jsm (fun y => (∀ lv : jL, ey (mm_xt L xs) 2 56 49 lv [] y r)) (fun z => (∀ lv : jL, lv 0 = some (jR (some this)) → lv 6 = some (jI z.1) → ey (mm_xt L xs) 2 56 399 lv [] z.2 r)) x)) o) : ∀ lv : jL, lv 0 = some (jR (some this)) → lv 1 = some (jR x1) → lv 2 = some (jI x2) → lv 3 = some (jI x3) → lv 4 = some (jI x4) → lv 5 = some (jI x5) → lv 6 = some (jI x6) → lv 7 = some (jI x7) → ey (mm_xt L xs) 2 56 323 lv [jI y0] h r := by
  intro lv f0 f1 f2 f3 f4 f5 f6 f7
  unfold jd_56_b323 at e
  refine ey_istore (cd_56 rfl) mt_56 rfl ?_
  refine ey_goto (cd_56 rfl) rfl ?_
  exact jk_56_b381 e K (jup lv 10 (jI y0)) f0 f1 f2 f3 f4 f5 f6 f7 rfl
set_option maxRecDepth 100000 in
theorem jk_56_s6 {L : Nat} {xs : Nat → Int32} {this : Nat} {x1 : Option Nat} {x2 : Int} {x3 : Int} {x4 : Int} {x5 : Int} {x6 : Int} {x7 : Int} {h : jH} {o : ((Int × Int × jH) ⊕ (jH ⊕ (Int × jH)))} {r : mm_R} (e : jd_56_s6 this x1 x2 x3 x4 x5 x6 x7 h = some o) (K : jsm (fun s => (∀ lv : jL, lv 0 = some (jR (some this)) → lv 1 = some (jR x1) → lv 2 = some (jI x2) → lv 3 = some (jI x3) → lv 4 = some (jI x4) → lv 5 = some (jI x5) → lv 6 = some (jI s.1) → lv 7 = some (jI s.2.1) → ey (mm_xt L xs) 2 56 6 lv [] s.2.2 r)) (fun x => (jsm (fun y => (∀ lv : jL, ey (mm_xt L xs) 2 56 49 lv [] y r)) (fun z => (∀ lv : jL, lv 0 = some (jR (some this)) → lv 6 = some (jI z.1) → ey (mm_xt L xs) 2 56 399 lv [] z.2 r)) x)) o) : ∀ lv : jL, lv 0 = some (jR (some this)) → lv 1 = some (jR x1) → lv 2 = some (jI x2) → lv 3 = some (jI x3) → lv 4 = some (jI x4) → lv 5 = some (jI x5) → lv 6 = some (jI x6) → lv 7 = some (jI x7) → ey (mm_xt L xs) 2 56 6 lv [] h r := by
  intro lv f0 f1 f2 f3 f4 f5 f6 f7
  unfold jd_56_s6 at e
  refine ey_iload (cd_56 rfl) f7 ?_
  refine ey_aload_n (cd_56 rfl) f0 ?_
  obtain ⟨v1, e2, e⟩ := jbind e
  refine ey_getf_i (cd_56 rfl) mt_56 rfl rfl rfl e2 ?_
  by_cases q3 : (jw v1) ≤ (jw x7)
  · rw [if_pos q3] at e
    refine ey_cge (cd_56 rfl) rfl rfl rfl q3 ?_
    cases e
    exact K lv f0 f6
  · rw [if_neg q3] at e
    refine ey_nge (cd_56 rfl) rfl rfl rfl q3 ?_
    refine ey_aload_n (cd_56 rfl) f0 ?_
    obtain ⟨r4, e5, e⟩ := jbind e
    refine ey_getf_r (cd_56 rfl) mt_56 rfl rfl rfl e5 ?_
    refine ey_iload (cd_56 rfl) f7 ?_
    obtain ⟨a6, e7, e⟩ := jbind e
    refine ey_rs (s0 := [jI x7, jR r4]) (s1 := [jI x7, jR (some a6)]) (by rw [e7]) ?_
    obtain ⟨v8, e9, e⟩ := jbind e
    refine ey_iald (cd_56 rfl) e9 ?_
    refine ey_istore (cd_56 rfl) mt_56 rfl ?_
    refine ey_iload (cd_56 rfl) rfl ?_
    refine ey_cs (s0 := [jI v8]) (s1 := []) (st' := [jI (jd_57 v8)]) (cd_56 rfl) mt_56 mt_57 rfl (by decide) rfl rfl (jsml_s rfl) rfl (mm_Runs.up (d := 1) (by decide) (ok_57 )) ?_
    refine ey_istore (cd_56 rfl) mt_56 rfl ?_
    refine ey_iload (cd_56 rfl) f6 ?_
    refine ey_iload (cd_56 rfl) rfl ?_
    by_cases q10 : (jw x6) < (jw (jd_57 v8))
    · rw [if_pos q10] at e
      refine ey_clt (cd_56 rfl) rfl rfl rfl q10 ?_
      cases e
      exact K (jup (jup lv 8 (jI v8)) 9 (jI (jd_57 v8))) 
    · rw [if_neg q10] at e
      refine ey_nlt (cd_56 rfl) rfl rfl rfl q10 ?_
      refine ey_iload (cd_56 rfl) f6 ?_
      refine ey_iload (cd_56 rfl) rfl ?_
      refine ey_isub (cd_56 rfl) ?_
      refine ey_sipush (cd_56 rfl) (by decide) ?_
      by_cases q11 : (jw (x6 - (jd_57 v8))) < 200
      · rw [if_pos q11] at e
        refine ey_clt (cd_56 rfl) rfl rfl (show jw 200 = 200 from by decide) q11 ?_
        refine ey_iload (cd_56 rfl) f6 ?_
        refine ey_iload (cd_56 rfl) rfl ?_
        refine ey_isub (cd_56 rfl) ?_
        refine ey_istore (cd_56 rfl) mt_56 rfl ?_
        refine ey_iload (cd_56 rfl) (jup_o rfl (jup_pi (lv := (jup lv 8 (jI v8))) (j := 8) (v := jI (jd_57 v8)) (z := v8) rfl)) ?_
        by_cases q12 : (jw v8) = 97
        · rw [if_pos q12] at e
          refine ey_tsw (cd_56 rfl) q12 (by decide) rfl rfl ?_
          refine ey_aload_n (cd_56 rfl) f1 ?_
          refine ey_iload_n (cd_56 rfl) f2 ?_
          refine ey_iload_n (cd_56 rfl) f3 ?_
          refine ey_i2l (cd_56 rfl) ?_
          refine ey_aload_n (cd_56 rfl) f0 ?_
          obtain ⟨r13, e14, e⟩ := jbind e
          refine ey_getf_r (cd_56 rfl) mt_56 rfl rfl rfl e14 ?_
          refine ey_iload (cd_56 rfl) rfl ?_
          obtain ⟨a15, e16, e⟩ := jbind e
          refine ey_rs (s0 := [jI (x6 - (jd_57 v8)), jR r13, jJ (jw x3), jI x2, jR x1]) (s1 := [jI (x6 - (jd_57 v8)), jR (some a15), jJ (jw x3), jI x2, jR x1]) (by rw [e16]) ?_
          obtain ⟨v17, e18, e⟩ := jbind e
          refine ey_iald (cd_56 rfl) e18 ?_
          refine ey_i2l (cd_56 rfl) ?_
          refine ey_ladd (cd_56 rfl) ?_
          refine ey_iload (cd_56 rfl) f4 ?_
          refine ey_i2l (cd_56 rfl) ?_
          refine ey_aload_n (cd_56 rfl) f0 ?_
          obtain ⟨r19, e20, e⟩ := jbind e
          refine ey_getf_r (cd_56 rfl) mt_56 rfl rfl rfl e20 ?_
          refine ey_iload (cd_56 rfl) rfl ?_
          refine ey_iconst (cd_56 rfl) ?_
          refine ey_iadd (cd_56 rfl) ?_
          obtain ⟨a21, e22, e⟩ := jbind e
          refine ey_rs (s0 := [jI ((x6 - (jd_57 v8)) + 1), jR r19, jJ (jw x4), jJ ((jw x3) + (jw v17)), jI x2, jR x1]) (s1 := [jI ((x6 - (jd_57 v8)) + 1), jR (some a21), jJ (jw x4), jJ ((jw x3) + (jw v17)), jI x2, jR x1]) (by rw [e22]) ?_
          obtain ⟨v23, e24, e⟩ := jbind e
          refine ey_iald (cd_56 rfl) e24 ?_
          refine ey_i2l (cd_56 rfl) ?_
          refine ey_ladd (cd_56 rfl) ?_
          obtain ⟨a25, e26, e⟩ := jbind e
          refine ey_rs (s0 := [jJ ((jw x4) + (jw v23)), jJ ((jw x3) + (jw v17)), jI x2, jR x1]) (s1 := [jJ ((jw x4) + (jw v23)), jJ ((jw x3) + (jw v17)), jI x2, jR (some a25)]) (by rw [e26]) ?_
          obtain ⟨u27, e28, e⟩ := jbind e
          obtain ⟨v29, e30, e⟩ := jbind e
          refine ey_cv (s0 := [jJ ((jw x4) + (jw v23)), jJ ((jw x3) + (jw v17)), jI x2, jR (some a25)]) (s1 := []) (st' := [jI v29]) (cd_56 rfl) mt_56 mt_103 rfl rfl rfl (jck_s e28) rfl (jsml_s rfl) rfl (ok_103 e30) ?_
          refine ey_istore (cd_56 rfl) mt_56 rfl ?_
          refine ey_goto (cd_56 rfl) rfl ?_
          exact jk_56_b381 e K (jup (jup (jup (jup lv 8 (jI v8)) 9 (jI (jd_57 v8))) 6 (jI (x6 - (jd_57 v8)))) 10 (jI v29)) f0 f1 f2 f3 f4 (jup_o rfl (jup_pi (lv := (jup (jup lv 8 (jI v8)) 9 (jI (jd_57 v8)))) (j := 5) (v := jI (x6 - (jd_57 v8))) (z := x5) f5)) rfl (jup_o rfl (jup_o rfl (jup_o rfl (jup_pi (lv := lv) (j := 7) (v := jI v8) (z := x7) f7)))) rfl
        · rw [if_neg q12] at e
          by_cases q37 : (jw v8) = 98
          · rw [if_pos q37] at e
            refine ey_tsw (cd_56 rfl) q37 (by decide) rfl rfl ?_
            exact jk_56_b341 e K (jup (jup (jup lv 8 (jI v8)) 9 (jI (jd_57 v8))) 6 (jI (x6 - (jd_57 v8)))) f0 f1 f2 f3 f4 (jup_pi (lv := (jup (jup lv 8 (jI v8)) 9 (jI (jd_57 v8)))) (j := 5) (v := jI (x6 - (jd_57 v8))) (z := x5) f5) rfl (jup_o rfl (jup_o rfl (jup_pi (lv := lv) (j := 7) (v := jI v8) (z := x7) f7))) (jup_o rfl (jup_pi (lv := (jup lv 8 (jI v8))) (j := 8) (v := jI (jd_57 v8)) (z := v8) rfl))
          · rw [if_neg q37] at e
            by_cases q53 : (jw v8) = 99
            · rw [if_pos q53] at e
              refine ey_tsw (cd_56 rfl) q53 (by decide) rfl rfl ?_
              exact jk_56_b341 e K (jup (jup (jup lv 8 (jI v8)) 9 (jI (jd_57 v8))) 6 (jI (x6 - (jd_57 v8)))) f0 f1 f2 f3 f4 (jup_pi (lv := (jup (jup lv 8 (jI v8)) 9 (jI (jd_57 v8)))) (j := 5) (v := jI (x6 - (jd_57 v8))) (z := x5) f5) rfl (jup_o rfl (jup_o rfl (jup_pi (lv := lv) (j := 7) (v := jI v8) (z := x7) f7))) (jup_o rfl (jup_pi (lv := (jup lv 8 (jI v8))) (j := 8) (v := jI (jd_57 v8)) (z := v8) rfl))
            · rw [if_neg q53] at e
              by_cases q54 : (jw v8) = 100
              · rw [if_pos q54] at e
                refine ey_tsw (cd_56 rfl) q54 (by decide) rfl rfl ?_
                exact jk_56_b341 e K (jup (jup (jup lv 8 (jI v8)) 9 (jI (jd_57 v8))) 6 (jI (x6 - (jd_57 v8)))) f0 f1 f2 f3 f4 (jup_pi (lv := (jup (jup lv 8 (jI v8)) 9 (jI (jd_57 v8)))) (j := 5) (v := jI (x6 - (jd_57 v8))) (z := x5) f5) rfl (jup_o rfl (jup_o rfl (jup_pi (lv := lv) (j := 7) (v := jI v8) (z := x7) f7))) (jup_o rfl (jup_pi (lv := (jup lv 8 (jI v8))) (j := 8) (v := jI (jd_57 v8)) (z := v8) rfl))
              · rw [if_neg q54] at e
                by_cases q55 : (jw v8) = 101
                · rw [if_pos q55] at e
                  refine ey_tsw (cd_56 rfl) q55 (by decide) rfl rfl ?_
                  exact jk_56_b341 e K (jup (jup (jup lv 8 (jI v8)) 9 (jI (jd_57 v8))) 6 (jI (x6 - (jd_57 v8)))) f0 f1 f2 f3 f4 (jup_pi (lv := (jup (jup lv 8 (jI v8)) 9 (jI (jd_57 v8)))) (j := 5) (v := jI (x6 - (jd_57 v8))) (z := x5) f5) rfl (jup_o rfl (jup_o rfl (jup_pi (lv := lv) (j := 7) (v := jI v8) (z := x7) f7))) (jup_o rfl (jup_pi (lv := (jup lv 8 (jI v8))) (j := 8) (v := jI (jd_57 v8)) (z := v8) rfl))
                · rw [if_neg q55] at e
                  by_cases q56 : (jw v8) = 102
                  · rw [if_pos q56] at e
                    refine ey_tsw (cd_56 rfl) q56 (by decide) rfl rfl ?_
                    exact jk_56_b341 e K (jup (jup (jup lv 8 (jI v8)) 9 (jI (jd_57 v8))) 6 (jI (x6 - (jd_57 v8)))) f0 f1 f2 f3 f4 (jup_pi (lv := (jup (jup lv 8 (jI v8)) 9 (jI (jd_57 v8)))) (j := 5) (v := jI (x6 - (jd_57 v8))) (z := x5) f5) rfl (jup_o rfl (jup_o rfl (jup_pi (lv := lv) (j := 7) (v := jI v8) (z := x7) f7))) (jup_o rfl (jup_pi (lv := (jup lv 8 (jI v8))) (j := 8) (v := jI (jd_57 v8)) (z := v8) rfl))
                  · rw [if_neg q56] at e
                    by_cases q57 : (jw v8) = 103
                    · rw [if_pos q57] at e
                      refine ey_tsw (cd_56 rfl) q57 (by decide) rfl rfl ?_
                      exact jk_56_b341 e K (jup (jup (jup lv 8 (jI v8)) 9 (jI (jd_57 v8))) 6 (jI (x6 - (jd_57 v8)))) f0 f1 f2 f3 f4 (jup_pi (lv := (jup (jup lv 8 (jI v8)) 9 (jI (jd_57 v8)))) (j := 5) (v := jI (x6 - (jd_57 v8))) (z := x5) f5) rfl (jup_o rfl (jup_o rfl (jup_pi (lv := lv) (j := 7) (v := jI v8) (z := x7) f7))) (jup_o rfl (jup_pi (lv := (jup lv 8 (jI v8))) (j := 8) (v := jI (jd_57 v8)) (z := v8) rfl))
                    · rw [if_neg q57] at e
                      by_cases q58 : (jw v8) = 104
                      · rw [if_pos q58] at e
                        refine ey_tsw (cd_56 rfl) q58 (by decide) rfl rfl ?_
                        refine ey_aload_n (cd_56 rfl) f1 ?_
                        refine ey_iload_n (cd_56 rfl) f2 ?_
                        obtain ⟨a59, e60, e⟩ := jbind e
                        refine ey_rs (s0 := [jI x2, jR x1]) (s1 := [jI x2, jR (some a59)]) (by rw [e60]) ?_
                        obtain ⟨u61, e62, e⟩ := jbind e
                        obtain ⟨v63, e64, e⟩ := jbind e
                        refine ey_cv (s0 := [jI x2, jR (some a59)]) (s1 := []) (st' := [jI v63]) (cd_56 rfl) mt_56 mt_97 rfl rfl rfl (jck_s e62) rfl (jsml_s rfl) rfl (mm_Runs.up (d := 1) (by decide) (ok_97 e64)) ?_
                        refine ey_istore (cd_56 rfl) mt_56 rfl ?_
                        refine ey_goto (cd_56 rfl) rfl ?_
                        exact jk_56_b381 e K (jup (jup (jup (jup lv 8 (jI v8)) 9 (jI (jd_57 v8))) 6 (jI (x6 - (jd_57 v8)))) 10 (jI v63)) f0 f1 f2 f3 f4 (jup_o rfl (jup_pi (lv := (jup (jup lv 8 (jI v8)) 9 (jI (jd_57 v8)))) (j := 5) (v := jI (x6 - (jd_57 v8))) (z := x5) f5)) rfl (jup_o rfl (jup_o rfl (jup_o rfl (jup_pi (lv := lv) (j := 7) (v := jI v8) (z := x7) f7)))) rfl
                      · rw [if_neg q58] at e
                        by_cases q65 : (jw v8) = 105
                        · rw [if_pos q65] at e
                          refine ey_tsw (cd_56 rfl) q65 (by decide) rfl rfl ?_
                          refine ey_aload_n (cd_56 rfl) f0 ?_
                          obtain ⟨r66, e67, e⟩ := jbind e
                          refine ey_getf_r (cd_56 rfl) mt_56 rfl rfl rfl e67 ?_
                          refine ey_iload (cd_56 rfl) rfl ?_
                          obtain ⟨a68, e69, e⟩ := jbind e
                          refine ey_rs (s0 := [jI (x6 - (jd_57 v8)), jR r66]) (s1 := [jI (x6 - (jd_57 v8)), jR (some a68)]) (by rw [e69]) ?_
                          obtain ⟨v70, e71, e⟩ := jbind e
                          refine ey_iald (cd_56 rfl) e71 ?_
                          by_cases q72 : (jw v70) = 0
                          · rw [if_pos q72] at e
                            refine ey_zeq (cd_56 rfl) rfl rfl q72 ?_
                            refine ey_aload_n (cd_56 rfl) f0 ?_
                            obtain ⟨r73, e74, e⟩ := jbind e
                            refine ey_getf_r (cd_56 rfl) mt_56 rfl rfl rfl e74 ?_
                            refine ey_iload (cd_56 rfl) rfl ?_
                            refine ey_iconst (cd_56 rfl) ?_
                            refine ey_iadd (cd_56 rfl) ?_
                            obtain ⟨a75, e76, e⟩ := jbind e
                            refine ey_rs (s0 := [jI ((x6 - (jd_57 v8)) + 2), jR r73]) (s1 := [jI ((x6 - (jd_57 v8)) + 2), jR (some a75)]) (by rw [e76]) ?_
                            obtain ⟨v77, e78, e⟩ := jbind e
                            refine ey_iald (cd_56 rfl) e78 ?_
                            exact jk_56_b323 e K (jup (jup (jup lv 8 (jI v8)) 9 (jI (jd_57 v8))) 6 (jI (x6 - (jd_57 v8)))) f0 f1 f2 f3 f4 (jup_pi (lv := (jup (jup lv 8 (jI v8)) 9 (jI (jd_57 v8)))) (j := 5) (v := jI (x6 - (jd_57 v8))) (z := x5) f5) rfl (jup_o rfl (jup_o rfl (jup_pi (lv := lv) (j := 7) (v := jI v8) (z := x7) f7)))
                          · rw [if_neg q72] at e
                            refine ey_yeq (cd_56 rfl) rfl rfl q72 ?_
                            refine ey_aload_n (cd_56 rfl) f0 ?_
                            obtain ⟨r79, e80, e⟩ := jbind e
                            refine ey_getf_r (cd_56 rfl) mt_56 rfl rfl rfl e80 ?_
                            refine ey_iload (cd_56 rfl) rfl ?_
                            refine ey_iconst (cd_56 rfl) ?_
                            refine ey_iadd (cd_56 rfl) ?_
                            obtain ⟨a81, e82, e⟩ := jbind e
                            refine ey_rs (s0 := [jI ((x6 - (jd_57 v8)) + 1), jR r79]) (s1 := [jI ((x6 - (jd_57 v8)) + 1), jR (some a81)]) (by rw [e82]) ?_
                            obtain ⟨v83, e84, e⟩ := jbind e
                            refine ey_iald (cd_56 rfl) e84 ?_
                            refine ey_goto (cd_56 rfl) rfl ?_
                            exact jk_56_b323 e K (jup (jup (jup lv 8 (jI v8)) 9 (jI (jd_57 v8))) 6 (jI (x6 - (jd_57 v8)))) f0 f1 f2 f3 f4 (jup_pi (lv := (jup (jup lv 8 (jI v8)) 9 (jI (jd_57 v8)))) (j := 5) (v := jI (x6 - (jd_57 v8))) (z := x5) f5) rfl (jup_o rfl (jup_o rfl (jup_pi (lv := lv) (j := 7) (v := jI v8) (z := x7) f7)))
                        · rw [if_neg q65] at e
                          by_cases q85 : (jw v8) = 106
                          · rw [if_pos q85] at e
                            refine ey_tsw (cd_56 rfl) q85 (by decide) rfl rfl ?_
                            exact jk_56_b341 e K (jup (jup (jup lv 8 (jI v8)) 9 (jI (jd_57 v8))) 6 (jI (x6 - (jd_57 v8)))) f0 f1 f2 f3 f4 (jup_pi (lv := (jup (jup lv 8 (jI v8)) 9 (jI (jd_57 v8)))) (j := 5) (v := jI (x6 - (jd_57 v8))) (z := x5) f5) rfl (jup_o rfl (jup_o rfl (jup_pi (lv := lv) (j := 7) (v := jI v8) (z := x7) f7))) (jup_o rfl (jup_pi (lv := (jup lv 8 (jI v8))) (j := 8) (v := jI (jd_57 v8)) (z := v8) rfl))
                          · rw [if_neg q85] at e
                            by_cases q86 : (jw v8) = 107
                            · rw [if_pos q86] at e
                              refine ey_tsw (cd_56 rfl) q86 (by decide) rfl rfl ?_
                              exact jk_56_b341 e K (jup (jup (jup lv 8 (jI v8)) 9 (jI (jd_57 v8))) 6 (jI (x6 - (jd_57 v8)))) f0 f1 f2 f3 f4 (jup_pi (lv := (jup (jup lv 8 (jI v8)) 9 (jI (jd_57 v8)))) (j := 5) (v := jI (x6 - (jd_57 v8))) (z := x5) f5) rfl (jup_o rfl (jup_o rfl (jup_pi (lv := lv) (j := 7) (v := jI v8) (z := x7) f7))) (jup_o rfl (jup_pi (lv := (jup lv 8 (jI v8))) (j := 8) (v := jI (jd_57 v8)) (z := v8) rfl))
                            · rw [if_neg q86] at e
                              by_cases q87 : (jw v8) = 108
                              · rw [if_pos q87] at e
                                refine ey_tsw (cd_56 rfl) q87 (by decide) rfl rfl ?_
                                exact jk_56_b341 e K (jup (jup (jup lv 8 (jI v8)) 9 (jI (jd_57 v8))) 6 (jI (x6 - (jd_57 v8)))) f0 f1 f2 f3 f4 (jup_pi (lv := (jup (jup lv 8 (jI v8)) 9 (jI (jd_57 v8)))) (j := 5) (v := jI (x6 - (jd_57 v8))) (z := x5) f5) rfl (jup_o rfl (jup_o rfl (jup_pi (lv := lv) (j := 7) (v := jI v8) (z := x7) f7))) (jup_o rfl (jup_pi (lv := (jup lv 8 (jI v8))) (j := 8) (v := jI (jd_57 v8)) (z := v8) rfl))
                              · rw [if_neg q87] at e
                                by_cases q88 : (jw v8) = 109
                                · rw [if_pos q88] at e
                                  refine ey_tsw (cd_56 rfl) q88 (by decide) rfl rfl ?_
                                  exact jk_56_b341 e K (jup (jup (jup lv 8 (jI v8)) 9 (jI (jd_57 v8))) 6 (jI (x6 - (jd_57 v8)))) f0 f1 f2 f3 f4 (jup_pi (lv := (jup (jup lv 8 (jI v8)) 9 (jI (jd_57 v8)))) (j := 5) (v := jI (x6 - (jd_57 v8))) (z := x5) f5) rfl (jup_o rfl (jup_o rfl (jup_pi (lv := lv) (j := 7) (v := jI v8) (z := x7) f7))) (jup_o rfl (jup_pi (lv := (jup lv 8 (jI v8))) (j := 8) (v := jI (jd_57 v8)) (z := v8) rfl))
                                · rw [if_neg q88] at e
                                  by_cases q89 : (jw v8) = 110
                                  · rw [if_pos q89] at e
                                    refine ey_tsw (cd_56 rfl) q89 (by decide) rfl rfl ?_
                                    refine ey_iload_n (cd_56 rfl) f2 ?_
                                    refine ey_istore (cd_56 rfl) mt_56 rfl ?_
                                    refine ey_goto (cd_56 rfl) rfl ?_
                                    exact jk_56_b381 e K (jup (jup (jup (jup lv 8 (jI v8)) 9 (jI (jd_57 v8))) 6 (jI (x6 - (jd_57 v8)))) 10 (jI x2)) f0 f1 f2 f3 f4 (jup_o rfl (jup_pi (lv := (jup (jup lv 8 (jI v8)) 9 (jI (jd_57 v8)))) (j := 5) (v := jI (x6 - (jd_57 v8))) (z := x5) f5)) rfl (jup_o rfl (jup_o rfl (jup_o rfl (jup_pi (lv := lv) (j := 7) (v := jI v8) (z := x7) f7)))) rfl
                                  · rw [if_neg q89] at e
                                    by_cases q90 : (jw v8) = 111
                                    · rw [if_pos q90] at e
                                      refine ey_tsw (cd_56 rfl) q90 (by decide) rfl rfl ?_
                                      exact jk_56_b341 e K (jup (jup (jup lv 8 (jI v8)) 9 (jI (jd_57 v8))) 6 (jI (x6 - (jd_57 v8)))) f0 f1 f2 f3 f4 (jup_pi (lv := (jup (jup lv 8 (jI v8)) 9 (jI (jd_57 v8)))) (j := 5) (v := jI (x6 - (jd_57 v8))) (z := x5) f5) rfl (jup_o rfl (jup_o rfl (jup_pi (lv := lv) (j := 7) (v := jI v8) (z := x7) f7))) (jup_o rfl (jup_pi (lv := (jup lv 8 (jI v8))) (j := 8) (v := jI (jd_57 v8)) (z := v8) rfl))
                                    · rw [if_neg q90] at e
                                      by_cases q91 : (jw v8) = 112
                                      · rw [if_pos q91] at e
                                        refine ey_tsw (cd_56 rfl) q91 (by decide) rfl rfl ?_
                                        exact jk_56_b341 e K (jup (jup (jup lv 8 (jI v8)) 9 (jI (jd_57 v8))) 6 (jI (x6 - (jd_57 v8)))) f0 f1 f2 f3 f4 (jup_pi (lv := (jup (jup lv 8 (jI v8)) 9 (jI (jd_57 v8)))) (j := 5) (v := jI (x6 - (jd_57 v8))) (z := x5) f5) rfl (jup_o rfl (jup_o rfl (jup_pi (lv := lv) (j := 7) (v := jI v8) (z := x7) f7))) (jup_o rfl (jup_pi (lv := (jup lv 8 (jI v8))) (j := 8) (v := jI (jd_57 v8)) (z := v8) rfl))
                                      · rw [if_neg q91] at e
                                        by_cases q92 : (jw v8) = 113
                                        · rw [if_pos q92] at e
                                          refine ey_tsw (cd_56 rfl) q92 (by decide) rfl rfl ?_
                                          exact jk_56_b341 e K (jup (jup (jup lv 8 (jI v8)) 9 (jI (jd_57 v8))) 6 (jI (x6 - (jd_57 v8)))) f0 f1 f2 f3 f4 (jup_pi (lv := (jup (jup lv 8 (jI v8)) 9 (jI (jd_57 v8)))) (j := 5) (v := jI (x6 - (jd_57 v8))) (z := x5) f5) rfl (jup_o rfl (jup_o rfl (jup_pi (lv := lv) (j := 7) (v := jI v8) (z := x7) f7))) (jup_o rfl (jup_pi (lv := (jup lv 8 (jI v8))) (j := 8) (v := jI (jd_57 v8)) (z := v8) rfl))
                                        · rw [if_neg q92] at e
                                          by_cases q93 : (jw v8) = 114
                                          · rw [if_pos q93] at e
                                            refine ey_tsw (cd_56 rfl) q93 (by decide) rfl rfl ?_
                                            exact jk_56_b341 e K (jup (jup (jup lv 8 (jI v8)) 9 (jI (jd_57 v8))) 6 (jI (x6 - (jd_57 v8)))) f0 f1 f2 f3 f4 (jup_pi (lv := (jup (jup lv 8 (jI v8)) 9 (jI (jd_57 v8)))) (j := 5) (v := jI (x6 - (jd_57 v8))) (z := x5) f5) rfl (jup_o rfl (jup_o rfl (jup_pi (lv := lv) (j := 7) (v := jI v8) (z := x7) f7))) (jup_o rfl (jup_pi (lv := (jup lv 8 (jI v8))) (j := 8) (v := jI (jd_57 v8)) (z := v8) rfl))
                                          · rw [if_neg q93] at e
                                            by_cases q94 : (jw v8) = 115
                                            · rw [if_pos q94] at e
                                              refine ey_tsw (cd_56 rfl) q94 (by decide) rfl rfl ?_
                                              refine ey_aload_n (cd_56 rfl) f1 ?_
                                              refine ey_iload_n (cd_56 rfl) f2 ?_
                                              refine ey_iload_n (cd_56 rfl) f3 ?_
                                              refine ey_i2l (cd_56 rfl) ?_
                                              refine ey_iload (cd_56 rfl) f4 ?_
                                              refine ey_i2l (cd_56 rfl) ?_
                                              obtain ⟨a95, e96, e⟩ := jbind e
                                              refine ey_rs (s0 := [jJ (jw x4), jJ (jw x3), jI x2, jR x1]) (s1 := [jJ (jw x4), jJ (jw x3), jI x2, jR (some a95)]) (by rw [e96]) ?_
                                              obtain ⟨u97, e98, e⟩ := jbind e
                                              obtain ⟨v99, e100, e⟩ := jbind e
                                              refine ey_cv (s0 := [jJ (jw x4), jJ (jw x3), jI x2, jR (some a95)]) (s1 := []) (st' := [jI v99]) (cd_56 rfl) mt_56 mt_103 rfl rfl rfl (jck_s e98) rfl (jsml_s rfl) rfl (ok_103 e100) ?_
                                              refine ey_istore (cd_56 rfl) mt_56 rfl ?_
                                              refine ey_goto (cd_56 rfl) rfl ?_
                                              exact jk_56_b381 e K (jup (jup (jup (jup lv 8 (jI v8)) 9 (jI (jd_57 v8))) 6 (jI (x6 - (jd_57 v8)))) 10 (jI v99)) f0 f1 f2 f3 f4 (jup_o rfl (jup_pi (lv := (jup (jup lv 8 (jI v8)) 9 (jI (jd_57 v8)))) (j := 5) (v := jI (x6 - (jd_57 v8))) (z := x5) f5)) rfl (jup_o rfl (jup_o rfl (jup_o rfl (jup_pi (lv := lv) (j := 7) (v := jI v8) (z := x7) f7)))) rfl
                                            · rw [if_neg q94] at e
                                              by_cases q101 : (jw v8) = 116
                                              · rw [if_pos q101] at e
                                                refine ey_tsw (cd_56 rfl) q101 (by decide) rfl rfl ?_
                                                refine ey_iload (cd_56 rfl) (jup_pi (lv := (jup (jup lv 8 (jI v8)) 9 (jI (jd_57 v8)))) (j := 5) (v := jI (x6 - (jd_57 v8))) (z := x5) f5) ?_
                                                refine ey_istore (cd_56 rfl) mt_56 rfl ?_
                                                refine ey_goto (cd_56 rfl) rfl ?_
                                                exact jk_56_b381 e K (jup (jup (jup (jup lv 8 (jI v8)) 9 (jI (jd_57 v8))) 6 (jI (x6 - (jd_57 v8)))) 10 (jI x5)) f0 f1 f2 f3 f4 (jup_o rfl (jup_pi (lv := (jup (jup lv 8 (jI v8)) 9 (jI (jd_57 v8)))) (j := 5) (v := jI (x6 - (jd_57 v8))) (z := x5) f5)) rfl (jup_o rfl (jup_o rfl (jup_o rfl (jup_pi (lv := lv) (j := 7) (v := jI v8) (z := x7) f7)))) rfl
                                              · rw [if_neg q101] at e
                                                by_cases q102 : (jw v8) = 117
                                                · rw [if_pos q102] at e
                                                  refine ey_tsw (cd_56 rfl) q102 (by decide) rfl rfl ?_
                                                  exact jk_56_b341 e K (jup (jup (jup lv 8 (jI v8)) 9 (jI (jd_57 v8))) 6 (jI (x6 - (jd_57 v8)))) f0 f1 f2 f3 f4 (jup_pi (lv := (jup (jup lv 8 (jI v8)) 9 (jI (jd_57 v8)))) (j := 5) (v := jI (x6 - (jd_57 v8))) (z := x5) f5) rfl (jup_o rfl (jup_o rfl (jup_pi (lv := lv) (j := 7) (v := jI v8) (z := x7) f7))) (jup_o rfl (jup_pi (lv := (jup lv 8 (jI v8))) (j := 8) (v := jI (jd_57 v8)) (z := v8) rfl))
                                                · rw [if_neg q102] at e
                                                  by_cases q103 : (jw v8) = 118
                                                  · rw [if_pos q103] at e
                                                    refine ey_tsw (cd_56 rfl) q103 (by decide) rfl rfl ?_
                                                    exact jk_56_b341 e K (jup (jup (jup lv 8 (jI v8)) 9 (jI (jd_57 v8))) 6 (jI (x6 - (jd_57 v8)))) f0 f1 f2 f3 f4 (jup_pi (lv := (jup (jup lv 8 (jI v8)) 9 (jI (jd_57 v8)))) (j := 5) (v := jI (x6 - (jd_57 v8))) (z := x5) f5) rfl (jup_o rfl (jup_o rfl (jup_pi (lv := lv) (j := 7) (v := jI v8) (z := x7) f7))) (jup_o rfl (jup_pi (lv := (jup lv 8 (jI v8))) (j := 8) (v := jI (jd_57 v8)) (z := v8) rfl))
                                                  · rw [if_neg q103] at e
                                                    by_cases q104 : (jw v8) = 119
                                                    · rw [if_pos q104] at e
                                                      refine ey_tsw (cd_56 rfl) q104 (by decide) rfl rfl ?_
                                                      refine ey_aload_n (cd_56 rfl) f1 ?_
                                                      refine ey_iload_n (cd_56 rfl) f2 ?_
                                                      obtain ⟨a105, e106, e⟩ := jbind e
                                                      refine ey_rs (s0 := [jI x2, jR x1]) (s1 := [jI x2, jR (some a105)]) (by rw [e106]) ?_
                                                      obtain ⟨u107, e108, e⟩ := jbind e
                                                      obtain ⟨v109, e110, e⟩ := jbind e
                                                      refine ey_cv (s0 := [jI x2, jR (some a105)]) (s1 := []) (st' := [jI v109]) (cd_56 rfl) mt_56 mt_96 rfl rfl rfl (jck_s e108) rfl (jsml_s rfl) rfl (mm_Runs.up (d := 1) (by decide) (ok_96 e110)) ?_
                                                      refine ey_istore (cd_56 rfl) mt_56 rfl ?_
                                                      refine ey_goto (cd_56 rfl) rfl ?_
                                                      exact jk_56_b381 e K (jup (jup (jup (jup lv 8 (jI v8)) 9 (jI (jd_57 v8))) 6 (jI (x6 - (jd_57 v8)))) 10 (jI v109)) f0 f1 f2 f3 f4 (jup_o rfl (jup_pi (lv := (jup (jup lv 8 (jI v8)) 9 (jI (jd_57 v8)))) (j := 5) (v := jI (x6 - (jd_57 v8))) (z := x5) f5)) rfl (jup_o rfl (jup_o rfl (jup_o rfl (jup_pi (lv := lv) (j := 7) (v := jI v8) (z := x7) f7)))) rfl
                                                    · rw [if_neg q104] at e
                                                      by_cases q111 : (jw v8) = 120
                                                      · rw [if_pos q111] at e
                                                        refine ey_tsw (cd_56 rfl) q111 (by decide) rfl rfl ?_
                                                        refine ey_iload_n (cd_56 rfl) f3 ?_
                                                        refine ey_istore (cd_56 rfl) mt_56 rfl ?_
                                                        refine ey_goto (cd_56 rfl) rfl ?_
                                                        exact jk_56_b381 e K (jup (jup (jup (jup lv 8 (jI v8)) 9 (jI (jd_57 v8))) 6 (jI (x6 - (jd_57 v8)))) 10 (jI x3)) f0 f1 f2 f3 f4 (jup_o rfl (jup_pi (lv := (jup (jup lv 8 (jI v8)) 9 (jI (jd_57 v8)))) (j := 5) (v := jI (x6 - (jd_57 v8))) (z := x5) f5)) rfl (jup_o rfl (jup_o rfl (jup_o rfl (jup_pi (lv := lv) (j := 7) (v := jI v8) (z := x7) f7)))) rfl
                                                      · rw [if_neg q111] at e
                                                        by_cases q112 : (jw v8) = 121
                                                        · rw [if_pos q112] at e
                                                          refine ey_tsw (cd_56 rfl) q112 (by decide) rfl rfl ?_
                                                          refine ey_iload (cd_56 rfl) f4 ?_
                                                          refine ey_istore (cd_56 rfl) mt_56 rfl ?_
                                                          refine ey_goto (cd_56 rfl) rfl ?_
                                                          exact jk_56_b381 e K (jup (jup (jup (jup lv 8 (jI v8)) 9 (jI (jd_57 v8))) 6 (jI (x6 - (jd_57 v8)))) 10 (jI x4)) f0 f1 f2 f3 f4 (jup_o rfl (jup_pi (lv := (jup (jup lv 8 (jI v8)) 9 (jI (jd_57 v8)))) (j := 5) (v := jI (x6 - (jd_57 v8))) (z := x5) f5)) rfl (jup_o rfl (jup_o rfl (jup_o rfl (jup_pi (lv := lv) (j := 7) (v := jI v8) (z := x7) f7)))) rfl
                                                        · rw [if_neg q112] at e
                                                          by_cases q113 : (jw v8) = 122
                                                          · rw [if_pos q113] at e
                                                            refine ey_tsw (cd_56 rfl) q113 (by decide) rfl rfl ?_
                                                            exact jk_56_b341 e K (jup (jup (jup lv 8 (jI v8)) 9 (jI (jd_57 v8))) 6 (jI (x6 - (jd_57 v8)))) f0 f1 f2 f3 f4 (jup_pi (lv := (jup (jup lv 8 (jI v8)) 9 (jI (jd_57 v8)))) (j := 5) (v := jI (x6 - (jd_57 v8))) (z := x5) f5) rfl (jup_o rfl (jup_o rfl (jup_pi (lv := lv) (j := 7) (v := jI v8) (z := x7) f7))) (jup_o rfl (jup_pi (lv := (jup lv 8 (jI v8))) (j := 8) (v := jI (jd_57 v8)) (z := v8) rfl))
                                                          · rw [if_neg q113] at e
                                                            by_cases q114 : (jw v8) = 123
                                                            · rw [if_pos q114] at e
                                                              refine ey_tsw (cd_56 rfl) q114 (by decide) rfl rfl ?_
                                                              exact jk_56_b341 e K (jup (jup (jup lv 8 (jI v8)) 9 (jI (jd_57 v8))) 6 (jI (x6 - (jd_57 v8)))) f0 f1 f2 f3 f4 (jup_pi (lv := (jup (jup lv 8 (jI v8)) 9 (jI (jd_57 v8)))) (j := 5) (v := jI (x6 - (jd_57 v8))) (z := x5) f5) rfl (jup_o rfl (jup_o rfl (jup_pi (lv := lv) (j := 7) (v := jI v8) (z := x7) f7))) (jup_o rfl (jup_pi (lv := (jup lv 8 (jI v8))) (j := 8) (v := jI (jd_57 v8)) (z := v8) rfl))
                                                            · rw [if_neg q114] at e
                                                              by_cases q115 : (jw v8) = 124
                                                              · rw [if_pos q115] at e
                                                                refine ey_tsw (cd_56 rfl) q115 (by decide) rfl rfl ?_
                                                                exact jk_56_b341 e K (jup (jup (jup lv 8 (jI v8)) 9 (jI (jd_57 v8))) 6 (jI (x6 - (jd_57 v8)))) f0 f1 f2 f3 f4 (jup_pi (lv := (jup (jup lv 8 (jI v8)) 9 (jI (jd_57 v8)))) (j := 5) (v := jI (x6 - (jd_57 v8))) (z := x5) f5) rfl (jup_o rfl (jup_o rfl (jup_pi (lv := lv) (j := 7) (v := jI v8) (z := x7) f7))) (jup_o rfl (jup_pi (lv := (jup lv 8 (jI v8))) (j := 8) (v := jI (jd_57 v8)) (z := v8) rfl))
                                                              · rw [if_neg q115] at e
                                                                by_cases q116 : (jw v8) = 125
                                                                · rw [if_pos q116] at e
                                                                  refine ey_tsw (cd_56 rfl) q116 (by decide) rfl rfl ?_
                                                                  exact jk_56_b341 e K (jup (jup (jup lv 8 (jI v8)) 9 (jI (jd_57 v8))) 6 (jI (x6 - (jd_57 v8)))) f0 f1 f2 f3 f4 (jup_pi (lv := (jup (jup lv 8 (jI v8)) 9 (jI (jd_57 v8)))) (j := 5) (v := jI (x6 - (jd_57 v8))) (z := x5) f5) rfl (jup_o rfl (jup_o rfl (jup_pi (lv := lv) (j := 7) (v := jI v8) (z := x7) f7))) (jup_o rfl (jup_pi (lv := (jup lv 8 (jI v8))) (j := 8) (v := jI (jd_57 v8)) (z := v8) rfl))
                                                                · rw [if_neg q116] at e
                                                                  by_cases q117 : (jw v8) = 126
                                                                  · rw [if_pos q117] at e
                                                                    refine ey_tsw (cd_56 rfl) q117 (by decide) rfl rfl ?_
                                                                    refine ey_aload_n (cd_56 rfl) f0 ?_
                                                                    obtain ⟨r118, e119, e⟩ := jbind e
                                                                    refine ey_getf_r (cd_56 rfl) mt_56 rfl rfl rfl e119 ?_
                                                                    refine ey_iload (cd_56 rfl) rfl ?_
                                                                    obtain ⟨a120, e121, e⟩ := jbind e
                                                                    refine ey_rs (s0 := [jI (x6 - (jd_57 v8)), jR r118]) (s1 := [jI (x6 - (jd_57 v8)), jR (some a120)]) (by rw [e121]) ?_
                                                                    obtain ⟨v122, e123, e⟩ := jbind e
                                                                    refine ey_iald (cd_56 rfl) e123 ?_
                                                                    refine ey_ineg (cd_56 rfl) ?_
                                                                    refine ey_istore (cd_56 rfl) mt_56 rfl ?_
                                                                    refine ey_goto (cd_56 rfl) rfl ?_
                                                                    exact jk_56_b381 e K (jup (jup (jup (jup lv 8 (jI v8)) 9 (jI (jd_57 v8))) 6 (jI (x6 - (jd_57 v8)))) 10 (jI (-v122))) f0 f1 f2 f3 f4 (jup_o rfl (jup_pi (lv := (jup (jup lv 8 (jI v8)) 9 (jI (jd_57 v8)))) (j := 5) (v := jI (x6 - (jd_57 v8))) (z := x5) f5)) rfl (jup_o rfl (jup_o rfl (jup_o rfl (jup_pi (lv := lv) (j := 7) (v := jI v8) (z := x7) f7)))) rfl
                                                                  · rw [if_neg q117] at e
                                                                    refine ey_tsw_d (cd_56 rfl) (by omega) rfl ?_
                                                                    exact jk_56_b341 e K (jup (jup (jup lv 8 (jI v8)) 9 (jI (jd_57 v8))) 6 (jI (x6 - (jd_57 v8)))) f0 f1 f2 f3 f4 (jup_pi (lv := (jup (jup lv 8 (jI v8)) 9 (jI (jd_57 v8)))) (j := 5) (v := jI (x6 - (jd_57 v8))) (z := x5) f5) rfl (jup_o rfl (jup_o rfl (jup_pi (lv := lv) (j := 7) (v := jI v8) (z := x7) f7))) (jup_o rfl (jup_pi (lv := (jup lv 8 (jI v8))) (j := 8) (v := jI (jd_57 v8)) (z := v8) rfl))
      · rw [if_neg q11] at e
        refine ey_nlt (cd_56 rfl) rfl rfl (show jw 200 = 200 from by decide) q11 ?_
        cases e
        exact K (jup (jup lv 8 (jI v8)) 9 (jI (jd_57 v8))) 
theorem jk_56_l6 {L : Nat} {xs : Nat → Int32} {this : Nat} {x1 : Option Nat} {x2 : Int} {x3 : Int} {x4 : Int} {x5 : Int} {x6 : Int} {x7 : Int} {h : jH} {x : (jH ⊕ (Int × jH))} {r : mm_R} (e : jd_56_l6 this x1 x2 x3 x4 x5 x6 x7 h = some x) (K : (jsm (fun y => (∀ lv : jL, ey (mm_xt L xs) 2 56 49 lv [] y r)) (fun z => (∀ lv : jL, lv 0 = some (jR (some this)) → lv 6 = some (jI z.1) → ey (mm_xt L xs) 2 56 399 lv [] z.2 r)) x)) : ∀ lv : jL, lv 0 = some (jR (some this)) → lv 1 = some (jR x1) → lv 2 = some (jI x2) → lv 3 = some (jI x3) → lv 4 = some (jI x4) → lv 5 = some (jI x5) → lv 6 = some (jI x6) → lv 7 = some (jI x7) → ey (mm_xt L xs) 2 56 6 lv [] h r := by
  unfold jd_56_l6 at e
  exact jlp_ok2 (P := fun s => ∀ lv : jL, lv 0 = some (jR (some this)) → lv 1 = some (jR x1) → lv 2 = some (jI x2) → lv 3 = some (jI x3) → lv 4 = some (jI x4) → lv 5 = some (jI x5) → lv 6 = some (jI s.1) → lv 7 = some (jI s.2.1) → ey (mm_xt L xs) 2 56 6 lv [] s.2.2 r) (Q := fun x => (jsm (fun y => (∀ lv : jL, ey (mm_xt L xs) 2 56 49 lv [] y r)) (fun z => (∀ lv : jL, lv 0 = some (jR (some this)) → lv 6 = some (jI z.1) → ey (mm_xt L xs) 2 56 399 lv [] z.2 r)) x)) (fun s q hq hk => jk_56_s6 hq hk) jfu _ x e K
set_option maxRecDepth 100000 in
theorem jk_56_b415 {L : Nat} {xs : Nat → Int32} {this : Nat} {y0 : Int} {h : jH} {o : (Int × jH)} (e : jd_56_b415 this y0 h = some o) : ∀ lv : jL, ey (mm_xt L xs) 2 56 415 lv [jI y0] h (.inl (some (jcv (jI o.1)), jaH o.2)) := by
  intro lv 
  unfold jd_56_b415 at e
  cases e
  exact ey_reti (cd_56 rfl) mt_56 rfl
set_option maxRecDepth 100000 in
theorem ok_56 {L : Nat} {xs : Nat → Int32} {this : Nat} {p0 : Option Nat} {p1 : Int} {p2 : Int} {p3 : Int} {p4 : Int} {h : jH} {o : (Int × jH)} (e : jd_56 this p0 p1 p2 p3 p4 h = some o) : mm_Runs (mm_xt L xs) 3 56 ([jR (some this), jR p0, jI p1, jI p2, jI p3, jI p4].map jcv) (jaH h) (.inl (some (jcv (jI o.1)), jaH o.2)) := by
  refine ey_run0 _ mt_56 (jsl_s rfl) ?_
  unfold jd_56 at e
  refine ey_iconst (cd_56 rfl) ?_
  refine ey_istore (cd_56 rfl) mt_56 rfl ?_
  refine ey_iconst (cd_56 rfl) ?_
  refine ey_istore (cd_56 rfl) mt_56 rfl ?_
  obtain ⟨x124, e125, e⟩ := jbind e
  refine jk_56_l6 e125 ?_ (jup (jup (jlf (jla 0 [jR (some this), jR p0, jI p1, jI p2, jI p3, jI p4])) 6 (jI 0)) 7 (jI 0)) rfl rfl rfl rfl rfl (jup_o rfl (jup_pi (lv := (jlf (jla 0 [jR (some this), jR p0, jI p1, jI p2, jI p3, jI p4]))) (j := 5) (v := jI 0) (z := p4) rfl)) (jup_pi (lv := (jup (jlf (jla 0 [jR (some this), jR p0, jI p1, jI p2, jI p3, jI p4])) 6 (jI 0))) (j := 6) (v := jI 0) (z := 0) rfl) rfl
  cases x124 with
  | inl y126 =>
    replace e : (some (0, y126) : Option (Int × jH)) = some o := e
    intro lv 
    refine ey_iconst (cd_56 rfl) ?_
    cases e
    exact ey_reti (cd_56 rfl) mt_56 rfl
  | inr y127 =>
    replace e : ((if (jw y127.1) = 1 then ((jgr y127.2 this 3 2).bind fun r129 => ((r129).bind fun a131 => ((jai y127.2 a131 0).bind fun v133 => jd_56_b415 this v133 y127.2))) else jd_56_b415 this 0 y127.2) : Option (Int × jH)) = some o := e
    intro lv g0 g6
    refine ey_iload (cd_56 rfl) g6 ?_
    refine ey_iconst (cd_56 rfl) ?_
    by_cases q128 : (jw y127.1) = 1
    · rw [if_pos q128] at e
      refine ey_nne (cd_56 rfl) rfl rfl (show jw 1 = 1 from by decide) (fun w => w q128) ?_
      refine ey_aload_n (cd_56 rfl) g0 ?_
      obtain ⟨r129, e130, e⟩ := jbind e
      refine ey_getf_r (cd_56 rfl) mt_56 rfl rfl rfl e130 ?_
      refine ey_iconst (cd_56 rfl) ?_
      obtain ⟨a131, e132, e⟩ := jbind e
      refine ey_rs (s0 := [jI 0, jR r129]) (s1 := [jI 0, jR (some a131)]) (by rw [e132]) ?_
      obtain ⟨v133, e134, e⟩ := jbind e
      refine ey_iald (cd_56 rfl) e134 ?_
      refine ey_goto (cd_56 rfl) rfl ?_
      exact jk_56_b415 e lv 
    · rw [if_neg q128] at e
      refine ey_cne (cd_56 rfl) rfl rfl (show jw 1 = 1 from by decide) q128 ?_
      refine ey_iconst (cd_56 rfl) ?_
      exact jk_56_b415 e lv 
theorem cd_123 {pc : Nat} {i : Instr × Nat} (h : mm_lk mm_c123 pc = some i) : mm_cd 123 pc = some i := h
theorem mt_123 : mm_MT 123 = (9, 1, none, 0, 2, []) := rfl
set_option maxRecDepth 100000 in
theorem ok_123 {L : Nat} {xs : Nat → Int32} {this : Nat}  {h : jH} {o : jH} (e : jd_123 this  h = some o) : mm_Runs (mm_xt L xs) 1 123 ([jR (some this)].map jcv) (jaH h) (.inl (none, jaH o)) := by
  refine ey_run0 _ mt_123 (jsl_s rfl) ?_
  unfold jd_123 at e
  refine ey_aload_n (cd_123 rfl) rfl ?_
  refine ey_oini (cd_123 rfl) mt_123 rfl (jsml_s rfl) ?_
  refine ey_aload_n (cd_123 rfl) rfl ?_
  refine ey_iconst (cd_123 rfl) ?_
  obtain ⟨h1, e2, e⟩ := jbind e
  refine ey_putf_i (cd_123 rfl) mt_123 rfl rfl rfl e2 ?_
  refine ey_aload_n (cd_123 rfl) rfl ?_
  refine ey_sipush (cd_123 rfl) (by decide) ?_
  obtain ⟨n3, e4, e⟩ := jbind e
  refine ey_newarr (cd_123 rfl) (by decide) e4 ?_
  obtain ⟨h5, e6, e⟩ := jbind e
  refine ey_putf_r (cd_123 rfl) mt_123 rfl rfl rfl e6 ?_
  refine ey_aload_n (cd_123 rfl) rfl ?_
  refine ey_sipush (cd_123 rfl) (by decide) ?_
  obtain ⟨n7, e8, e⟩ := jbind e
  refine ey_newarr (cd_123 rfl) (by decide) e8 ?_
  obtain ⟨h9, e10, e⟩ := jbind e
  refine ey_putf_r (cd_123 rfl) mt_123 rfl rfl rfl e10 ?_
  refine ey_aload_n (cd_123 rfl) rfl ?_
  refine ey_sipush (cd_123 rfl) (by decide) ?_
  obtain ⟨n11, e12, e⟩ := jbind e
  refine ey_newarr (cd_123 rfl) (by decide) e12 ?_
  obtain ⟨h13, e14, e⟩ := jbind e
  refine ey_putf_r (cd_123 rfl) mt_123 rfl rfl rfl e14 ?_
  cases e
  exact ey_retv (cd_123 rfl) mt_123 rfl
theorem cd_131 {pc : Nat} {i : Instr × Nat} (h : mm_lk mm_c131 pc = some i) : mm_cd 131 pc = some i := h
theorem mt_131 : mm_MT 131 = (10, 1, none, 0, 2, []) := rfl
set_option maxRecDepth 100000 in
theorem ok_131 {L : Nat} {xs : Nat → Int32} {this : Nat}  {h : jH} {o : jH} (e : jd_131 this  h = some o) : mm_Runs (mm_xt L xs) 1 131 ([jR (some this)].map jcv) (jaH h) (.inl (none, jaH o)) := by
  refine ey_run0 _ mt_131 (jsl_s rfl) ?_
  unfold jd_131 at e
  refine ey_aload_n (cd_131 rfl) rfl ?_
  refine ey_oini (cd_131 rfl) mt_131 rfl (jsml_s rfl) ?_
  refine ey_aload_n (cd_131 rfl) rfl ?_
  refine ey_sipush (cd_131 rfl) (by decide) ?_
  obtain ⟨n1, e2, e⟩ := jbind e
  refine ey_newarr (cd_131 rfl) (by decide) e2 ?_
  obtain ⟨h3, e4, e⟩ := jbind e
  refine ey_putf_r (cd_131 rfl) mt_131 rfl rfl rfl e4 ?_
  refine ey_aload_n (cd_131 rfl) rfl ?_
  refine ey_bipush (cd_131 rfl) (by decide) ?_
  obtain ⟨n5, e6, e⟩ := jbind e
  refine ey_newarr (cd_131 rfl) (by decide) e6 ?_
  obtain ⟨h7, e8, e⟩ := jbind e
  refine ey_putf_r (cd_131 rfl) mt_131 rfl rfl rfl e8 ?_
  cases e
  exact ey_retv (cd_131 rfl) mt_131 rfl
theorem cd_59 {pc : Nat} {i : Instr × Nat} (h : mm_lk mm_c59 pc = some i) : mm_cd 59 pc = some i := h
theorem mt_59 : mm_MT 59 = (4, 1, none, 0, 2, []) := rfl
set_option maxRecDepth 100000 in
theorem ok_59 {L : Nat} {xs : Nat → Int32} {this : Nat}  {h : jH} {o : jH} (e : jd_59 this  h = some o) : mm_Runs (mm_xt L xs) 3 59 ([jR (some this)].map jcv) (jaH h) (.inl (none, jaH o)) := by
  refine ey_run0 _ mt_59 (jsl_s rfl) ?_
  unfold jd_59 at e
  refine ey_aload_n (cd_59 rfl) rfl ?_
  refine ey_oini (cd_59 rfl) mt_59 rfl (jsml_s rfl) ?_
  refine ey_aload_n (cd_59 rfl) rfl ?_
  obtain ⟨n1, e2, e⟩ := jbind e
  refine ey_new (cd_59 rfl) mt_59 rfl rfl jdf_0 e2 ?_
  refine ey_dup (cd_59 rfl) rfl ?_
  obtain ⟨h3, e4, e⟩ := jbind e
  refine ey_ci (s0 := [jR (some n1.1), jR (some n1.1), jR (some this)]) (s1 := [jR (some n1.1), jR (some this)]) (st' := [jR (some n1.1), jR (some this)]) (cd_59 rfl) mt_59 mt_0 rfl (by decide) rfl rfl (jsml_s rfl) rfl (mm_Runs.up (d := 1) (by decide) (ok_0 e4)) ?_
  obtain ⟨h5, e6, e⟩ := jbind e
  refine ey_putf_r (cd_59 rfl) mt_59 rfl rfl rfl e6 ?_
  refine ey_aload_n (cd_59 rfl) rfl ?_
  obtain ⟨n7, e8, e⟩ := jbind e
  refine ey_new (cd_59 rfl) mt_59 rfl rfl jdf_1 e8 ?_
  refine ey_dup (cd_59 rfl) rfl ?_
  obtain ⟨h9, e10, e⟩ := jbind e
  refine ey_ci (s0 := [jR (some n7.1), jR (some n7.1), jR (some this)]) (s1 := [jR (some n7.1), jR (some this)]) (st' := [jR (some n7.1), jR (some this)]) (cd_59 rfl) mt_59 mt_15 rfl (by decide) rfl rfl (jsml_s rfl) rfl (ok_15 e10) ?_
  obtain ⟨h11, e12, e⟩ := jbind e
  refine ey_putf_r (cd_59 rfl) mt_59 rfl rfl rfl e12 ?_
  refine ey_aload_n (cd_59 rfl) rfl ?_
  obtain ⟨n13, e14, e⟩ := jbind e
  refine ey_new (cd_59 rfl) mt_59 rfl rfl jdf_10 e14 ?_
  refine ey_dup (cd_59 rfl) rfl ?_
  obtain ⟨h15, e16, e⟩ := jbind e
  refine ey_ci (s0 := [jR (some n13.1), jR (some n13.1), jR (some this)]) (s1 := [jR (some n13.1), jR (some this)]) (st' := [jR (some n13.1), jR (some this)]) (cd_59 rfl) mt_59 mt_131 rfl (by decide) rfl rfl (jsml_s rfl) rfl (mm_Runs.up (d := 1) (by decide) (ok_131 e16)) ?_
  obtain ⟨h17, e18, e⟩ := jbind e
  refine ey_putf_r (cd_59 rfl) mt_59 rfl rfl rfl e18 ?_
  refine ey_aload_n (cd_59 rfl) rfl ?_
  obtain ⟨n19, e20, e⟩ := jbind e
  refine ey_new (cd_59 rfl) mt_59 rfl rfl jdf_9 e20 ?_
  refine ey_dup (cd_59 rfl) rfl ?_
  obtain ⟨h21, e22, e⟩ := jbind e
  refine ey_ci (s0 := [jR (some n19.1), jR (some n19.1), jR (some this)]) (s1 := [jR (some n19.1), jR (some this)]) (st' := [jR (some n19.1), jR (some this)]) (cd_59 rfl) mt_59 mt_123 rfl (by decide) rfl rfl (jsml_s rfl) rfl (mm_Runs.up (d := 1) (by decide) (ok_123 e22)) ?_
  obtain ⟨h23, e24, e⟩ := jbind e
  refine ey_putf_r (cd_59 rfl) mt_59 rfl rfl rfl e24 ?_
  refine ey_aload_n (cd_59 rfl) rfl ?_
  refine ey_bipush (cd_59 rfl) (by decide) ?_
  obtain ⟨n25, e26, e⟩ := jbind e
  refine ey_anew (cd_59 rfl) mt_59 rfl (by decide) e26 ?_
  obtain ⟨h27, e28, e⟩ := jbind e
  refine ey_putf_r (cd_59 rfl) mt_59 rfl rfl rfl e28 ?_
  refine ey_aload_n (cd_59 rfl) rfl ?_
  refine ey_iconst (cd_59 rfl) ?_
  obtain ⟨h29, e30, e⟩ := jbind e
  refine ey_putf_i (cd_59 rfl) mt_59 rfl rfl rfl e30 ?_
  refine ey_aload_n (cd_59 rfl) rfl ?_
  refine ey_null (cd_59 rfl) ?_
  obtain ⟨h31, e32, e⟩ := jbind e
  refine ey_putf_r (cd_59 rfl) mt_59 rfl rfl rfl e32 ?_
  refine ey_aload_n (cd_59 rfl) rfl ?_
  refine ey_bipush (cd_59 rfl) (by decide) ?_
  obtain ⟨n33, e34, e⟩ := jbind e
  refine ey_newarr (cd_59 rfl) (by decide) e34 ?_
  obtain ⟨h35, e36, e⟩ := jbind e
  refine ey_putf_r (cd_59 rfl) mt_59 rfl rfl rfl e36 ?_
  refine ey_aload_n (cd_59 rfl) rfl ?_
  refine ey_bipush (cd_59 rfl) (by decide) ?_
  obtain ⟨n37, e38, e⟩ := jbind e
  refine ey_newarr (cd_59 rfl) (by decide) e38 ?_
  obtain ⟨h39, e40, e⟩ := jbind e
  refine ey_putf_r (cd_59 rfl) mt_59 rfl rfl rfl e40 ?_
  refine ey_aload_n (cd_59 rfl) rfl ?_
  refine ey_iconst (cd_59 rfl) ?_
  obtain ⟨n41, e42, e⟩ := jbind e
  refine ey_newarr (cd_59 rfl) (by decide) e42 ?_
  obtain ⟨h43, e44, e⟩ := jbind e
  refine ey_putf_r (cd_59 rfl) mt_59 rfl rfl rfl e44 ?_
  cases e
  exact ey_retv (cd_59 rfl) mt_59 rfl
theorem cd_60 {pc : Nat} {i : Instr × Nat} (h : mm_lk mm_c60 pc = some i) : mm_cd 60 pc = some i := h
theorem mt_60 : mm_MT 60 = (4, 5, none, 3, 0, []) := rfl
set_option maxRecDepth 100000 in
theorem jk_60_s13 {L : Nat} {xs : Nat → Int32} {this : Nat} {x1 : Option Nat} {x4 : Int} {h : jH} {o : ((Int × jH) ⊕ jH)} {r : mm_R} (e : jd_60_s13 this x1 x4 h = some o) (K : jsm (fun s => (∀ lv : jL, lv 0 = some (jR (some this)) → lv 1 = some (jR x1) → lv 4 = some (jI s.1) → ey (mm_xt L xs) 0 60 13 lv [] s.2 r)) (fun x => (∀ lv : jL, ey (mm_xt L xs) 0 60 39 lv [] x r)) o) : ∀ lv : jL, lv 0 = some (jR (some this)) → lv 1 = some (jR x1) → lv 4 = some (jI x4) → ey (mm_xt L xs) 0 60 13 lv [] h r := by
  intro lv f0 f1 f4
  unfold jd_60_s13 at e
  refine ey_iload (cd_60 rfl) f4 ?_
  refine ey_aload_n (cd_60 rfl) f0 ?_
  obtain ⟨v5, e6, e⟩ := jbind e
  refine ey_getf_i (cd_60 rfl) mt_60 rfl rfl rfl e6 ?_
  by_cases q7 : (jw v5) ≤ (jw x4)
  · rw [if_pos q7] at e
    refine ey_cge (cd_60 rfl) rfl rfl rfl q7 ?_
    cases e
    exact K lv 
  · rw [if_neg q7] at e
    refine ey_nge (cd_60 rfl) rfl rfl rfl q7 ?_
    refine ey_aload_n (cd_60 rfl) f0 ?_
    obtain ⟨r8, e9, e⟩ := jbind e
    refine ey_getf_r (cd_60 rfl) mt_60 rfl rfl rfl e9 ?_
    refine ey_iload (cd_60 rfl) f4 ?_
    refine ey_aload_n (cd_60 rfl) f1 ?_
    refine ey_iload (cd_60 rfl) f4 ?_
    obtain ⟨a10, e11, e⟩ := jbind e
    refine ey_rs (s0 := [jI x4, jR x1, jI x4, jR r8]) (s1 := [jI x4, jR (some a10), jI x4, jR r8]) (by rw [e11]) ?_
    obtain ⟨r12, e13, e⟩ := jbind e
    refine ey_aald (cd_60 rfl) (by decide) e13 ?_
    obtain ⟨a14, e15, e⟩ := jbind e
    refine ey_rs (s0 := [jR r12, jI x4, jR r8]) (s1 := [jR (some a14), jI x4, jR r8]) (by rw [e15]) ?_
    obtain ⟨a16, e17, e⟩ := jbind e
    refine ey_rs (s0 := [jR (some a14), jI x4, jR r8]) (s1 := [jR (some a14), jI x4, jR (some a16)]) (by rw [e17]) ?_
    obtain ⟨h18, e19, e⟩ := jbind e
    refine ey_aast (cd_60 rfl) (by decide) e19 ?_
    refine ey_iinc (cd_60 rfl) mt_60 rfl f4 ?_
    refine ey_goto (cd_60 rfl) rfl ?_
    cases e
    exact K (jup lv 4 (jI (x4 + 1))) f0 f1 rfl
theorem jk_60_l13 {L : Nat} {xs : Nat → Int32} {this : Nat} {x1 : Option Nat} {x4 : Int} {h : jH} {x : jH} {r : mm_R} (e : jd_60_l13 this x1 x4 h = some x) (K : (∀ lv : jL, ey (mm_xt L xs) 0 60 39 lv [] x r)) : ∀ lv : jL, lv 0 = some (jR (some this)) → lv 1 = some (jR x1) → lv 4 = some (jI x4) → ey (mm_xt L xs) 0 60 13 lv [] h r := by
  unfold jd_60_l13 at e
  exact jlp_ok2 (P := fun s => ∀ lv : jL, lv 0 = some (jR (some this)) → lv 1 = some (jR x1) → lv 4 = some (jI s.1) → ey (mm_xt L xs) 0 60 13 lv [] s.2 r) (Q := fun x => (∀ lv : jL, ey (mm_xt L xs) 0 60 39 lv [] x r)) (fun s q hq hk => jk_60_s13 hq hk) jfu _ x e K
set_option maxRecDepth 100000 in
theorem ok_60 {L : Nat} {xs : Nat → Int32} {this : Nat} {p0 : Option Nat} {p1 : Int} {p2 : Option Nat} {h : jH} {o : jH} (e : jd_60 this p0 p1 p2 h = some o) : mm_Runs (mm_xt L xs) 1 60 ([jR (some this), jR p0, jI p1, jR p2].map jcv) (jaH h) (.inl (none, jaH o)) := by
  refine ey_run0 _ mt_60 (jsl_s rfl) ?_
  unfold jd_60 at e
  refine ey_aload_n (cd_60 rfl) rfl ?_
  refine ey_iload_n (cd_60 rfl) rfl ?_
  obtain ⟨h1, e2, e⟩ := jbind e
  refine ey_putf_i (cd_60 rfl) mt_60 rfl rfl rfl e2 ?_
  refine ey_aload_n (cd_60 rfl) rfl ?_
  refine ey_aload_n (cd_60 rfl) rfl ?_
  obtain ⟨h3, e4, e⟩ := jbind e
  refine ey_putf_r (cd_60 rfl) mt_60 rfl rfl rfl e4 ?_
  refine ey_iconst (cd_60 rfl) ?_
  refine ey_istore (cd_60 rfl) mt_60 rfl ?_
  obtain ⟨x20, e21, e⟩ := jbind e
  refine jk_60_l13 e21 ?_ (jup (jlf (jla 0 [jR (some this), jR p0, jI p1, jR p2])) 4 (jI 0)) rfl rfl rfl
  intro lv 
  cases e
  exact ey_retv (cd_60 rfl) mt_60 rfl
theorem cd_61 {pc : Nat} {i : Instr × Nat} (h : mm_lk mm_c61 pc = some i) : mm_cd 61 pc = some i := h
theorem mt_61 : mm_MT 61 = (4, 4, none, 1, 0, []) := rfl
set_option maxRecDepth 100000 in
theorem jk_61_s18 {L : Nat} {xs : Nat → Int32} {this : Nat} {x2 : Int} {x3 : Int} {h : jH} {o : ((Int × jH) ⊕ jH)} {r : mm_R} (e : jd_61_s18 this x2 x3 h = some o) (K : jsm (fun s => (∀ lv : jL, lv 0 = some (jR (some this)) → lv 2 = some (jI x2) → lv 3 = some (jI s.1) → ey (mm_xt L xs) 0 61 18 lv [] s.2 r)) (fun x => (∀ lv : jL, ey (mm_xt L xs) 0 61 48 lv [] x r)) o) : ∀ lv : jL, lv 0 = some (jR (some this)) → lv 2 = some (jI x2) → lv 3 = some (jI x3) → ey (mm_xt L xs) 0 61 18 lv [] h r := by
  intro lv f0 f2 f3
  unfold jd_61_s18 at e
  refine ey_iload_n (cd_61 rfl) f3 ?_
  refine ey_aload_n (cd_61 rfl) f0 ?_
  obtain ⟨v2, e3, e⟩ := jbind e
  refine ey_getf_i (cd_61 rfl) mt_61 rfl rfl rfl e3 ?_
  by_cases q4 : (jw v2) ≤ (jw x3)
  · rw [if_pos q4] at e
    refine ey_cge (cd_61 rfl) rfl rfl rfl q4 ?_
    cases e
    exact K lv 
  · rw [if_neg q4] at e
    refine ey_nge (cd_61 rfl) rfl rfl rfl q4 ?_
    refine ey_aload_n (cd_61 rfl) f0 ?_
    obtain ⟨r5, e6, e⟩ := jbind e
    refine ey_getf_r (cd_61 rfl) mt_61 rfl rfl rfl e6 ?_
    refine ey_iload_n (cd_61 rfl) f3 ?_
    refine ey_iload_n (cd_61 rfl) f2 ?_
    refine ey_aload_n (cd_61 rfl) f0 ?_
    obtain ⟨v7, e8, e⟩ := jbind e
    refine ey_getf_i (cd_61 rfl) mt_61 rfl rfl rfl e8 ?_
    refine ey_iload_n (cd_61 rfl) f3 ?_
    refine ey_isub (cd_61 rfl) ?_
    refine ey_min (cd_61 rfl) mt_61 rfl (jsml_s rfl) ?_
    obtain ⟨a9, e10, e⟩ := jbind e
    refine ey_rs (s0 := [jI (if jw (v7 - x3) < jw x2 then (v7 - x3) else x2), jI x3, jR r5]) (s1 := [jI (if jw (v7 - x3) < jw x2 then (v7 - x3) else x2), jI x3, jR (some a9)]) (by rw [e10]) ?_
    obtain ⟨h11, e12, e⟩ := jbind e
    refine ey_iast (cd_61 rfl) e12 ?_
    refine ey_iinc (cd_61 rfl) mt_61 rfl f3 ?_
    refine ey_goto (cd_61 rfl) rfl ?_
    cases e
    exact K (jup lv 3 (jI (x3 + 1))) f0 (jup_pi (lv := lv) (j := 2) (v := jI (x3 + 1)) (z := x2) f2) rfl
theorem jk_61_l18 {L : Nat} {xs : Nat → Int32} {this : Nat} {x2 : Int} {x3 : Int} {h : jH} {x : jH} {r : mm_R} (e : jd_61_l18 this x2 x3 h = some x) (K : (∀ lv : jL, ey (mm_xt L xs) 0 61 48 lv [] x r)) : ∀ lv : jL, lv 0 = some (jR (some this)) → lv 2 = some (jI x2) → lv 3 = some (jI x3) → ey (mm_xt L xs) 0 61 18 lv [] h r := by
  unfold jd_61_l18 at e
  exact jlp_ok2 (P := fun s => ∀ lv : jL, lv 0 = some (jR (some this)) → lv 2 = some (jI x2) → lv 3 = some (jI s.1) → ey (mm_xt L xs) 0 61 18 lv [] s.2 r) (Q := fun x => (∀ lv : jL, ey (mm_xt L xs) 0 61 48 lv [] x r)) (fun s q hq hk => jk_61_s18 hq hk) jfu _ x e K
set_option maxRecDepth 100000 in
theorem jk_61_b15 {L : Nat} {xs : Nat → Int32} {this : Nat} {y0 : Int} {h : jH} {o : jH} (e : jd_61_b15 this y0 h = some o) : ∀ lv : jL, lv 0 = some (jR (some this)) → ey (mm_xt L xs) 0 61 15 lv [jI y0] h (.inl (none, jaH o)) := by
  intro lv f0
  unfold jd_61_b15 at e
  refine ey_istore_n (cd_61 rfl) mt_61 rfl ?_
  refine ey_iconst (cd_61 rfl) ?_
  refine ey_istore_n (cd_61 rfl) mt_61 rfl ?_
  obtain ⟨x13, e14, e⟩ := jbind e
  refine jk_61_l18 e14 ?_ (jup (jup lv 2 (jI y0)) 3 (jI 0)) f0 (jup_pi (lv := (jup lv 2 (jI y0))) (j := 2) (v := jI 0) (z := y0) rfl) rfl
  intro lv 
  cases e
  exact ey_retv (cd_61 rfl) mt_61 rfl
set_option maxRecDepth 100000 in
theorem ok_61 {L : Nat} {xs : Nat → Int32} {this : Nat} {p0 : Int} {h : jH} {o : jH} (e : jd_61 this p0 h = some o) : mm_Runs (mm_xt L xs) 1 61 ([jR (some this), jI p0].map jcv) (jaH h) (.inl (none, jaH o)) := by
  refine ey_run0 _ mt_61 (jsl_s rfl) ?_
  unfold jd_61 at e
  refine ey_iload_n (cd_61 rfl) rfl ?_
  refine ey_iconst (cd_61 rfl) ?_
  by_cases q1 : (jw p0) = 1
  · rw [if_pos q1] at e
    refine ey_nne (cd_61 rfl) rfl rfl (show jw 1 = 1 from by decide) (fun w => w q1) ?_
    refine ey_iconst (cd_61 rfl) ?_
    refine ey_goto (cd_61 rfl) rfl ?_
    exact jk_61_b15 e (jlf (jla 0 [jR (some this), jI p0])) rfl
  · rw [if_neg q1] at e
    refine ey_cne (cd_61 rfl) rfl rfl (show jw 1 = 1 from by decide) q1 ?_
    refine ey_aload_n (cd_61 rfl) rfl ?_
    obtain ⟨r15, e16, e⟩ := jbind e
    refine ey_getf_r (cd_61 rfl) mt_61 rfl rfl rfl e16 ?_
    refine ey_iconst (cd_61 rfl) ?_
    obtain ⟨a17, e18, e⟩ := jbind e
    refine ey_rs (s0 := [jI 1, jR r15]) (s1 := [jI 1, jR (some a17)]) (by rw [e18]) ?_
    obtain ⟨v19, e20, e⟩ := jbind e
    refine ey_iald (cd_61 rfl) e20 ?_
    exact jk_61_b15 e (jlf (jla 0 [jR (some this), jI p0])) rfl
theorem cd_64 {pc : Nat} {i : Instr × Nat} (h : mm_lk mm_c64 pc = some i) : mm_cd 64 pc = some i := h
theorem mt_64 : mm_MT 64 = (4, 9, none, 5, 1, []) := rfl
set_option maxRecDepth 100000 in
theorem jk_64_s77 {L : Nat} {xs : Nat → Int32} {x0 : Option Nat} {x2 : Int} {x3 : Int} {x4 : Int} {x7 : Int} {x5 : Int} {x8 : Int} {h : jH} {o : ((Int × Int × jH) ⊕ (Int × jH))} {r : mm_R} (e : jd_64_s77 x0 x2 x3 x4 x7 x5 x8 h = some o) (K : jsm (fun s => (∀ lv : jL, lv 0 = some (jR x0) → lv 2 = some (jI x2) → lv 3 = some (jI x3) → lv 4 = some (jI x4) → lv 5 = some (jI s.1) → lv 7 = some (jI x7) → lv 8 = some (jI s.2.1) → ey (mm_xt L xs) 0 64 77 lv [] s.2.2 r)) (fun x => (∀ lv : jL, lv 0 = some (jR x0) → lv 2 = some (jI x2) → lv 3 = some (jI x3) → lv 4 = some (jI x4) → lv 5 = some (jI x.1) → lv 7 = some (jI x7) → ey (mm_xt L xs) 0 64 112 lv [] x.2 r)) o) : ∀ lv : jL, lv 0 = some (jR x0) → lv 2 = some (jI x2) → lv 3 = some (jI x3) → lv 4 = some (jI x4) → lv 5 = some (jI x5) → lv 7 = some (jI x7) → lv 8 = some (jI x8) → ey (mm_xt L xs) 0 64 77 lv [] h r := by
  intro lv f0 f2 f3 f4 f5 f7 f8
  unfold jd_64_s77 at e
  refine ey_iload (cd_64 rfl) f8 ?_
  refine ey_iload (cd_64 rfl) f7 ?_
  by_cases q37 : (jw x7) ≤ (jw x8)
  · rw [if_pos q37] at e
    refine ey_cge (cd_64 rfl) rfl rfl rfl q37 ?_
    cases e
    exact K lv f0 f2 f3 f4 f5 f7
  · rw [if_neg q37] at e
    refine ey_nge (cd_64 rfl) rfl rfl rfl q37 ?_
    refine ey_iinc (cd_64 rfl) mt_64 rfl f5 ?_
    refine ey_aload_n (cd_64 rfl) f0 ?_
    obtain ⟨a38, e39, e⟩ := jbind e
    refine ey_rs (s0 := [jR x0]) (s1 := [jR (some a38)]) (by rw [e39]) ?_
    obtain ⟨r40, e41, e⟩ := jbind e
    refine ey_getf_r (cd_64 rfl) mt_64 rfl rfl rfl e41 ?_
    refine ey_iload (cd_64 rfl) rfl ?_
    refine ey_iconst (cd_64 rfl) ?_
    obtain ⟨a42, e43, e⟩ := jbind e
    refine ey_rs (s0 := [jI 2, jI (x5 + 1), jR r40]) (s1 := [jI 2, jI (x5 + 1), jR (some a42)]) (by rw [e43]) ?_
    obtain ⟨h44, e45, e⟩ := jbind e
    refine ey_iast (cd_64 rfl) e45 ?_
    refine ey_aload_n (cd_64 rfl) f0 ?_
    obtain ⟨a46, e47, e⟩ := jbind e
    refine ey_rs (s0 := [jR x0]) (s1 := [jR (some a46)]) (by rw [e47]) ?_
    obtain ⟨r48, e49, e⟩ := jbind e
    refine ey_getf_r (cd_64 rfl) mt_64 rfl rfl rfl e49 ?_
    refine ey_iload (cd_64 rfl) rfl ?_
    refine ey_iload_n (cd_64 rfl) f2 ?_
    refine ey_iload (cd_64 rfl) f8 ?_
    refine ey_iadd (cd_64 rfl) ?_
    obtain ⟨a50, e51, e⟩ := jbind e
    refine ey_rs (s0 := [jI (x2 + x8), jI (x5 + 1), jR r48]) (s1 := [jI (x2 + x8), jI (x5 + 1), jR (some a50)]) (by rw [e51]) ?_
    obtain ⟨h52, e53, e⟩ := jbind e
    refine ey_iast (cd_64 rfl) e53 ?_
    refine ey_iinc (cd_64 rfl) mt_64 rfl f8 ?_
    refine ey_goto (cd_64 rfl) rfl ?_
    cases e
    exact K (jup (jup lv 5 (jI (x5 + 1))) 8 (jI (x8 + 1))) f0 f2 f3 (jup_o rfl (jup_pi (lv := lv) (j := 4) (v := jI (x5 + 1)) (z := x4) f4)) rfl (jup_pi (lv := (jup lv 5 (jI (x5 + 1)))) (j := 7) (v := jI (x8 + 1)) (z := x7) f7) rfl
theorem jk_64_l77 {L : Nat} {xs : Nat → Int32} {x0 : Option Nat} {x2 : Int} {x3 : Int} {x4 : Int} {x7 : Int} {x5 : Int} {x8 : Int} {h : jH} {x : (Int × jH)} {r : mm_R} (e : jd_64_l77 x0 x2 x3 x4 x7 x5 x8 h = some x) (K : (∀ lv : jL, lv 0 = some (jR x0) → lv 2 = some (jI x2) → lv 3 = some (jI x3) → lv 4 = some (jI x4) → lv 5 = some (jI x.1) → lv 7 = some (jI x7) → ey (mm_xt L xs) 0 64 112 lv [] x.2 r)) : ∀ lv : jL, lv 0 = some (jR x0) → lv 2 = some (jI x2) → lv 3 = some (jI x3) → lv 4 = some (jI x4) → lv 5 = some (jI x5) → lv 7 = some (jI x7) → lv 8 = some (jI x8) → ey (mm_xt L xs) 0 64 77 lv [] h r := by
  unfold jd_64_l77 at e
  exact jlp_ok2 (P := fun s => ∀ lv : jL, lv 0 = some (jR x0) → lv 2 = some (jI x2) → lv 3 = some (jI x3) → lv 4 = some (jI x4) → lv 5 = some (jI s.1) → lv 7 = some (jI x7) → lv 8 = some (jI s.2.1) → ey (mm_xt L xs) 0 64 77 lv [] s.2.2 r) (Q := fun x => (∀ lv : jL, lv 0 = some (jR x0) → lv 2 = some (jI x2) → lv 3 = some (jI x3) → lv 4 = some (jI x4) → lv 5 = some (jI x.1) → lv 7 = some (jI x7) → ey (mm_xt L xs) 0 64 112 lv [] x.2 r)) (fun s q hq hk => jk_64_s77 hq hk) jfu _ x e K
set_option maxRecDepth 100000 in
theorem jk_64_b116 {L : Nat} {xs : Nat → Int32} {x0 : Option Nat} {x2 : Int} {x3 : Int} {x4 : Int} {x5 : Int} {x6 : Int} {x7 : Int} {h : jH} {o : ((Int × Int × Int × jH) ⊕ jH)} {r : mm_R} (e : jd_64_b116 x0 x2 x3 x4 x5 x6 x7 h = some o) (K : jsm (fun s => (∀ lv : jL, lv 0 = some (jR x0) → lv 2 = some (jI x2) → lv 3 = some (jI x3) → lv 4 = some (jI x4) → lv 5 = some (jI s.1) → lv 6 = some (jI s.2.1) → lv 7 = some (jI s.2.2.1) → ey (mm_xt L xs) 0 64 25 lv [] s.2.2.2 r)) (fun x => (∀ lv : jL, ey (mm_xt L xs) 0 64 122 lv [] x r)) o) : ∀ lv : jL, lv 0 = some (jR x0) → lv 2 = some (jI x2) → lv 3 = some (jI x3) → lv 4 = some (jI x4) → lv 5 = some (jI x5) → lv 6 = some (jI x6) → lv 7 = some (jI x7) → ey (mm_xt L xs) 0 64 116 lv [] h r := by
  intro lv f0 f2 f3 f4 f5 f6 f7
  unfold jd_64_b116 at e
  refine ey_iinc (cd_64 rfl) mt_64 rfl f7 ?_
  refine ey_goto (cd_64 rfl) rfl ?_
  cases e
  exact K (jup lv 7 (jI (x7 + 1))) f0 f2 f3 f4 f5 (jup_pi (lv := lv) (j := 6) (v := jI (x7 + 1)) (z := x6) f6) rfl
set_option maxRecDepth 100000 in
theorem jk_64_b49 {L : Nat} {xs : Nat → Int32} {x0 : Option Nat} {x2 : Int} {x3 : Int} {x4 : Int} {x5 : Int} {x6 : Int} {x7 : Int} {h : jH} {o : ((Int × Int × Int × jH) ⊕ jH)} {r : mm_R} (e : jd_64_b49 x0 x2 x3 x4 x5 x6 x7 h = some o) (K : jsm (fun s => (∀ lv : jL, lv 0 = some (jR x0) → lv 2 = some (jI x2) → lv 3 = some (jI x3) → lv 4 = some (jI x4) → lv 5 = some (jI s.1) → lv 6 = some (jI s.2.1) → lv 7 = some (jI s.2.2.1) → ey (mm_xt L xs) 0 64 25 lv [] s.2.2.2 r)) (fun x => (∀ lv : jL, ey (mm_xt L xs) 0 64 122 lv [] x r)) o) : ∀ lv : jL, lv 0 = some (jR x0) → lv 2 = some (jI x2) → lv 3 = some (jI x3) → lv 4 = some (jI x4) → lv 5 = some (jI x5) → lv 6 = some (jI x6) → lv 7 = some (jI x7) → ey (mm_xt L xs) 0 64 49 lv [] h r := by
  intro lv f0 f2 f3 f4 f5 f6 f7
  unfold jd_64_b49 at e
  refine ey_iinc (cd_64 rfl) mt_64 rfl f5 ?_
  refine ey_aload_n (cd_64 rfl) f0 ?_
  obtain ⟨a21, e22, e⟩ := jbind e
  refine ey_rs (s0 := [jR x0]) (s1 := [jR (some a21)]) (by rw [e22]) ?_
  obtain ⟨r23, e24, e⟩ := jbind e
  refine ey_getf_r (cd_64 rfl) mt_64 rfl rfl rfl e24 ?_
  refine ey_iload (cd_64 rfl) rfl ?_
  refine ey_iconst (cd_64 rfl) ?_
  obtain ⟨a25, e26, e⟩ := jbind e
  refine ey_rs (s0 := [jI 1, jI (x5 + 1), jR r23]) (s1 := [jI 1, jI (x5 + 1), jR (some a25)]) (by rw [e26]) ?_
  obtain ⟨h27, e28, e⟩ := jbind e
  refine ey_iast (cd_64 rfl) e28 ?_
  refine ey_aload_n (cd_64 rfl) f0 ?_
  obtain ⟨a29, e30, e⟩ := jbind e
  refine ey_rs (s0 := [jR x0]) (s1 := [jR (some a29)]) (by rw [e30]) ?_
  obtain ⟨r31, e32, e⟩ := jbind e
  refine ey_getf_r (cd_64 rfl) mt_64 rfl rfl rfl e32 ?_
  refine ey_iload (cd_64 rfl) rfl ?_
  refine ey_iload_n (cd_64 rfl) f2 ?_
  refine ey_iload (cd_64 rfl) f7 ?_
  refine ey_iadd (cd_64 rfl) ?_
  obtain ⟨a33, e34, e⟩ := jbind e
  refine ey_rs (s0 := [jI (x2 + x7), jI (x5 + 1), jR r31]) (s1 := [jI (x2 + x7), jI (x5 + 1), jR (some a33)]) (by rw [e34]) ?_
  obtain ⟨h35, e36, e⟩ := jbind e
  refine ey_iast (cd_64 rfl) e36 ?_
  refine ey_iload (cd_64 rfl) f6 ?_
  refine ey_iconst (cd_64 rfl) ?_
  refine ey_iadd (cd_64 rfl) ?_
  refine ey_istore (cd_64 rfl) mt_64 rfl ?_
  obtain ⟨x54, e55, e⟩ := jbind e
  refine jk_64_l77 e55 ?_ (jup (jup lv 5 (jI (x5 + 1))) 8 (jI (x6 + 1))) f0 f2 f3 (jup_o rfl (jup_pi (lv := lv) (j := 4) (v := jI (x5 + 1)) (z := x4) f4)) rfl (jup_pi (lv := (jup lv 5 (jI (x5 + 1)))) (j := 7) (v := jI (x6 + 1)) (z := x7) f7) rfl
  intro lv g0 g2 g3 g4 g5 g7
  refine ey_iload (cd_64 rfl) g7 ?_
  refine ey_istore (cd_64 rfl) mt_64 rfl ?_
  exact jk_64_b116 e K (jup lv 6 (jI x7)) g0 g2 g3 g4 (jup_pi (lv := lv) (j := 5) (v := jI x7) (z := x54.1) g5) rfl g7
set_option maxRecDepth 100000 in
theorem jk_64_s25 {L : Nat} {xs : Nat → Int32} {x0 : Option Nat} {x2 : Int} {x3 : Int} {x4 : Int} {x5 : Int} {x6 : Int} {x7 : Int} {h : jH} {o : ((Int × Int × Int × jH) ⊕ jH)} {r : mm_R} (e : jd_64_s25 x0 x2 x3 x4 x5 x6 x7 h = some o) (K : jsm (fun s => (∀ lv : jL, lv 0 = some (jR x0) → lv 2 = some (jI x2) → lv 3 = some (jI x3) → lv 4 = some (jI x4) → lv 5 = some (jI s.1) → lv 6 = some (jI s.2.1) → lv 7 = some (jI s.2.2.1) → ey (mm_xt L xs) 0 64 25 lv [] s.2.2.2 r)) (fun x => (∀ lv : jL, ey (mm_xt L xs) 0 64 122 lv [] x r)) o) : ∀ lv : jL, lv 0 = some (jR x0) → lv 2 = some (jI x2) → lv 3 = some (jI x3) → lv 4 = some (jI x4) → lv 5 = some (jI x5) → lv 6 = some (jI x6) → lv 7 = some (jI x7) → ey (mm_xt L xs) 0 64 25 lv [] h r := by
  intro lv f0 f2 f3 f4 f5 f6 f7
  unfold jd_64_s25 at e
  refine ey_iload (cd_64 rfl) f7 ?_
  refine ey_iload_n (cd_64 rfl) f3 ?_
  by_cases q17 : (jw x3) ≤ (jw x7)
  · rw [if_pos q17] at e
    refine ey_cge (cd_64 rfl) rfl rfl rfl q17 ?_
    cases e
    exact K lv 
  · rw [if_neg q17] at e
    refine ey_nge (cd_64 rfl) rfl rfl rfl q17 ?_
    refine ey_iload (cd_64 rfl) f7 ?_
    refine ey_iload (cd_64 rfl) f4 ?_
    refine ey_iconst (cd_64 rfl) ?_
    refine ey_iadd (cd_64 rfl) ?_
    obtain ⟨u18, e19, e⟩ := jbind e
    refine ey_irem (cd_64 rfl) (jnz_s e19) ?_
    by_cases q20 : (jw (jrem x7 (x4 + 1))) = 0
    · rw [if_pos q20] at e
      refine ey_zeq (cd_64 rfl) rfl rfl q20 ?_
      exact jk_64_b49 e K lv f0 f2 f3 f4 f5 f6 f7
    · rw [if_neg q20] at e
      refine ey_yeq (cd_64 rfl) rfl rfl q20 ?_
      refine ey_iload (cd_64 rfl) f7 ?_
      refine ey_iload_n (cd_64 rfl) f3 ?_
      refine ey_iconst (cd_64 rfl) ?_
      refine ey_isub (cd_64 rfl) ?_
      by_cases q56 : (jw x7) = (jw (x3 - 1))
      · rw [if_pos q56] at e
        refine ey_nne (cd_64 rfl) rfl rfl rfl (fun w => w q56) ?_
        exact jk_64_b49 e K lv f0 f2 f3 f4 f5 f6 f7
      · rw [if_neg q56] at e
        refine ey_cne (cd_64 rfl) rfl rfl rfl q56 ?_
        exact jk_64_b116 e K lv f0 f2 f3 f4 f5 f6 f7
theorem jk_64_l25 {L : Nat} {xs : Nat → Int32} {x0 : Option Nat} {x2 : Int} {x3 : Int} {x4 : Int} {x5 : Int} {x6 : Int} {x7 : Int} {h : jH} {x : jH} {r : mm_R} (e : jd_64_l25 x0 x2 x3 x4 x5 x6 x7 h = some x) (K : (∀ lv : jL, ey (mm_xt L xs) 0 64 122 lv [] x r)) : ∀ lv : jL, lv 0 = some (jR x0) → lv 2 = some (jI x2) → lv 3 = some (jI x3) → lv 4 = some (jI x4) → lv 5 = some (jI x5) → lv 6 = some (jI x6) → lv 7 = some (jI x7) → ey (mm_xt L xs) 0 64 25 lv [] h r := by
  unfold jd_64_l25 at e
  exact jlp_ok2 (P := fun s => ∀ lv : jL, lv 0 = some (jR x0) → lv 2 = some (jI x2) → lv 3 = some (jI x3) → lv 4 = some (jI x4) → lv 5 = some (jI s.1) → lv 6 = some (jI s.2.1) → lv 7 = some (jI s.2.2.1) → ey (mm_xt L xs) 0 64 25 lv [] s.2.2.2 r) (Q := fun x => (∀ lv : jL, ey (mm_xt L xs) 0 64 122 lv [] x r)) (fun s q hq hk => jk_64_s25 hq hk) jfu _ x e K
set_option maxRecDepth 100000 in
theorem ok_64 {L : Nat} {xs : Nat → Int32} {p0 : Option Nat} {p1 : Int} {p2 : Int} {p3 : Int} {p4 : Int} {h : jH} {o : jH} (e : jd_64 p0 p1 p2 p3 p4 h = some o) : mm_Runs (mm_xt L xs) 1 64 ([jR p0, jI p1, jI p2, jI p3, jI p4].map jcv) (jaH h) (.inl (none, jaH o)) := by
  refine ey_run0 _ mt_64 (jsl_s rfl) ?_
  unfold jd_64 at e
  refine ey_iload_n (cd_64 rfl) rfl ?_
  refine ey_istore (cd_64 rfl) mt_64 rfl ?_
  refine ey_iconst (cd_64 rfl) ?_
  refine ey_istore (cd_64 rfl) mt_64 rfl ?_
  refine ey_aload_n (cd_64 rfl) rfl ?_
  obtain ⟨a1, e2, e⟩ := jbind e
  refine ey_rs (s0 := [jR p0]) (s1 := [jR (some a1)]) (by rw [e2]) ?_
  obtain ⟨r3, e4, e⟩ := jbind e
  refine ey_getf_r (cd_64 rfl) mt_64 rfl rfl rfl e4 ?_
  refine ey_iload (cd_64 rfl) (jup_pi (lv := (jup (jlf (jla 0 [jR p0, jI p1, jI p2, jI p3, jI p4])) 5 (jI p1))) (j := 5) (v := jI 0) (z := p1) rfl) ?_
  refine ey_iconst (cd_64 rfl) ?_
  obtain ⟨a5, e6, e⟩ := jbind e
  refine ey_rs (s0 := [jI 0, jI p1, jR r3]) (s1 := [jI 0, jI p1, jR (some a5)]) (by rw [e6]) ?_
  obtain ⟨h7, e8, e⟩ := jbind e
  refine ey_iast (cd_64 rfl) e8 ?_
  refine ey_aload_n (cd_64 rfl) rfl ?_
  obtain ⟨a9, e10, e⟩ := jbind e
  refine ey_rs (s0 := [jR p0]) (s1 := [jR (some a9)]) (by rw [e10]) ?_
  obtain ⟨r11, e12, e⟩ := jbind e
  refine ey_getf_r (cd_64 rfl) mt_64 rfl rfl rfl e12 ?_
  refine ey_iload (cd_64 rfl) (jup_pi (lv := (jup (jlf (jla 0 [jR p0, jI p1, jI p2, jI p3, jI p4])) 5 (jI p1))) (j := 5) (v := jI 0) (z := p1) rfl) ?_
  refine ey_iload_n (cd_64 rfl) rfl ?_
  obtain ⟨a13, e14, e⟩ := jbind e
  refine ey_rs (s0 := [jI p2, jI p1, jR r11]) (s1 := [jI p2, jI p1, jR (some a13)]) (by rw [e14]) ?_
  obtain ⟨h15, e16, e⟩ := jbind e
  refine ey_iast (cd_64 rfl) e16 ?_
  refine ey_iconst (cd_64 rfl) ?_
  refine ey_istore (cd_64 rfl) mt_64 rfl ?_
  obtain ⟨x57, e58, e⟩ := jbind e
  refine jk_64_l25 e58 ?_ (jup (jup (jup (jlf (jla 0 [jR p0, jI p1, jI p2, jI p3, jI p4])) 5 (jI p1)) 6 (jI 0)) 7 (jI 1)) rfl rfl rfl (jup_o rfl (jup_o rfl (jup_pi (lv := (jlf (jla 0 [jR p0, jI p1, jI p2, jI p3, jI p4]))) (j := 4) (v := jI p1) (z := p4) rfl))) (jup_o rfl (jup_pi (lv := (jup (jlf (jla 0 [jR p0, jI p1, jI p2, jI p3, jI p4])) 5 (jI p1))) (j := 5) (v := jI 0) (z := p1) rfl)) (jup_pi (lv := (jup (jup (jlf (jla 0 [jR p0, jI p1, jI p2, jI p3, jI p4])) 5 (jI p1)) 6 (jI 0))) (j := 6) (v := jI 1) (z := 0) rfl) rfl
  intro lv 
  cases e
  exact ey_retv (cd_64 rfl) mt_64 rfl
theorem cd_63 {pc : Nat} {i : Instr × Nat} (h : mm_lk mm_c63 pc = some i) : mm_cd 63 pc = some i := h
theorem mt_63 : mm_MT 63 = (4, 10, some .int, 3, 0, []) := rfl
set_option maxRecDepth 100000 in
theorem jk_63_b138 {L : Nat} {xs : Nat → Int32} {this : Nat} {x1 : Option Nat} {x3 : Int} {x4 : Int} {x5 : Int} {x6 : Int} {h : jH} {o : ((Int × Int × Int × jH) ⊕ (Int × jH))} {r : mm_R} (e : jd_63_b138 this x1 x3 x4 x5 x6 h = some o) (K : jsm (fun s => (∀ lv : jL, lv 0 = some (jR (some this)) → lv 1 = some (jR x1) → lv 3 = some (jI x3) → lv 4 = some (jI s.1) → lv 5 = some (jI s.2.1) → lv 6 = some (jI s.2.2.1) → ey (mm_xt L xs) 5 63 22 lv [] s.2.2.2 r)) (fun x => (∀ lv : jL, lv 5 = some (jI x.1) → ey (mm_xt L xs) 5 63 158 lv [] x.2 r)) o) : ∀ lv : jL, lv 0 = some (jR (some this)) → lv 1 = some (jR x1) → lv 3 = some (jI x3) → lv 4 = some (jI x4) → lv 5 = some (jI x5) → lv 6 = some (jI x6) → ey (mm_xt L xs) 5 63 138 lv [] h r := by
  intro lv f0 f1 f3 f4 f5 f6
  unfold jd_63_b138 at e
  refine ey_iload (cd_63 rfl) f5 ?_
  refine ey_iconst (cd_63 rfl) ?_
  refine ey_aload_n (cd_63 rfl) f1 ?_
  obtain ⟨a78, e79, e⟩ := jbind e
  refine ey_rs (s0 := [jR x1, jI 5, jI x5]) (s1 := [jR (some a78), jI 5, jI x5]) (by rw [e79]) ?_
  obtain ⟨r80, e81, e⟩ := jbind e
  refine ey_getf_r (cd_63 rfl) mt_63 rfl rfl rfl e81 ?_
  refine ey_iload (cd_63 rfl) f6 ?_
  obtain ⟨a82, e83, e⟩ := jbind e
  refine ey_rs (s0 := [jI x6, jR r80, jI 5, jI x5]) (s1 := [jI x6, jR (some a82), jI 5, jI x5]) (by rw [e83]) ?_
  obtain ⟨v84, e85, e⟩ := jbind e
  refine ey_iald (cd_63 rfl) e85 ?_
  refine ey_iadd (cd_63 rfl) ?_
  refine ey_iadd (cd_63 rfl) ?_
  refine ey_istore (cd_63 rfl) mt_63 rfl ?_
  refine ey_iinc (cd_63 rfl) mt_63 rfl f6 ?_
  refine ey_goto (cd_63 rfl) rfl ?_
  cases e
  exact K (jup (jup lv 5 (jI (x5 + (5 + v84)))) 6 (jI (x6 + 1))) f0 f1 f3 (jup_o rfl (jup_pi (lv := lv) (j := 4) (v := jI (x5 + (5 + v84))) (z := x4) f4)) (jup_pi (lv := (jup lv 5 (jI (x5 + (5 + v84))))) (j := 5) (v := jI (x6 + 1)) (z := (x5 + (5 + v84))) rfl) rfl
set_option maxRecDepth 100000 in
theorem jk_63_b69 {L : Nat} {xs : Nat → Int32} {this : Nat} {x1 : Option Nat} {x3 : Int} {x5 : Int} {x6 : Int} {x7 : Int} {y0 : Int} {h : jH} {o : ((Int × Int × Int × jH) ⊕ (Int × jH))} {r : mm_R} (e : jd_63_b69 this x1 x3 x5 x6 x7 y0 h = some o) (K : jsm (fun s => (∀ lv : jL, lv 0 = some (jR (some this)) → lv 1 = some (jR x1) → lv 3 = some (jI x3) → lv 4 = some (jI s.1) → lv 5 = some (jI s.2.1) → lv 6 = some (jI s.2.2.1) → ey (mm_xt L xs) 5 63 22 lv [] s.2.2.2 r)) (fun x => (∀ lv : jL, lv 5 = some (jI x.1) → ey (mm_xt L xs) 5 63 158 lv [] x.2 r)) o) : ∀ lv : jL, lv 0 = some (jR (some this)) → lv 1 = some (jR x1) → lv 3 = some (jI x3) → lv 5 = some (jI x5) → lv 6 = some (jI x6) → lv 7 = some (jI x7) → ey (mm_xt L xs) 5 63 69 lv [jI y0] h r := by
  intro lv f0 f1 f3 f5 f6 f7
  unfold jd_63_b69 at e
  refine ey_istore (cd_63 rfl) mt_63 rfl ?_
  refine ey_iload (cd_63 rfl) rfl ?_
  by_cases q27 : (jw y0) = 0
  · rw [if_pos q27] at e
    refine ey_yne (cd_63 rfl) rfl rfl (fun w => w q27) ?_
    refine ey_aload_n (cd_63 rfl) f0 ?_
    obtain ⟨r28, e29, e⟩ := jbind e
    refine ey_getf_r (cd_63 rfl) mt_63 rfl rfl rfl e29 ?_
    refine ey_aload_n (cd_63 rfl) f1 ?_
    obtain ⟨a30, e31, e⟩ := jbind e
    refine ey_rs (s0 := [jR x1, jR r28]) (s1 := [jR (some a30), jR r28]) (by rw [e31]) ?_
    obtain ⟨r32, e33, e⟩ := jbind e
    refine ey_getf_r (cd_63 rfl) mt_63 rfl rfl rfl e33 ?_
    refine ey_iload (cd_63 rfl) f6 ?_
    obtain ⟨a34, e35, e⟩ := jbind e
    refine ey_rs (s0 := [jI x6, jR r32, jR r28]) (s1 := [jI x6, jR (some a34), jR r28]) (by rw [e35]) ?_
    obtain ⟨v36, e37, e⟩ := jbind e
    refine ey_iald (cd_63 rfl) e37 ?_
    obtain ⟨a38, e39, e⟩ := jbind e
    refine ey_rs (s0 := [jI v36, jR r28]) (s1 := [jI v36, jR (some a38)]) (by rw [e39]) ?_
    obtain ⟨r40, e41, e⟩ := jbind e
    refine ey_aald (cd_63 rfl) (by decide) e41 ?_
    refine ey_astore (cd_63 rfl) mt_63 rfl ?_
    refine ey_aload_n (cd_63 rfl) f0 ?_
    obtain ⟨r42, e43, e⟩ := jbind e
    refine ey_getf_r (cd_63 rfl) mt_63 rfl rfl rfl e43 ?_
    refine ey_aload_n (cd_63 rfl) f0 ?_
    obtain ⟨r44, e45, e⟩ := jbind e
    refine ey_getf_r (cd_63 rfl) mt_63 rfl rfl rfl e45 ?_
    refine ey_aload_n (cd_63 rfl) f1 ?_
    refine ey_iload (cd_63 rfl) f6 ?_
    refine ey_aload (cd_63 rfl) rfl ?_
    refine ey_aload_n (cd_63 rfl) f0 ?_
    obtain ⟨r46, e47, e⟩ := jbind e
    refine ey_getf_r (cd_63 rfl) mt_63 rfl rfl rfl e47 ?_
    refine ey_iconst (cd_63 rfl) ?_
    obtain ⟨a48, e49, e⟩ := jbind e
    refine ey_rs (s0 := [jI 4, jR r46, jR r40, jI x6, jR x1, jR r44, jR r42]) (s1 := [jI 4, jR (some a48), jR r40, jI x6, jR x1, jR r44, jR r42]) (by rw [e49]) ?_
    obtain ⟨v50, e51, e⟩ := jbind e
    refine ey_iald (cd_63 rfl) e51 ?_
    refine ey_aload_n (cd_63 rfl) f0 ?_
    obtain ⟨r52, e53, e⟩ := jbind e
    refine ey_getf_r (cd_63 rfl) mt_63 rfl rfl rfl e53 ?_
    refine ey_iconst (cd_63 rfl) ?_
    obtain ⟨a54, e55, e⟩ := jbind e
    refine ey_rs (s0 := [jI 3, jR r52, jI v50, jR r40, jI x6, jR x1, jR r44, jR r42]) (s1 := [jI 3, jR (some a54), jI v50, jR r40, jI x6, jR x1, jR r44, jR r42]) (by rw [e55]) ?_
    obtain ⟨v56, e57, e⟩ := jbind e
    refine ey_iald (cd_63 rfl) e57 ?_
    obtain ⟨a58, e59, e⟩ := jbind e
    refine ey_rs (s0 := [jI v56, jI v50, jR r40, jI x6, jR x1, jR r44, jR r42]) (s1 := [jI v56, jI v50, jR r40, jI x6, jR x1, jR r44, jR (some a58)]) (by rw [e59]) ?_
    obtain ⟨u60, e61, e⟩ := jbind e
    obtain ⟨q62, e63, e⟩ := jbind e
    refine ey_cv (s0 := [jI v56, jI v50, jR r40, jI x6, jR x1, jR r44, jR (some a58)]) (s1 := []) (st' := [jI q62.1]) (cd_63 rfl) mt_63 mt_16 rfl rfl rfl (jck_s e61) rfl (jsml_s rfl) rfl (ok_16 e63) ?_
    refine ey_istore (cd_63 rfl) mt_63 rfl ?_
    refine ey_aload_n (cd_63 rfl) f1 ?_
    obtain ⟨a64, e65, e⟩ := jbind e
    refine ey_rs (s0 := [jR x1]) (s1 := [jR (some a64)]) (by rw [e65]) ?_
    obtain ⟨r66, e67, e⟩ := jbind e
    refine ey_getf_r (cd_63 rfl) mt_63 rfl rfl rfl e67 ?_
    refine ey_iload (cd_63 rfl) f6 ?_
    refine ey_iload (cd_63 rfl) rfl ?_
    obtain ⟨a68, e69, e⟩ := jbind e
    refine ey_rs (s0 := [jI q62.1, jI x6, jR r66]) (s1 := [jI q62.1, jI x6, jR (some a68)]) (by rw [e69]) ?_
    obtain ⟨h70, e71, e⟩ := jbind e
    refine ey_iast (cd_63 rfl) e71 ?_
    refine ey_aload_n (cd_63 rfl) f0 ?_
    obtain ⟨r72, e73, e⟩ := jbind e
    refine ey_getf_r (cd_63 rfl) mt_63 rfl rfl rfl e73 ?_
    refine ey_iload (cd_63 rfl) f6 ?_
    refine ey_iload (cd_63 rfl) (jup_o rfl (jup_pi (lv := (jup lv 4 (jI y0))) (j := 7) (v := jR r40) (z := x7) f7)) ?_
    obtain ⟨a74, e75, e⟩ := jbind e
    refine ey_rs (s0 := [jI x7, jI x6, jR r72]) (s1 := [jI x7, jI x6, jR (some a74)]) (by rw [e75]) ?_
    obtain ⟨h76, e77, e⟩ := jbind e
    refine ey_iast (cd_63 rfl) e77 ?_
    exact jk_63_b138 e K (jup (jup (jup lv 4 (jI y0)) 8 (jR r40)) 9 (jI q62.1)) f0 f1 (jup_o rfl (jup_o rfl (jup_pi (lv := lv) (j := 3) (v := jI y0) (z := x3) f3))) rfl f5 f6
  · rw [if_neg q27] at e
    refine ey_zne (cd_63 rfl) rfl rfl q27 ?_
    exact jk_63_b138 e K (jup lv 4 (jI y0)) f0 f1 (jup_pi (lv := lv) (j := 3) (v := jI y0) (z := x3) f3) rfl f5 f6
set_option maxRecDepth 100000 in
theorem jk_63_s22 {L : Nat} {xs : Nat → Int32} {this : Nat} {x1 : Option Nat} {x3 : Int} {x4 : Int} {x5 : Int} {x6 : Int} {h : jH} {o : ((Int × Int × Int × jH) ⊕ (Int × jH))} {r : mm_R} (e : jd_63_s22 this x1 x3 x4 x5 x6 h = some o) (K : jsm (fun s => (∀ lv : jL, lv 0 = some (jR (some this)) → lv 1 = some (jR x1) → lv 3 = some (jI x3) → lv 4 = some (jI s.1) → lv 5 = some (jI s.2.1) → lv 6 = some (jI s.2.2.1) → ey (mm_xt L xs) 5 63 22 lv [] s.2.2.2 r)) (fun x => (∀ lv : jL, lv 5 = some (jI x.1) → ey (mm_xt L xs) 5 63 158 lv [] x.2 r)) o) : ∀ lv : jL, lv 0 = some (jR (some this)) → lv 1 = some (jR x1) → lv 3 = some (jI x3) → lv 4 = some (jI x4) → lv 5 = some (jI x5) → lv 6 = some (jI x6) → ey (mm_xt L xs) 5 63 22 lv [] h r := by
  intro lv f0 f1 f3 f4 f5 f6
  unfold jd_63_s22 at e
  refine ey_iload (cd_63 rfl) f6 ?_
  refine ey_iload_n (cd_63 rfl) f3 ?_
  by_cases q9 : (jw x3) ≤ (jw x6)
  · rw [if_pos q9] at e
    refine ey_cge (cd_63 rfl) rfl rfl rfl q9 ?_
    cases e
    exact K lv f5
  · rw [if_neg q9] at e
    refine ey_nge (cd_63 rfl) rfl rfl rfl q9 ?_
    refine ey_iconst (cd_63 rfl) ?_
    refine ey_aload_n (cd_63 rfl) f1 ?_
    obtain ⟨a10, e11, e⟩ := jbind e
    refine ey_rs (s0 := [jR x1, jI 3]) (s1 := [jR (some a10), jI 3]) (by rw [e11]) ?_
    obtain ⟨r12, e13, e⟩ := jbind e
    refine ey_getf_r (cd_63 rfl) mt_63 rfl rfl rfl e13 ?_
    refine ey_iload (cd_63 rfl) f6 ?_
    obtain ⟨a14, e15, e⟩ := jbind e
    refine ey_rs (s0 := [jI x6, jR r12, jI 3]) (s1 := [jI x6, jR (some a14), jI 3]) (by rw [e15]) ?_
    obtain ⟨v16, e17, e⟩ := jbind e
    refine ey_iald (cd_63 rfl) e17 ?_
    refine ey_imul (cd_63 rfl) ?_
    refine ey_aload_n (cd_63 rfl) f1 ?_
    obtain ⟨a18, e19, e⟩ := jbind e
    refine ey_rs (s0 := [jR x1, jI (3 * v16)]) (s1 := [jR (some a18), jI (3 * v16)]) (by rw [e19]) ?_
    obtain ⟨r20, e21, e⟩ := jbind e
    refine ey_getf_r (cd_63 rfl) mt_63 rfl rfl rfl e21 ?_
    refine ey_iload (cd_63 rfl) f6 ?_
    obtain ⟨a22, e23, e⟩ := jbind e
    refine ey_rs (s0 := [jI x6, jR r20, jI (3 * v16)]) (s1 := [jI x6, jR (some a22), jI (3 * v16)]) (by rw [e23]) ?_
    obtain ⟨v24, e25, e⟩ := jbind e
    refine ey_iald (cd_63 rfl) e25 ?_
    refine ey_iadd (cd_63 rfl) ?_
    refine ey_istore (cd_63 rfl) mt_63 rfl ?_
    refine ey_iload (cd_63 rfl) f4 ?_
    by_cases q26 : (jw x4) = 0
    · rw [if_pos q26] at e
      refine ey_zeq (cd_63 rfl) rfl rfl q26 ?_
      refine ey_iconst (cd_63 rfl) ?_
      exact jk_63_b69 e K (jup lv 7 (jI ((3 * v16) + v24))) f0 f1 f3 f5 (jup_pi (lv := lv) (j := 6) (v := jI ((3 * v16) + v24)) (z := x6) f6) rfl
    · rw [if_neg q26] at e
      refine ey_yeq (cd_63 rfl) rfl rfl q26 ?_
      refine ey_aload_n (cd_63 rfl) f0 ?_
      obtain ⟨r86, e87, e⟩ := jbind e
      refine ey_getf_r (cd_63 rfl) mt_63 rfl rfl rfl e87 ?_
      refine ey_iload (cd_63 rfl) (jup_pi (lv := lv) (j := 6) (v := jI ((3 * v16) + v24)) (z := x6) f6) ?_
      obtain ⟨a88, e89, e⟩ := jbind e
      refine ey_rs (s0 := [jI x6, jR r86]) (s1 := [jI x6, jR (some a88)]) (by rw [e89]) ?_
      obtain ⟨v90, e91, e⟩ := jbind e
      refine ey_iald (cd_63 rfl) e91 ?_
      refine ey_iload (cd_63 rfl) rfl ?_
      have K92 : ∀ lv : jL, lv 0 = some (jR (some this)) → lv 1 = some (jR x1) → lv 3 = some (jI x3) → lv 5 = some (jI x5) → lv 6 = some (jI x6) → lv 7 = some (jI ((3 * v16) + v24)) → ey (mm_xt L xs) 5 63 69 lv [jI (if (jw v90) = (jw ((3 * v16) + v24)) then 1 else 0)] h r := by
        intro lv g0 g1 g3 g5 g6 g7
        exact jk_63_b69 e K lv g0 g1 g3 g5 g6 g7
      by_cases q93 : (jw v90) = (jw ((3 * v16) + v24))
      · refine ey_nne (cd_63 rfl) rfl rfl rfl (fun w => w q93) ?_
        refine ey_iconst (cd_63 rfl) ?_
        refine ey_goto (cd_63 rfl) rfl ?_
        exact ey_rs (s0 := [jI 1]) (s1 := [jI (if (jw v90) = (jw ((3 * v16) + v24)) then 1 else 0)]) (by rw [show ((if (jw v90) = (jw ((3 * v16) + v24)) then 1 else 0) : Int) = 1 from (if_pos q93)]) (K92 (jup lv 7 (jI ((3 * v16) + v24))) f0 f1 f3 f5 (jup_pi (lv := lv) (j := 6) (v := jI ((3 * v16) + v24)) (z := x6) f6) rfl)
      · refine ey_cne (cd_63 rfl) rfl rfl rfl q93 ?_
        refine ey_iconst (cd_63 rfl) ?_
        exact ey_rs (s0 := [jI 0]) (s1 := [jI (if (jw v90) = (jw ((3 * v16) + v24)) then 1 else 0)]) (by rw [show ((if (jw v90) = (jw ((3 * v16) + v24)) then 1 else 0) : Int) = 0 from (if_neg q93)]) (K92 (jup lv 7 (jI ((3 * v16) + v24))) f0 f1 f3 f5 (jup_pi (lv := lv) (j := 6) (v := jI ((3 * v16) + v24)) (z := x6) f6) rfl)
theorem jk_63_l22 {L : Nat} {xs : Nat → Int32} {this : Nat} {x1 : Option Nat} {x3 : Int} {x4 : Int} {x5 : Int} {x6 : Int} {h : jH} {x : (Int × jH)} {r : mm_R} (e : jd_63_l22 this x1 x3 x4 x5 x6 h = some x) (K : (∀ lv : jL, lv 5 = some (jI x.1) → ey (mm_xt L xs) 5 63 158 lv [] x.2 r)) : ∀ lv : jL, lv 0 = some (jR (some this)) → lv 1 = some (jR x1) → lv 3 = some (jI x3) → lv 4 = some (jI x4) → lv 5 = some (jI x5) → lv 6 = some (jI x6) → ey (mm_xt L xs) 5 63 22 lv [] h r := by
  unfold jd_63_l22 at e
  exact jlp_ok2 (P := fun s => ∀ lv : jL, lv 0 = some (jR (some this)) → lv 1 = some (jR x1) → lv 3 = some (jI x3) → lv 4 = some (jI s.1) → lv 5 = some (jI s.2.1) → lv 6 = some (jI s.2.2.1) → ey (mm_xt L xs) 5 63 22 lv [] s.2.2.2 r) (Q := fun x => (∀ lv : jL, lv 5 = some (jI x.1) → ey (mm_xt L xs) 5 63 158 lv [] x.2 r)) (fun s q hq hk => jk_63_s22 hq hk) jfu _ x e K
set_option maxRecDepth 100000 in
theorem ok_63 {L : Nat} {xs : Nat → Int32} {this : Nat} {p0 : Option Nat} {p1 : Int} {p2 : Int} {h : jH} {o : (Int × jH)} (e : jd_63 this p0 p1 p2 h = some o) : mm_Runs (mm_xt L xs) 6 63 ([jR (some this), jR p0, jI p1, jI p2].map jcv) (jaH h) (.inl (some (jcv (jI o.1)), jaH o.2)) := by
  refine ey_run0 _ mt_63 (jsl_s rfl) ?_
  unfold jd_63 at e
  refine ey_aload_n (cd_63 rfl) rfl ?_
  refine ey_iconst (cd_63 rfl) ?_
  refine ey_iload_n (cd_63 rfl) rfl ?_
  refine ey_iload_n (cd_63 rfl) rfl ?_
  refine ey_aload_n (cd_63 rfl) rfl ?_
  obtain ⟨r1, e2, e⟩ := jbind e
  refine ey_getf_r (cd_63 rfl) mt_63 rfl rfl rfl e2 ?_
  refine ey_iconst (cd_63 rfl) ?_
  obtain ⟨a3, e4, e⟩ := jbind e
  refine ey_rs (s0 := [jI 2, jR r1, jI p2, jI p1, jI 0, jR p0]) (s1 := [jI 2, jR (some a3), jI p2, jI p1, jI 0, jR p0]) (by rw [e4]) ?_
  obtain ⟨v5, e6, e⟩ := jbind e
  refine ey_iald (cd_63 rfl) e6 ?_
  obtain ⟨h7, e8, e⟩ := jbind e
  refine ey_cs (s0 := [jI v5, jI p2, jI p1, jI 0, jR p0]) (s1 := []) (st' := []) (cd_63 rfl) mt_63 mt_64 rfl (by decide) rfl rfl (jsml_s rfl) rfl (mm_Runs.up (d := 1) (by decide) (ok_64 e8)) ?_
  refine ey_iconst (cd_63 rfl) ?_
  refine ey_istore (cd_63 rfl) mt_63 rfl ?_
  refine ey_iconst (cd_63 rfl) ?_
  refine ey_istore (cd_63 rfl) mt_63 rfl ?_
  refine ey_iconst (cd_63 rfl) ?_
  refine ey_istore (cd_63 rfl) mt_63 rfl ?_
  obtain ⟨x94, e95, e⟩ := jbind e
  refine jk_63_l22 e95 ?_ (jup (jup (jup (jlf (jla 0 [jR (some this), jR p0, jI p1, jI p2])) 4 (jI 1)) 5 (jI 0)) 6 (jI 0)) rfl rfl (jup_o rfl (jup_o rfl (jup_pi (lv := (jlf (jla 0 [jR (some this), jR p0, jI p1, jI p2]))) (j := 3) (v := jI 1) (z := p2) rfl))) (jup_o rfl (jup_pi (lv := (jup (jlf (jla 0 [jR (some this), jR p0, jI p1, jI p2])) 4 (jI 1))) (j := 4) (v := jI 0) (z := 1) rfl)) (jup_pi (lv := (jup (jup (jlf (jla 0 [jR (some this), jR p0, jI p1, jI p2])) 4 (jI 1)) 5 (jI 0))) (j := 5) (v := jI 0) (z := 0) rfl) rfl
  intro lv g5
  refine ey_iload (cd_63 rfl) g5 ?_
  cases e
  exact ey_reti (cd_63 rfl) mt_63 rfl
