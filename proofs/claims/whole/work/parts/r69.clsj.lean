theorem cd_181 {pc : Nat} {i : Instr × Nat} (h : mm_lk mm_c181 pc = some i) : mm_cd 181 pc = some i := h
theorem mt_181 : mm_MT 181 = (11, 2, some .int, 1, 0, []) := rfl
set_option maxRecDepth 100000 in
theorem ok_181 {L : Nat} {xs : Nat → Int32} {this : Nat} {p0 : Int} {h : jH} {o : ((Int ⊕ Nat) × jH)} (e : jd_181 this p0 h = some o) : mm_Runs (mm_xt L xs) 2 181 ([jR (some this), jI p0].map jcv) (jaH h) (jres_i o) := by
  refine ey_run0 _ mt_181 (jsl_s rfl) ?_
  unfold jd_181 at e
  refine ey_iload_n (cd_181 rfl) rfl ?_
  refine ey_iconst (cd_181 rfl) ?_
  rcases jtb_c e with ⟨v3, h5, e2, e⟩ | ⟨E4, h5, e2, e⟩
  rotate_left
  · cases e
    exact ey_csX (s0 := [jI 5, jI p0]) (s1 := []) (cd_181 rfl) mt_181 rfl mt_185 rfl rfl rfl (jsml_s rfl) (ok_185 e2)
  refine ey_cs (s0 := [jI 5, jI p0]) (s1 := []) (st' := []) (cd_181 rfl) mt_181 mt_185 rfl (by decide) rfl rfl (jsml_s rfl) rfl (ok_185 e2) ?_
  refine ey_iload_n (cd_181 rfl) rfl ?_
  by_cases q6 : (jw p0) = 0
  · rw [if_pos q6] at e
    refine ey_tsw (cd_181 rfl) q6 (by decide) rfl rfl ?_
    refine ey_aload_n (cd_181 rfl) rfl ?_
    obtain ⟨v7, e8, e⟩ := jbind e
    refine ey_getf_i (cd_181 rfl) mt_181 rfl rfl rfl e8 ?_
    cases e
    exact ey_reti (cd_181 rfl) mt_181 rfl
  · rw [if_neg q6] at e
    by_cases q9 : (jw p0) = 1
    · rw [if_pos q9] at e
      refine ey_tsw (cd_181 rfl) q9 (by decide) rfl rfl ?_
      refine ey_aload_n (cd_181 rfl) rfl ?_
      obtain ⟨v10, e11, e⟩ := jbind e
      refine ey_getf_i (cd_181 rfl) mt_181 rfl rfl rfl e11 ?_
      cases e
      exact ey_reti (cd_181 rfl) mt_181 rfl
    · rw [if_neg q9] at e
      by_cases q12 : (jw p0) = 2
      · rw [if_pos q12] at e
        refine ey_tsw (cd_181 rfl) q12 (by decide) rfl rfl ?_
        refine ey_aload_n (cd_181 rfl) rfl ?_
        obtain ⟨v13, e14, e⟩ := jbind e
        refine ey_getf_i (cd_181 rfl) mt_181 rfl rfl rfl e14 ?_
        cases e
        exact ey_reti (cd_181 rfl) mt_181 rfl
      · rw [if_neg q12] at e
        by_cases q15 : (jw p0) = 3
        · rw [if_pos q15] at e
          refine ey_tsw (cd_181 rfl) q15 (by decide) rfl rfl ?_
          refine ey_aload_n (cd_181 rfl) rfl ?_
          obtain ⟨v16, e17, e⟩ := jbind e
          refine ey_getf_i (cd_181 rfl) mt_181 rfl rfl rfl e17 ?_
          cases e
          exact ey_reti (cd_181 rfl) mt_181 rfl
        · rw [if_neg q15] at e
          by_cases q18 : (jw p0) = 4
          · rw [if_pos q18] at e
            refine ey_tsw (cd_181 rfl) q18 (by decide) rfl rfl ?_
            refine ey_aload_n (cd_181 rfl) rfl ?_
            obtain ⟨v19, e20, e⟩ := jbind e
            refine ey_getf_i (cd_181 rfl) mt_181 rfl rfl rfl e20 ?_
            cases e
            exact ey_reti (cd_181 rfl) mt_181 rfl
          · rw [if_neg q18] at e
            refine ey_tsw_d (cd_181 rfl) (by omega) rfl ?_
            refine ey_aload_n (cd_181 rfl) rfl ?_
            obtain ⟨v21, e22, e⟩ := jbind e
            refine ey_getf_i (cd_181 rfl) mt_181 rfl rfl rfl e22 ?_
            cases e
            exact ey_reti (cd_181 rfl) mt_181 rfl
theorem cd_202 {pc : Nat} {i : Instr × Nat} (h : mm_lk mm_c202 pc = some i) : mm_cd 202 pc = some i := h
theorem mt_202 : mm_MT 202 = (12, 2, none, 0, 2, []) := rfl
set_option maxRecDepth 100000 in
theorem jk_202_s651 {L : Nat} {xs : Nat → Int32} {this : Nat} {x1 : Int} {h : jH} {o : ((Int × jH) ⊕ jH)} {r : mm_R} (e : jd_202_s651 this x1 h = some o) (K : jsm (fun s => (∀ lv : jL, lv 0 = some (jR (some this)) → lv 1 = some (jI s.1) → ey (mm_xt L xs) 0 202 651 lv [] s.2 r)) (fun x => (∀ lv : jL, ey (mm_xt L xs) 0 202 669 lv [] x r)) o) : ∀ lv : jL, lv 0 = some (jR (some this)) → lv 1 = some (jI x1) → ey (mm_xt L xs) 0 202 651 lv [] h r := by
  intro lv f0 f1
  unfold jd_202_s651 at e
  refine ey_iload_n (cd_202 rfl) f1 ?_
  refine ey_iconst (cd_202 rfl) ?_
  by_cases q317 : 4 ≤ (jw x1)
  · rw [if_pos q317] at e
    refine ey_cge (cd_202 rfl) rfl rfl (show jw 4 = 4 from by decide) q317 ?_
    cases e
    exact K lv 
  · rw [if_neg q317] at e
    refine ey_nge (cd_202 rfl) rfl rfl (show jw 4 = 4 from by decide) q317 ?_
    refine ey_aload_n (cd_202 rfl) f0 ?_
    obtain ⟨r318, e319, e⟩ := jbind e
    refine ey_getf_r (cd_202 rfl) mt_202 rfl rfl rfl e319 ?_
    refine ey_iload_n (cd_202 rfl) f1 ?_
    refine ey_iconst (cd_202 rfl) ?_
    obtain ⟨a320, e321, e⟩ := jbind e
    refine ey_rs (s0 := [jI (-1), jI x1, jR r318]) (s1 := [jI (-1), jI x1, jR (some a320)]) (by rw [e321]) ?_
    obtain ⟨h322, e323, e⟩ := jbind e
    refine ey_iast (cd_202 rfl) e323 ?_
    refine ey_iinc (cd_202 rfl) mt_202 rfl f1 ?_
    refine ey_goto (cd_202 rfl) rfl ?_
    cases e
    exact K (jup lv 1 (jI (x1 + 1))) (jup_pr (lv := lv) (j := 0) (v := jI (x1 + 1)) (z := (some this)) f0) rfl
theorem jk_202_l651 {L : Nat} {xs : Nat → Int32} {this : Nat} {x1 : Int} {h : jH} {x : jH} {r : mm_R} (e : jd_202_l651 this x1 h = some x) (K : (∀ lv : jL, ey (mm_xt L xs) 0 202 669 lv [] x r)) : ∀ lv : jL, lv 0 = some (jR (some this)) → lv 1 = some (jI x1) → ey (mm_xt L xs) 0 202 651 lv [] h r := by
  unfold jd_202_l651 at e
  exact jlp_ok2 (P := fun s => ∀ lv : jL, lv 0 = some (jR (some this)) → lv 1 = some (jI s.1) → ey (mm_xt L xs) 0 202 651 lv [] s.2 r) (Q := fun x => (∀ lv : jL, ey (mm_xt L xs) 0 202 669 lv [] x r)) (fun s q hq hk => jk_202_s651 hq hk) jfu _ x e K
set_option maxRecDepth 100000 in
theorem ok_202 {L : Nat} {xs : Nat → Int32} {this : Nat}  {h : jH} {o : jH} (e : jd_202 this  h = some o) : mm_Runs (mm_xt L xs) 1 202 ([jR (some this)].map jcv) (jaH h) (.inl (none, jaH o)) := by
  refine ey_run0 _ mt_202 (jsl_s rfl) ?_
  unfold jd_202 at e
  refine ey_aload_n (cd_202 rfl) rfl ?_
  refine ey_oini (cd_202 rfl) mt_202 rfl (jsml_s rfl) ?_
  refine ey_aload_n (cd_202 rfl) rfl ?_
  refine ey_bipush (cd_202 rfl) (by decide) ?_
  obtain ⟨n1, e2, e⟩ := jbind e
  refine ey_newarr (cd_202 rfl) (by decide) e2 ?_
  obtain ⟨h3, e4, e⟩ := jbind e
  refine ey_putf_r (cd_202 rfl) mt_202 rfl rfl rfl e4 ?_
  refine ey_aload_n (cd_202 rfl) rfl ?_
  refine ey_bipush (cd_202 rfl) (by decide) ?_
  obtain ⟨n5, e6, e⟩ := jbind e
  refine ey_newarr (cd_202 rfl) (by decide) e6 ?_
  obtain ⟨h7, e8, e⟩ := jbind e
  refine ey_putf_r (cd_202 rfl) mt_202 rfl rfl rfl e8 ?_
  refine ey_aload_n (cd_202 rfl) rfl ?_
  refine ey_ldc (z := 51840) (cd_202 rfl) mt_202 rfl (by decide) ?_
  obtain ⟨n9, e10, e⟩ := jbind e
  refine ey_newarr (cd_202 rfl) (by decide) e10 ?_
  obtain ⟨h11, e12, e⟩ := jbind e
  refine ey_putf_r (cd_202 rfl) mt_202 rfl rfl rfl e12 ?_
  refine ey_aload_n (cd_202 rfl) rfl ?_
  refine ey_sipush (cd_202 rfl) (by decide) ?_
  obtain ⟨n13, e14, e⟩ := jbind e
  refine ey_newarr (cd_202 rfl) (by decide) e14 ?_
  obtain ⟨h15, e16, e⟩ := jbind e
  refine ey_putf_r (cd_202 rfl) mt_202 rfl rfl rfl e16 ?_
  refine ey_aload_n (cd_202 rfl) rfl ?_
  refine ey_sipush (cd_202 rfl) (by decide) ?_
  obtain ⟨n17, e18, e⟩ := jbind e
  refine ey_newarr (cd_202 rfl) (by decide) e18 ?_
  obtain ⟨h19, e20, e⟩ := jbind e
  refine ey_putf_r (cd_202 rfl) mt_202 rfl rfl rfl e20 ?_
  refine ey_aload_n (cd_202 rfl) rfl ?_
  refine ey_bipush (cd_202 rfl) (by decide) ?_
  obtain ⟨n21, e22, e⟩ := jbind e
  refine ey_newarr (cd_202 rfl) (by decide) e22 ?_
  refine ey_dup (cd_202 rfl) rfl ?_
  refine ey_iconst (cd_202 rfl) ?_
  refine ey_bipush (cd_202 rfl) (by decide) ?_
  obtain ⟨h23, e24, e⟩ := jbind e
  refine ey_iast (cd_202 rfl) e24 ?_
  refine ey_dup (cd_202 rfl) rfl ?_
  refine ey_iconst (cd_202 rfl) ?_
  refine ey_iconst (cd_202 rfl) ?_
  obtain ⟨h25, e26, e⟩ := jbind e
  refine ey_iast (cd_202 rfl) e26 ?_
  refine ey_dup (cd_202 rfl) rfl ?_
  refine ey_iconst (cd_202 rfl) ?_
  refine ey_iconst (cd_202 rfl) ?_
  obtain ⟨h27, e28, e⟩ := jbind e
  refine ey_iast (cd_202 rfl) e28 ?_
  refine ey_dup (cd_202 rfl) rfl ?_
  refine ey_iconst (cd_202 rfl) ?_
  refine ey_iconst (cd_202 rfl) ?_
  obtain ⟨h29, e30, e⟩ := jbind e
  refine ey_iast (cd_202 rfl) e30 ?_
  refine ey_dup (cd_202 rfl) rfl ?_
  refine ey_iconst (cd_202 rfl) ?_
  refine ey_iconst (cd_202 rfl) ?_
  obtain ⟨h31, e32, e⟩ := jbind e
  refine ey_iast (cd_202 rfl) e32 ?_
  refine ey_dup (cd_202 rfl) rfl ?_
  refine ey_iconst (cd_202 rfl) ?_
  refine ey_iconst (cd_202 rfl) ?_
  obtain ⟨h33, e34, e⟩ := jbind e
  refine ey_iast (cd_202 rfl) e34 ?_
  refine ey_dup (cd_202 rfl) rfl ?_
  refine ey_bipush (cd_202 rfl) (by decide) ?_
  refine ey_sipush (cd_202 rfl) (by decide) ?_
  obtain ⟨h35, e36, e⟩ := jbind e
  refine ey_iast (cd_202 rfl) e36 ?_
  refine ey_dup (cd_202 rfl) rfl ?_
  refine ey_bipush (cd_202 rfl) (by decide) ?_
  refine ey_iconst (cd_202 rfl) ?_
  obtain ⟨h37, e38, e⟩ := jbind e
  refine ey_iast (cd_202 rfl) e38 ?_
  obtain ⟨h39, e40, e⟩ := jbind e
  refine ey_putf_r (cd_202 rfl) mt_202 rfl rfl rfl e40 ?_
  refine ey_aload_n (cd_202 rfl) rfl ?_
  refine ey_bipush (cd_202 rfl) (by decide) ?_
  obtain ⟨n41, e42, e⟩ := jbind e
  refine ey_newarr (cd_202 rfl) (by decide) e42 ?_
  obtain ⟨h43, e44, e⟩ := jbind e
  refine ey_putf_r (cd_202 rfl) mt_202 rfl rfl rfl e44 ?_
  refine ey_aload_n (cd_202 rfl) rfl ?_
  refine ey_bipush (cd_202 rfl) (by decide) ?_
  obtain ⟨n45, e46, e⟩ := jbind e
  refine ey_newarr (cd_202 rfl) (by decide) e46 ?_
  obtain ⟨h47, e48, e⟩ := jbind e
  refine ey_putf_r (cd_202 rfl) mt_202 rfl rfl rfl e48 ?_
  refine ey_aload_n (cd_202 rfl) rfl ?_
  refine ey_bipush (cd_202 rfl) (by decide) ?_
  obtain ⟨n49, e50, e⟩ := jbind e
  refine ey_newarr (cd_202 rfl) (by decide) e50 ?_
  obtain ⟨h51, e52, e⟩ := jbind e
  refine ey_putf_r (cd_202 rfl) mt_202 rfl rfl rfl e52 ?_
  refine ey_aload_n (cd_202 rfl) rfl ?_
  refine ey_bipush (cd_202 rfl) (by decide) ?_
  obtain ⟨n53, e54, e⟩ := jbind e
  refine ey_newarr (cd_202 rfl) (by decide) e54 ?_
  obtain ⟨h55, e56, e⟩ := jbind e
  refine ey_putf_r (cd_202 rfl) mt_202 rfl rfl rfl e56 ?_
  refine ey_aload_n (cd_202 rfl) rfl ?_
  refine ey_bipush (cd_202 rfl) (by decide) ?_
  obtain ⟨n57, e58, e⟩ := jbind e
  refine ey_newarr (cd_202 rfl) (by decide) e58 ?_
  obtain ⟨h59, e60, e⟩ := jbind e
  refine ey_putf_r (cd_202 rfl) mt_202 rfl rfl rfl e60 ?_
  refine ey_aload_n (cd_202 rfl) rfl ?_
  refine ey_bipush (cd_202 rfl) (by decide) ?_
  obtain ⟨n61, e62, e⟩ := jbind e
  refine ey_newarr (cd_202 rfl) (by decide) e62 ?_
  obtain ⟨h63, e64, e⟩ := jbind e
  refine ey_putf_r (cd_202 rfl) mt_202 rfl rfl rfl e64 ?_
  refine ey_aload_n (cd_202 rfl) rfl ?_
  refine ey_ldc (z := 192800) (cd_202 rfl) mt_202 rfl (by decide) ?_
  obtain ⟨n65, e66, e⟩ := jbind e
  refine ey_newarr (cd_202 rfl) (by decide) e66 ?_
  obtain ⟨h67, e68, e⟩ := jbind e
  refine ey_putf_r (cd_202 rfl) mt_202 rfl rfl rfl e68 ?_
  refine ey_aload_n (cd_202 rfl) rfl ?_
  refine ey_bipush (cd_202 rfl) (by decide) ?_
  obtain ⟨n69, e70, e⟩ := jbind e
  refine ey_newarr (cd_202 rfl) (by decide) e70 ?_
  obtain ⟨h71, e72, e⟩ := jbind e
  refine ey_putf_r (cd_202 rfl) mt_202 rfl rfl rfl e72 ?_
  refine ey_aload_n (cd_202 rfl) rfl ?_
  refine ey_bipush (cd_202 rfl) (by decide) ?_
  obtain ⟨n73, e74, e⟩ := jbind e
  refine ey_newarr (cd_202 rfl) (by decide) e74 ?_
  obtain ⟨h75, e76, e⟩ := jbind e
  refine ey_putf_r (cd_202 rfl) mt_202 rfl rfl rfl e76 ?_
  refine ey_aload_n (cd_202 rfl) rfl ?_
  refine ey_bipush (cd_202 rfl) (by decide) ?_
  obtain ⟨n77, e78, e⟩ := jbind e
  refine ey_newarr (cd_202 rfl) (by decide) e78 ?_
  obtain ⟨h79, e80, e⟩ := jbind e
  refine ey_putf_r (cd_202 rfl) mt_202 rfl rfl rfl e80 ?_
  refine ey_aload_n (cd_202 rfl) rfl ?_
  refine ey_bipush (cd_202 rfl) (by decide) ?_
  obtain ⟨n81, e82, e⟩ := jbind e
  refine ey_newarr (cd_202 rfl) (by decide) e82 ?_
  obtain ⟨h83, e84, e⟩ := jbind e
  refine ey_putf_r (cd_202 rfl) mt_202 rfl rfl rfl e84 ?_
  refine ey_aload_n (cd_202 rfl) rfl ?_
  refine ey_bipush (cd_202 rfl) (by decide) ?_
  obtain ⟨n85, e86, e⟩ := jbind e
  refine ey_newarr (cd_202 rfl) (by decide) e86 ?_
  obtain ⟨h87, e88, e⟩ := jbind e
  refine ey_putf_r (cd_202 rfl) mt_202 rfl rfl rfl e88 ?_
  refine ey_aload_n (cd_202 rfl) rfl ?_
  refine ey_bipush (cd_202 rfl) (by decide) ?_
  obtain ⟨n89, e90, e⟩ := jbind e
  refine ey_newarr (cd_202 rfl) (by decide) e90 ?_
  obtain ⟨h91, e92, e⟩ := jbind e
  refine ey_putf_r (cd_202 rfl) mt_202 rfl rfl rfl e92 ?_
  refine ey_aload_n (cd_202 rfl) rfl ?_
  refine ey_bipush (cd_202 rfl) (by decide) ?_
  obtain ⟨n93, e94, e⟩ := jbind e
  refine ey_newarr (cd_202 rfl) (by decide) e94 ?_
  obtain ⟨h95, e96, e⟩ := jbind e
  refine ey_putf_r (cd_202 rfl) mt_202 rfl rfl rfl e96 ?_
  refine ey_aload_n (cd_202 rfl) rfl ?_
  refine ey_bipush (cd_202 rfl) (by decide) ?_
  obtain ⟨n97, e98, e⟩ := jbind e
  refine ey_newarr (cd_202 rfl) (by decide) e98 ?_
  obtain ⟨h99, e100, e⟩ := jbind e
  refine ey_putf_r (cd_202 rfl) mt_202 rfl rfl rfl e100 ?_
  refine ey_aload_n (cd_202 rfl) rfl ?_
  refine ey_bipush (cd_202 rfl) (by decide) ?_
  obtain ⟨n101, e102, e⟩ := jbind e
  refine ey_newarr (cd_202 rfl) (by decide) e102 ?_
  obtain ⟨h103, e104, e⟩ := jbind e
  refine ey_putf_r (cd_202 rfl) mt_202 rfl rfl rfl e104 ?_
  refine ey_aload_n (cd_202 rfl) rfl ?_
  refine ey_ldc (z := 82944) (cd_202 rfl) mt_202 rfl (by decide) ?_
  obtain ⟨n105, e106, e⟩ := jbind e
  refine ey_newarr (cd_202 rfl) (by decide) e106 ?_
  obtain ⟨h107, e108, e⟩ := jbind e
  refine ey_putf_r (cd_202 rfl) mt_202 rfl rfl rfl e108 ?_
  refine ey_aload_n (cd_202 rfl) rfl ?_
  refine ey_ldc (z := 82944) (cd_202 rfl) mt_202 rfl (by decide) ?_
  obtain ⟨n109, e110, e⟩ := jbind e
  refine ey_newarr (cd_202 rfl) (by decide) e110 ?_
  obtain ⟨h111, e112, e⟩ := jbind e
  refine ey_putf_r (cd_202 rfl) mt_202 rfl rfl rfl e112 ?_
  refine ey_aload_n (cd_202 rfl) rfl ?_
  refine ey_sipush (cd_202 rfl) (by decide) ?_
  obtain ⟨n113, e114, e⟩ := jbind e
  refine ey_newarr (cd_202 rfl) (by decide) e114 ?_
  obtain ⟨h115, e116, e⟩ := jbind e
  refine ey_putf_r (cd_202 rfl) mt_202 rfl rfl rfl e116 ?_
  refine ey_aload_n (cd_202 rfl) rfl ?_
  refine ey_bipush (cd_202 rfl) (by decide) ?_
  obtain ⟨n117, e118, e⟩ := jbind e
  refine ey_newarr (cd_202 rfl) (by decide) e118 ?_
  obtain ⟨h119, e120, e⟩ := jbind e
  refine ey_putf_r (cd_202 rfl) mt_202 rfl rfl rfl e120 ?_
  refine ey_aload_n (cd_202 rfl) rfl ?_
  refine ey_bipush (cd_202 rfl) (by decide) ?_
  obtain ⟨n121, e122, e⟩ := jbind e
  refine ey_newarr (cd_202 rfl) (by decide) e122 ?_
  obtain ⟨h123, e124, e⟩ := jbind e
  refine ey_putf_r (cd_202 rfl) mt_202 rfl rfl rfl e124 ?_
  refine ey_aload_n (cd_202 rfl) rfl ?_
  refine ey_bipush (cd_202 rfl) (by decide) ?_
  obtain ⟨n125, e126, e⟩ := jbind e
  refine ey_newarr (cd_202 rfl) (by decide) e126 ?_
  obtain ⟨h127, e128, e⟩ := jbind e
  refine ey_putf_r (cd_202 rfl) mt_202 rfl rfl rfl e128 ?_
  refine ey_aload_n (cd_202 rfl) rfl ?_
  refine ey_bipush (cd_202 rfl) (by decide) ?_
  obtain ⟨n129, e130, e⟩ := jbind e
  refine ey_newarr (cd_202 rfl) (by decide) e130 ?_
  obtain ⟨h131, e132, e⟩ := jbind e
  refine ey_putf_r (cd_202 rfl) mt_202 rfl rfl rfl e132 ?_
  refine ey_aload_n (cd_202 rfl) rfl ?_
  refine ey_bipush (cd_202 rfl) (by decide) ?_
  obtain ⟨n133, e134, e⟩ := jbind e
  refine ey_newarr (cd_202 rfl) (by decide) e134 ?_
  obtain ⟨h135, e136, e⟩ := jbind e
  refine ey_putf_r (cd_202 rfl) mt_202 rfl rfl rfl e136 ?_
  refine ey_aload_n (cd_202 rfl) rfl ?_
  refine ey_bipush (cd_202 rfl) (by decide) ?_
  obtain ⟨n137, e138, e⟩ := jbind e
  refine ey_newarr (cd_202 rfl) (by decide) e138 ?_
  obtain ⟨h139, e140, e⟩ := jbind e
  refine ey_putf_r (cd_202 rfl) mt_202 rfl rfl rfl e140 ?_
  refine ey_aload_n (cd_202 rfl) rfl ?_
  refine ey_bipush (cd_202 rfl) (by decide) ?_
  obtain ⟨n141, e142, e⟩ := jbind e
  refine ey_newarr (cd_202 rfl) (by decide) e142 ?_
  obtain ⟨h143, e144, e⟩ := jbind e
  refine ey_putf_r (cd_202 rfl) mt_202 rfl rfl rfl e144 ?_
  refine ey_aload_n (cd_202 rfl) rfl ?_
  refine ey_sipush (cd_202 rfl) (by decide) ?_
  obtain ⟨n145, e146, e⟩ := jbind e
  refine ey_newarr (cd_202 rfl) (by decide) e146 ?_
  obtain ⟨h147, e148, e⟩ := jbind e
  refine ey_putf_r (cd_202 rfl) mt_202 rfl rfl rfl e148 ?_
  refine ey_aload_n (cd_202 rfl) rfl ?_
  refine ey_sipush (cd_202 rfl) (by decide) ?_
  obtain ⟨n149, e150, e⟩ := jbind e
  refine ey_newarr (cd_202 rfl) (by decide) e150 ?_
  obtain ⟨h151, e152, e⟩ := jbind e
  refine ey_putf_r (cd_202 rfl) mt_202 rfl rfl rfl e152 ?_
  refine ey_aload_n (cd_202 rfl) rfl ?_
  refine ey_sipush (cd_202 rfl) (by decide) ?_
  obtain ⟨n153, e154, e⟩ := jbind e
  refine ey_newarr (cd_202 rfl) (by decide) e154 ?_
  obtain ⟨h155, e156, e⟩ := jbind e
  refine ey_putf_r (cd_202 rfl) mt_202 rfl rfl rfl e156 ?_
  refine ey_aload_n (cd_202 rfl) rfl ?_
  refine ey_sipush (cd_202 rfl) (by decide) ?_
  obtain ⟨n157, e158, e⟩ := jbind e
  refine ey_newarr (cd_202 rfl) (by decide) e158 ?_
  obtain ⟨h159, e160, e⟩ := jbind e
  refine ey_putf_r (cd_202 rfl) mt_202 rfl rfl rfl e160 ?_
  refine ey_aload_n (cd_202 rfl) rfl ?_
  refine ey_ldc (z := 60000) (cd_202 rfl) mt_202 rfl (by decide) ?_
  obtain ⟨n161, e162, e⟩ := jbind e
  refine ey_newarr (cd_202 rfl) (by decide) e162 ?_
  obtain ⟨h163, e164, e⟩ := jbind e
  refine ey_putf_r (cd_202 rfl) mt_202 rfl rfl rfl e164 ?_
  refine ey_aload_n (cd_202 rfl) rfl ?_
  refine ey_bipush (cd_202 rfl) (by decide) ?_
  obtain ⟨n165, e166, e⟩ := jbind e
  refine ey_newarr (cd_202 rfl) (by decide) e166 ?_
  obtain ⟨h167, e168, e⟩ := jbind e
  refine ey_putf_r (cd_202 rfl) mt_202 rfl rfl rfl e168 ?_
  refine ey_aload_n (cd_202 rfl) rfl ?_
  refine ey_bipush (cd_202 rfl) (by decide) ?_
  obtain ⟨n169, e170, e⟩ := jbind e
  refine ey_newarr (cd_202 rfl) (by decide) e170 ?_
  obtain ⟨h171, e172, e⟩ := jbind e
  refine ey_putf_r (cd_202 rfl) mt_202 rfl rfl rfl e172 ?_
  refine ey_aload_n (cd_202 rfl) rfl ?_
  refine ey_bipush (cd_202 rfl) (by decide) ?_
  obtain ⟨n173, e174, e⟩ := jbind e
  refine ey_newarr (cd_202 rfl) (by decide) e174 ?_
  obtain ⟨h175, e176, e⟩ := jbind e
  refine ey_putf_r (cd_202 rfl) mt_202 rfl rfl rfl e176 ?_
  refine ey_aload_n (cd_202 rfl) rfl ?_
  refine ey_bipush (cd_202 rfl) (by decide) ?_
  obtain ⟨n177, e178, e⟩ := jbind e
  refine ey_newarr (cd_202 rfl) (by decide) e178 ?_
  obtain ⟨h179, e180, e⟩ := jbind e
  refine ey_putf_r (cd_202 rfl) mt_202 rfl rfl rfl e180 ?_
  refine ey_aload_n (cd_202 rfl) rfl ?_
  refine ey_sipush (cd_202 rfl) (by decide) ?_
  obtain ⟨n181, e182, e⟩ := jbind e
  refine ey_newarr (cd_202 rfl) (by decide) e182 ?_
  obtain ⟨h183, e184, e⟩ := jbind e
  refine ey_putf_r (cd_202 rfl) mt_202 rfl rfl rfl e184 ?_
  refine ey_aload_n (cd_202 rfl) rfl ?_
  refine ey_bipush (cd_202 rfl) (by decide) ?_
  obtain ⟨n185, e186, e⟩ := jbind e
  refine ey_newarr (cd_202 rfl) (by decide) e186 ?_
  obtain ⟨h187, e188, e⟩ := jbind e
  refine ey_putf_r (cd_202 rfl) mt_202 rfl rfl rfl e188 ?_
  refine ey_aload_n (cd_202 rfl) rfl ?_
  refine ey_bipush (cd_202 rfl) (by decide) ?_
  obtain ⟨n189, e190, e⟩ := jbind e
  refine ey_newarr (cd_202 rfl) (by decide) e190 ?_
  obtain ⟨h191, e192, e⟩ := jbind e
  refine ey_putf_r (cd_202 rfl) mt_202 rfl rfl rfl e192 ?_
  refine ey_aload_n (cd_202 rfl) rfl ?_
  refine ey_sipush (cd_202 rfl) (by decide) ?_
  obtain ⟨n193, e194, e⟩ := jbind e
  refine ey_newarr (cd_202 rfl) (by decide) e194 ?_
  obtain ⟨h195, e196, e⟩ := jbind e
  refine ey_putf_r (cd_202 rfl) mt_202 rfl rfl rfl e196 ?_
  refine ey_aload_n (cd_202 rfl) rfl ?_
  refine ey_bipush (cd_202 rfl) (by decide) ?_
  obtain ⟨n197, e198, e⟩ := jbind e
  refine ey_newarr (cd_202 rfl) (by decide) e198 ?_
  obtain ⟨h199, e200, e⟩ := jbind e
  refine ey_putf_r (cd_202 rfl) mt_202 rfl rfl rfl e200 ?_
  refine ey_aload_n (cd_202 rfl) rfl ?_
  refine ey_bipush (cd_202 rfl) (by decide) ?_
  obtain ⟨n201, e202, e⟩ := jbind e
  refine ey_newarr (cd_202 rfl) (by decide) e202 ?_
  obtain ⟨h203, e204, e⟩ := jbind e
  refine ey_putf_r (cd_202 rfl) mt_202 rfl rfl rfl e204 ?_
  refine ey_aload_n (cd_202 rfl) rfl ?_
  refine ey_sipush (cd_202 rfl) (by decide) ?_
  obtain ⟨n205, e206, e⟩ := jbind e
  refine ey_newarr (cd_202 rfl) (by decide) e206 ?_
  obtain ⟨h207, e208, e⟩ := jbind e
  refine ey_putf_r (cd_202 rfl) mt_202 rfl rfl rfl e208 ?_
  refine ey_aload_n (cd_202 rfl) rfl ?_
  refine ey_iconst (cd_202 rfl) ?_
  obtain ⟨n209, e210, e⟩ := jbind e
  refine ey_newarr (cd_202 rfl) (by decide) e210 ?_
  obtain ⟨h211, e212, e⟩ := jbind e
  refine ey_putf_r (cd_202 rfl) mt_202 rfl rfl rfl e212 ?_
  refine ey_aload_n (cd_202 rfl) rfl ?_
  refine ey_sipush (cd_202 rfl) (by decide) ?_
  obtain ⟨n213, e214, e⟩ := jbind e
  refine ey_newarr (cd_202 rfl) (by decide) e214 ?_
  obtain ⟨h215, e216, e⟩ := jbind e
  refine ey_putf_r (cd_202 rfl) mt_202 rfl rfl rfl e216 ?_
  refine ey_aload_n (cd_202 rfl) rfl ?_
  refine ey_sipush (cd_202 rfl) (by decide) ?_
  obtain ⟨n217, e218, e⟩ := jbind e
  refine ey_newarr (cd_202 rfl) (by decide) e218 ?_
  obtain ⟨h219, e220, e⟩ := jbind e
  refine ey_putf_r (cd_202 rfl) mt_202 rfl rfl rfl e220 ?_
  refine ey_aload_n (cd_202 rfl) rfl ?_
  refine ey_sipush (cd_202 rfl) (by decide) ?_
  obtain ⟨n221, e222, e⟩ := jbind e
  refine ey_newarr (cd_202 rfl) (by decide) e222 ?_
  obtain ⟨h223, e224, e⟩ := jbind e
  refine ey_putf_r (cd_202 rfl) mt_202 rfl rfl rfl e224 ?_
  refine ey_aload_n (cd_202 rfl) rfl ?_
  refine ey_bipush (cd_202 rfl) (by decide) ?_
  obtain ⟨n225, e226, e⟩ := jbind e
  refine ey_newarr (cd_202 rfl) (by decide) e226 ?_
  obtain ⟨h227, e228, e⟩ := jbind e
  refine ey_putf_r (cd_202 rfl) mt_202 rfl rfl rfl e228 ?_
  refine ey_aload_n (cd_202 rfl) rfl ?_
  refine ey_bipush (cd_202 rfl) (by decide) ?_
  obtain ⟨n229, e230, e⟩ := jbind e
  refine ey_newarr (cd_202 rfl) (by decide) e230 ?_
  obtain ⟨h231, e232, e⟩ := jbind e
  refine ey_putf_r (cd_202 rfl) mt_202 rfl rfl rfl e232 ?_
  refine ey_aload_n (cd_202 rfl) rfl ?_
  refine ey_bipush (cd_202 rfl) (by decide) ?_
  obtain ⟨n233, e234, e⟩ := jbind e
  refine ey_newarr (cd_202 rfl) (by decide) e234 ?_
  obtain ⟨h235, e236, e⟩ := jbind e
  refine ey_putf_r (cd_202 rfl) mt_202 rfl rfl rfl e236 ?_
  refine ey_aload_n (cd_202 rfl) rfl ?_
  refine ey_bipush (cd_202 rfl) (by decide) ?_
  obtain ⟨n237, e238, e⟩ := jbind e
  refine ey_newarr (cd_202 rfl) (by decide) e238 ?_
  obtain ⟨h239, e240, e⟩ := jbind e
  refine ey_putf_r (cd_202 rfl) mt_202 rfl rfl rfl e240 ?_
  refine ey_aload_n (cd_202 rfl) rfl ?_
  refine ey_bipush (cd_202 rfl) (by decide) ?_
  obtain ⟨n241, e242, e⟩ := jbind e
  refine ey_newarr (cd_202 rfl) (by decide) e242 ?_
  obtain ⟨h243, e244, e⟩ := jbind e
  refine ey_putf_r (cd_202 rfl) mt_202 rfl rfl rfl e244 ?_
  refine ey_aload_n (cd_202 rfl) rfl ?_
  refine ey_bipush (cd_202 rfl) (by decide) ?_
  obtain ⟨n245, e246, e⟩ := jbind e
  refine ey_newarr (cd_202 rfl) (by decide) e246 ?_
  obtain ⟨h247, e248, e⟩ := jbind e
  refine ey_putf_r (cd_202 rfl) mt_202 rfl rfl rfl e248 ?_
  refine ey_aload_n (cd_202 rfl) rfl ?_
  refine ey_bipush (cd_202 rfl) (by decide) ?_
  obtain ⟨n249, e250, e⟩ := jbind e
  refine ey_newarr (cd_202 rfl) (by decide) e250 ?_
  obtain ⟨h251, e252, e⟩ := jbind e
  refine ey_putf_r (cd_202 rfl) mt_202 rfl rfl rfl e252 ?_
  refine ey_aload_n (cd_202 rfl) rfl ?_
  refine ey_sipush (cd_202 rfl) (by decide) ?_
  obtain ⟨n253, e254, e⟩ := jbind e
  refine ey_newarr (cd_202 rfl) (by decide) e254 ?_
  obtain ⟨h255, e256, e⟩ := jbind e
  refine ey_putf_r (cd_202 rfl) mt_202 rfl rfl rfl e256 ?_
  refine ey_aload_n (cd_202 rfl) rfl ?_
  refine ey_sipush (cd_202 rfl) (by decide) ?_
  obtain ⟨n257, e258, e⟩ := jbind e
  refine ey_newarr (cd_202 rfl) (by decide) e258 ?_
  obtain ⟨h259, e260, e⟩ := jbind e
  refine ey_putf_r (cd_202 rfl) mt_202 rfl rfl rfl e260 ?_
  refine ey_aload_n (cd_202 rfl) rfl ?_
  refine ey_sipush (cd_202 rfl) (by decide) ?_
  obtain ⟨n261, e262, e⟩ := jbind e
  refine ey_newarr (cd_202 rfl) (by decide) e262 ?_
  obtain ⟨h263, e264, e⟩ := jbind e
  refine ey_putf_r (cd_202 rfl) mt_202 rfl rfl rfl e264 ?_
  refine ey_aload_n (cd_202 rfl) rfl ?_
  refine ey_sipush (cd_202 rfl) (by decide) ?_
  obtain ⟨n265, e266, e⟩ := jbind e
  refine ey_newarr (cd_202 rfl) (by decide) e266 ?_
  obtain ⟨h267, e268, e⟩ := jbind e
  refine ey_putf_r (cd_202 rfl) mt_202 rfl rfl rfl e268 ?_
  refine ey_aload_n (cd_202 rfl) rfl ?_
  refine ey_sipush (cd_202 rfl) (by decide) ?_
  obtain ⟨n269, e270, e⟩ := jbind e
  refine ey_newarr (cd_202 rfl) (by decide) e270 ?_
  obtain ⟨h271, e272, e⟩ := jbind e
  refine ey_putf_r (cd_202 rfl) mt_202 rfl rfl rfl e272 ?_
  refine ey_aload_n (cd_202 rfl) rfl ?_
  refine ey_iconst (cd_202 rfl) ?_
  obtain ⟨n273, e274, e⟩ := jbind e
  refine ey_newarr (cd_202 rfl) (by decide) e274 ?_
  obtain ⟨h275, e276, e⟩ := jbind e
  refine ey_putf_r (cd_202 rfl) mt_202 rfl rfl rfl e276 ?_
  refine ey_aload_n (cd_202 rfl) rfl ?_
  refine ey_iconst (cd_202 rfl) ?_
  obtain ⟨n277, e278, e⟩ := jbind e
  refine ey_newarr (cd_202 rfl) (by decide) e278 ?_
  obtain ⟨h279, e280, e⟩ := jbind e
  refine ey_putf_r (cd_202 rfl) mt_202 rfl rfl rfl e280 ?_
  refine ey_aload_n (cd_202 rfl) rfl ?_
  refine ey_iconst (cd_202 rfl) ?_
  obtain ⟨n281, e282, e⟩ := jbind e
  refine ey_newarr (cd_202 rfl) (by decide) e282 ?_
  obtain ⟨h283, e284, e⟩ := jbind e
  refine ey_putf_r (cd_202 rfl) mt_202 rfl rfl rfl e284 ?_
  refine ey_aload_n (cd_202 rfl) rfl ?_
  refine ey_iconst (cd_202 rfl) ?_
  obtain ⟨n285, e286, e⟩ := jbind e
  refine ey_newarr (cd_202 rfl) (by decide) e286 ?_
  obtain ⟨h287, e288, e⟩ := jbind e
  refine ey_putf_r (cd_202 rfl) mt_202 rfl rfl rfl e288 ?_
  refine ey_aload_n (cd_202 rfl) rfl ?_
  refine ey_iconst (cd_202 rfl) ?_
  obtain ⟨n289, e290, e⟩ := jbind e
  refine ey_newarr (cd_202 rfl) (by decide) e290 ?_
  obtain ⟨h291, e292, e⟩ := jbind e
  refine ey_putf_r (cd_202 rfl) mt_202 rfl rfl rfl e292 ?_
  refine ey_aload_n (cd_202 rfl) rfl ?_
  refine ey_iconst (cd_202 rfl) ?_
  obtain ⟨n293, e294, e⟩ := jbind e
  refine ey_newarr (cd_202 rfl) (by decide) e294 ?_
  obtain ⟨h295, e296, e⟩ := jbind e
  refine ey_putf_r (cd_202 rfl) mt_202 rfl rfl rfl e296 ?_
  refine ey_aload_n (cd_202 rfl) rfl ?_
  refine ey_iconst (cd_202 rfl) ?_
  obtain ⟨n297, e298, e⟩ := jbind e
  refine ey_newarr (cd_202 rfl) (by decide) e298 ?_
  obtain ⟨h299, e300, e⟩ := jbind e
  refine ey_putf_r (cd_202 rfl) mt_202 rfl rfl rfl e300 ?_
  refine ey_aload_n (cd_202 rfl) rfl ?_
  refine ey_iconst (cd_202 rfl) ?_
  obtain ⟨n301, e302, e⟩ := jbind e
  refine ey_newarr (cd_202 rfl) (by decide) e302 ?_
  obtain ⟨h303, e304, e⟩ := jbind e
  refine ey_putf_r (cd_202 rfl) mt_202 rfl rfl rfl e304 ?_
  refine ey_aload_n (cd_202 rfl) rfl ?_
  refine ey_iconst (cd_202 rfl) ?_
  obtain ⟨n305, e306, e⟩ := jbind e
  refine ey_newarr (cd_202 rfl) (by decide) e306 ?_
  obtain ⟨h307, e308, e⟩ := jbind e
  refine ey_putf_r (cd_202 rfl) mt_202 rfl rfl rfl e308 ?_
  refine ey_aload_n (cd_202 rfl) rfl ?_
  refine ey_iconst (cd_202 rfl) ?_
  obtain ⟨n309, e310, e⟩ := jbind e
  refine ey_newarr (cd_202 rfl) (by decide) e310 ?_
  obtain ⟨h311, e312, e⟩ := jbind e
  refine ey_putf_r (cd_202 rfl) mt_202 rfl rfl rfl e312 ?_
  refine ey_aload_n (cd_202 rfl) rfl ?_
  refine ey_sipush (cd_202 rfl) (by decide) ?_
  obtain ⟨n313, e314, e⟩ := jbind e
  refine ey_newarr (cd_202 rfl) (by decide) e314 ?_
  obtain ⟨h315, e316, e⟩ := jbind e
  refine ey_putf_r (cd_202 rfl) mt_202 rfl rfl rfl e316 ?_
  refine ey_iconst (cd_202 rfl) ?_
  refine ey_istore_n (cd_202 rfl) mt_202 rfl ?_
  obtain ⟨x324, e325, e⟩ := jbind e
  refine jk_202_l651 e325 ?_ (jup (jlf (jla 0 [jR (some this)])) 1 (jI 0)) (jup_pr (lv := (jlf (jla 0 [jR (some this)]))) (j := 0) (v := jI 0) (z := (some this)) rfl) rfl
  intro lv 
  cases e
  exact ey_retv (cd_202 rfl) mt_202 rfl
