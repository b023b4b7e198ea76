theorem cd_181 {pc : Nat} {i : Instr × Nat} (h : mm_lk mm_c181 pc = some i) : mm_cd 181 pc = some i := h
theorem mt_181 : mm_MT 181 = (11, 2, some .int, 1, 0, []) := rfl
def jd_181 (this : Nat) (p0 : Int) (h : jH) : Option ((Int ⊕ Nat) × jH) :=
  jtb (jd_185 p0 5 h) fun v3 h5 => (if (jw p0) = 0 then ((jgi h5 this 11 1).bind fun v7 => some (.inl v7, h5)) else (if (jw p0) = 1 then ((jgi h5 this 11 8).bind fun v10 => some (.inl v10, h5)) else (if (jw p0) = 2 then ((jgi h5 this 11 12).bind fun v13 => some (.inl v13, h5)) else (if (jw p0) = 3 then ((jgi h5 this 11 6).bind fun v16 => some (.inl v16, h5)) else (if (jw p0) = 4 then ((jgi h5 this 11 10).bind fun v19 => some (.inl v19, h5)) else ((jgi h5 this 11 3).bind fun v21 => some (.inl v21, h5)))))))
set_option maxRecDepth 100000 in
theorem ok_181 {L : Nat} {xs : Nat → Int32} {this : Nat} {p0 : Int} {h : jH} {o : ((Int ⊕ Nat) × jH)} (e : jd_181 this p0 h = some o) : mm_Runs (mm_xt L xs) 2 181 ([jR (some this), jI p0].map jcv) (jaH h) (jres_i o) := by
  refine ey_run0 _ mt_181 (jsl_s rfl) ?_
  unfold jd_181 at e
  refine ey_iload_n (cd_181 rfl) rfl ?_
  refine ey_iconst (cd_181 rfl) ?_
  rcases jtb_c e with ⟨v3, h5, e2, e⟩ | ⟨E4, h5, e2, e⟩
  rotate_left
  · cases e
    exact ey_csX (s0 := [jI 5, jI p0]) (s1 := []) (cd_181 rfl) mt_181 rfl mt_185 rfl rfl rfl (jsml_s rfl) (ok_185 e2)
  refine ey_cs (s0 := [jI 5, jI p0]) (s1 := []) (st' := []) (cd_181 rfl) mt_181 mt_185 rfl (by decide) rfl rfl (jsml_s rfl) rfl (ok_185 e2) ?_
  refine ey_iload_n (cd_181 rfl) rfl ?_
  by_cases q6 : (jw p0) = 0
  · rw [if_pos q6] at e
    refine ey_tsw (cd_181 rfl) q6 (by decide) rfl rfl ?_
    refine ey_aload_n (cd_181 rfl) rfl ?_
    obtain ⟨v7, e8, e⟩ := jbind e
    refine ey_getf_i (cd_181 rfl) mt_181 rfl rfl rfl e8 ?_
    cases e
    exact ey_reti (cd_181 rfl) mt_181 rfl
  · rw [if_neg q6] at e
    by_cases q9 : (jw p0) = 1
    · rw [if_pos q9] at e
      refine ey_tsw (cd_181 rfl) q9 (by decide) rfl rfl ?_
      refine ey_aload_n (cd_181 rfl) rfl ?_
      obtain ⟨v10, e11, e⟩ := jbind e
      refine ey_getf_i (cd_181 rfl) mt_181 rfl rfl rfl e11 ?_
      cases e
      exact ey_reti (cd_181 rfl) mt_181 rfl
    · rw [if_neg q9] at e
      by_cases q12 : (jw p0) = 2
      · rw [if_pos q12] at e
        refine ey_tsw (cd_181 rfl) q12 (by decide) rfl rfl ?_
        refine ey_aload_n (cd_181 rfl) rfl ?_
        obtain ⟨v13, e14, e⟩ := jbind e
        refine ey_getf_i (cd_181 rfl) mt_181 rfl rfl rfl e14 ?_
        cases e
        exact ey_reti (cd_181 rfl) mt_181 rfl
      · rw [if_neg q12] at e
        by_cases q15 : (jw p0) = 3
        · rw [if_pos q15] at e
          refine ey_tsw (cd_181 rfl) q15 (by decide) rfl rfl ?_
          refine ey_aload_n (cd_181 rfl) rfl ?_
          obtain ⟨v16, e17, e⟩ := jbind e
          refine ey_getf_i (cd_181 rfl) mt_181 rfl rfl rfl e17 ?_
          cases e
          exact ey_reti (cd_181 rfl) mt_181 rfl
        · rw [if_neg q15] at e
          by_cases q18 : (jw p0) = 4
          · rw [if_pos q18] at e
            refine ey_tsw (cd_181 rfl) q18 (by decide) rfl rfl ?_
            refine ey_aload_n (cd_181 rfl) rfl ?_
            obtain ⟨v19, e20, e⟩ := jbind e
            refine ey_getf_i (cd_181 rfl) mt_181 rfl rfl rfl e20 ?_
            cases e
            exact ey_reti (cd_181 rfl) mt_181 rfl
          · rw [if_neg q18] at e
            refine ey_tsw_d (cd_181 rfl) (by omega) rfl ?_
            refine ey_aload_n (cd_181 rfl) rfl ?_
            obtain ⟨v21, e22, e⟩ := jbind e
            refine ey_getf_i (cd_181 rfl) mt_181 rfl rfl rfl e22 ?_
            cases e
            exact ey_reti (cd_181 rfl) mt_181 rfl
theorem cd_202 {pc : Nat} {i : Instr × Nat} (h : mm_lk mm_c202 pc = some i) : mm_cd 202 pc = some i := h
theorem mt_202 : mm_MT 202 = (12, 2, none, 0, 2, []) := rfl
def jd_202_s651 (this : Nat) (x1 : Int) (h : jH) : Option ((Int × jH) ⊕ jH) :=
  (if 4 ≤ (jw x1) then some (.inr h) else ((jgr h this 12 105).bind fun r318 => ((r318).bind fun a320 => ((jta h a320 0 x1 (-1)).bind fun h322 => some (.inl ((x1 + 1), h322))))))
set_option maxRecDepth 100000 in
theorem jk_202_s651 {L : Nat} {xs : Nat → Int32} {this : Nat} {x1 : Int} {h : jH} {o : ((Int × jH) ⊕ jH)} {r : mm_R} (e : jd_202_s651 this x1 h = some o) (K : jsm (fun s => (∀ lv : jL, lv 0 = some (jR (some this)) → lv 1 = some (jI s.1) → ey (mm_xt L xs) 0 202 651 lv [] s.2 r)) (fun x => (∀ lv : jL, ey (mm_xt L xs) 0 202 669 lv [] x r)) o) : ∀ lv : jL, lv 0 = some (jR (some this)) → lv 1 = some (jI x1) → ey (mm_xt L xs) 0 202 651 lv [] h r := by
  intro lv f0 f1
  unfold jd_202_s651 at e
  refine ey_iload_n (cd_202 rfl) f1 ?_
  refine ey_iconst (cd_202 rfl) ?_
  by_cases q317 : 4 ≤ (jw x1)
  · rw [if_pos q317] at e
    refine ey_cge (cd_202 rfl) rfl rfl (show jw 4 = 4 from by decide) q317 ?_
    cases e
    exact K lv 
  · rw [if_neg q317] at e
    refine ey_nge (cd_202 rfl) rfl rfl (show jw 4 = 4 from by decide) q317 ?_
    refine ey_aload_n (cd_202 rfl) f0 ?_
    obtain ⟨r318, e319, e⟩ := jbind e
    refine ey_getf_r (cd_202 rfl) mt_202 rfl rfl rfl e319 ?_
    refine ey_iload_n (cd_202 rfl) f1 ?_
    refine ey_iconst (cd_202 rfl) ?_
    obtain ⟨a320, e321, e⟩ := jbind e
    refine ey_rs (s0 := [jI (-1), jI x1, jR r318]) (s1 := [jI (-1), jI x1, jR (some a320)]) (by rw [e321]) ?_
    obtain ⟨h322, e323, e⟩ := jbind e
    refine ey_iast (cd_202 rfl) e323 ?_
    refine ey_iinc (cd_202 rfl) mt_202 rfl f1 ?_
    refine ey_goto (cd_202 rfl) rfl ?_
    cases e
    exact K (jup lv 1 (jI (x1 + 1))) (jup_pr (lv := lv) (j := 0) (v := jI (x1 + 1)) (z := (some this)) f0) rfl
def jd_202_l651 (this : Nat) (x1 : Int) (h : jH) : Option jH :=
  jlp (fun s : (Int × jH) => jd_202_s651 this s.1 s.2) jfu (x1, h)
theorem jk_202_l651 {L : Nat} {xs : Nat → Int32} {this : Nat} {x1 : Int} {h : jH} {x : jH} {r : mm_R} (e : jd_202_l651 this x1 h = some x) (K : (∀ lv : jL, ey (mm_xt L xs) 0 202 669 lv [] x r)) : ∀ lv : jL, lv 0 = some (jR (some this)) → lv 1 = some (jI x1) → ey (mm_xt L xs) 0 202 651 lv [] h r := by
  unfold jd_202_l651 at e
  exact jlp_ok2 (P := fun s => ∀ lv : jL, lv 0 = some (jR (some this)) → lv 1 = some (jI s.1) → ey (mm_xt L xs) 0 202 651 lv [] s.2 r) (Q := fun x => (∀ lv : jL, ey (mm_xt L xs) 0 202 669 lv [] x r)) (fun s q hq hk => jk_202_s651 hq hk) jfu _ x e K
def jd_202 (this : Nat)  (h : jH) : Option jH :=
  ((jna h 0 60).bind fun n1 => ((jpr n1.2 this 12 2 (some n1.1)).bind fun h3 => ((jna h3 0 60).bind fun n5 => ((jpr n5.2 this 12 3 (some n5.1)).bind fun h7 => ((jna h7 0 51840).bind fun n9 => ((jpr n9.2 this 12 4 (some n9.1)).bind fun h11 => ((jna h11 0 4000).bind fun n13 => ((jpr n13.2 this 12 6 (some n13.1)).bind fun h15 => ((jna h15 0 10368).bind fun n17 => ((jpr n17.2 this 12 10 (some n17.1)).bind fun h19 => ((jna h19 0 8).bind fun n21 => ((jta n21.2 n21.1 0 0 25).bind fun h23 => ((jta h23 n21.1 0 1 4).bind fun h25 => ((jta h25 n21.1 0 2 0).bind fun h27 => ((jta h27 n21.1 0 3 2).bind fun h29 => ((jta h29 n21.1 0 4 4).bind fun h31 => ((jta h31 n21.1 0 5 0).bind fun h33 => ((jta h33 n21.1 0 6 1000).bind fun h35 => ((jta h35 n21.1 0 7 0).bind fun h37 => ((jpr h37 this 12 11 (some n21.1)).bind fun h39 => ((jna h39 0 8).bind fun n41 => ((jpr n41.2 this 12 13 (some n41.1)).bind fun h43 => ((jna h43 0 8).bind fun n45 => ((jpr n45.2 this 12 14 (some n45.1)).bind fun h47 => ((jna h47 0 8).bind fun n49 => ((jpr n49.2 this 12 15 (some n49.1)).bind fun h51 => ((jna h51 0 8).bind fun n53 => ((jpr n53.2 this 12 16 (some n53.1)).bind fun h55 => ((jna h55 0 8).bind fun n57 => ((jpr n57.2 this 12 17 (some n57.1)).bind fun h59 => ((jna h59 0 8).bind fun n61 => ((jpr n61.2 this 12 18 (some n61.1)).bind fun h63 => ((jna h63 1 192800).bind fun n65 => ((jpr n65.2 this 12 19 (some n65.1)).bind fun h67 => ((jna h67 0 96).bind fun n69 => ((jpr n69.2 this 12 20 (some n69.1)).bind fun h71 => ((jna h71 0 96).bind fun n73 => ((jpr n73.2 this 12 21 (some n73.1)).bind fun h75 => ((jna h75 0 96).bind fun n77 => ((jpr n77.2 this 12 22 (some n77.1)).bind fun h79 => ((jna h79 0 96).bind fun n81 => ((jpr n81.2 this 12 23 (some n81.1)).bind fun h83 => ((jna h83 0 96).bind fun n85 => ((jpr n85.2 this 12 24 (some n85.1)).bind fun h87 => ((jna h87 2 96).bind fun n89 => ((jpr n89.2 this 12 25 (some n89.1)).bind fun h91 => ((jna h91 0 96).bind fun n93 => ((jpr n93.2 this 12 26 (some n93.1)).bind fun h95 => ((jna h95 0 96).bind fun n97 => ((jpr n97.2 this 12 27 (some n97.1)).bind fun h99 => ((jna h99 2 96).bind fun n101 => ((jpr n101.2 this 12 28 (some n101.1)).bind fun h103 => ((jna h103 0 82944).bind fun n105 => ((jpr n105.2 this 12 29 (some n105.1)).bind fun h107 => ((jna h107 2 82944).bind fun n109 => ((jpr n109.2 this 12 30 (some n109.1)).bind fun h111 => ((jna h111 0 6048).bind fun n113 => ((jpr n113.2 this 12 31 (some n113.1)).bind fun h115 => ((jna h115 0 12).bind fun n117 => ((jpr n117.2 this 12 37 (some n117.1)).bind fun h119 => ((jna h119 0 12).bind fun n121 => ((jpr n121.2 this 12 38 (some n121.1)).bind fun h123 => ((jna h123 0 12).bind fun n125 => ((jpr n125.2 this 12 39 (some n125.1)).bind fun h127 => ((jna h127 0 12).bind fun n129 => ((jpr n129.2 this 12 40 (some n129.1)).bind fun h131 => ((jna h131 0 12).bind fun n133 => ((jpr n133.2 this 12 41 (some n133.1)).bind fun h135 => ((jna h135 0 12).bind fun n137 => ((jpr n137.2 this 12 42 (some n137.1)).bind fun h139 => ((jna h139 0 12).bind fun n141 => ((jpr n141.2 this 12 43 (some n141.1)).bind fun h143 => ((jna h143 0 10368).bind fun n145 => ((jpr n145.2 this 12 44 (some n145.1)).bind fun h147 => ((jna h147 2 10368).bind fun n149 => ((jpr n149.2 this 12 45 (some n149.1)).bind fun h151 => ((jna h151 0 756).bind fun n153 => ((jpr n153.2 this 12 46 (some n153.1)).bind fun h155 => ((jna h155 1 24100).bind fun n157 => ((jpr n157.2 this 12 48 (some n157.1)).bind fun h159 => ((jna h159 1 60000).bind fun n161 => ((jpr n161.2 this 12 54 (some n161.1)).bind fun h163 => ((jna h163 0 96).bind fun n165 => ((jpr n165.2 this 12 55 (some n165.1)).bind fun h167 => ((jna h167 0 96).bind fun n169 => ((jpr n169.2 this 12 56 (some n169.1)).bind fun h171 => ((jna h171 0 16).bind fun n173 => ((jpr n173.2 this 12 57 (some n173.1)).bind fun h175 => ((jna h175 0 16).bind fun n177 => ((jpr n177.2 this 12 58 (some n177.1)).bind fun h179 => ((jna h179 0 576).bind fun n181 => ((jpr n181.2 this 12 66 (some n181.1)).bind fun h183 => ((jna h183 0 24).bind fun n185 => ((jpr n185.2 this 12 67 (some n185.1)).bind fun h187 => ((jna h187 0 24).bind fun n189 => ((jpr n189.2 this 12 68 (some n189.1)).bind fun h191 => ((jna h191 0 10368).bind fun n193 => ((jpr n193.2 this 12 70 (some n193.1)).bind fun h195 => ((jna h195 0 96).bind fun n197 => ((jpr n197.2 this 12 71 (some n197.1)).bind fun h199 => ((jna h199 0 7).bind fun n201 => ((jpr n201.2 this 12 72 (some n201.1)).bind fun h203 => ((jna h203 1 4000).bind fun n205 => ((jpr n205.2 this 12 73 (some n205.1)).bind fun h207 => ((jna h207 0 4).bind fun n209 => ((jpr n209.2 this 12 78 (some n209.1)).bind fun h211 => ((jna h211 0 577).bind fun n213 => ((jpr n213.2 this 12 79 (some n213.1)).bind fun h215 => ((jna h215 0 576).bind fun n217 => ((jpr n217.2 this 12 80 (some n217.1)).bind fun h219 => ((jna h219 0 576).bind fun n221 => ((jpr n221.2 this 12 81 (some n221.1)).bind fun h223 => ((jna h223 0 13).bind fun n225 => ((jpr n225.2 this 12 84 (some n225.1)).bind fun h227 => ((jna h227 0 12).bind fun n229 => ((jpr n229.2 this 12 85 (some n229.1)).bind fun h231 => ((jna h231 0 8).bind fun n233 => ((jpr n233.2 this 12 87 (some n233.1)).bind fun h235 => ((jna h235 0 8).bind fun n237 => ((jpr n237.2 this 12 88 (some n237.1)).bind fun h239 => ((jna h239 0 8).bind fun n241 => ((jpr n241.2 this 12 89 (some n241.1)).bind fun h243 => ((jna h243 2 12).bind fun n245 => ((jpr n245.2 this 12 90 (some n245.1)).bind fun h247 => ((jna h247 0 8).bind fun n249 => ((jpr n249.2 this 12 93 (some n249.1)).bind fun h251 => ((jna h251 0 3200).bind fun n253 => ((jpr n253.2 this 12 94 (some n253.1)).bind fun h255 => ((jna h255 0 3200).bind fun n257 => ((jpr n257.2 this 12 95 (some n257.1)).bind fun h259 => ((jna h259 0 400).bind fun n261 => ((jpr n261.2 this 12 99 (some n261.1)).bind fun h263 => ((jna h263 0 400).bind fun n265 => ((jpr n265.2 this 12 100 (some n265.1)).bind fun h267 => ((jna h267 0 420).bind fun n269 => ((jpr n269.2 this 12 104 (some n269.1)).bind fun h271 => ((jna h271 0 4).bind fun n273 => ((jpr n273.2 this 12 105 (some n273.1)).bind fun h275 => ((jna h275 0 4).bind fun n277 => ((jpr n277.2 this 12 106 (some n277.1)).bind fun h279 => ((jna h279 0 4).bind fun n281 => ((jpr n281.2 this 12 107 (some n281.1)).bind fun h283 => ((jna h283 0 4).bind fun n285 => ((jpr n285.2 this 12 108 (some n285.1)).bind fun h287 => ((jna h287 0 4).bind fun n289 => ((jpr n289.2 this 12 109 (some n289.1)).bind fun h291 => ((jna h291 0 4).bind fun n293 => ((jpr n293.2 this 12 110 (some n293.1)).bind fun h295 => ((jna h295 2 4).bind fun n297 => ((jpr n297.2 this 12 111 (some n297.1)).bind fun h299 => ((jna h299 0 4).bind fun n301 => ((jpr n301.2 this 12 112 (some n301.1)).bind fun h303 => ((jna h303 0 4).bind fun n305 => ((jpr n305.2 this 12 113 (some n305.1)).bind fun h307 => ((jna h307 0 4).bind fun n309 => ((jpr n309.2 this 12 114 (some n309.1)).bind fun h311 => ((jna h311 0 3456).bind fun n313 => ((jpr n313.2 this 12 115 (some n313.1)).bind fun h315 => ((jd_202_l651 this 0 h315).bind fun x324 => some x324)))))))))))))))))))))))))))))))))))))))))))))))))))))))))))))))))))))))))))))))))))))))))))))))))))))))))))))))))))))))))))))))))))))))))))))))))))))))))))))))
set_option maxRecDepth 100000 in
theorem ok_202 {L : Nat} {xs : Nat → Int32} {this : Nat}  {h : jH} {o : jH} (e : jd_202 this  h = some o) : mm_Runs (mm_xt L xs) 1 202 ([jR (some this)].map jcv) (jaH h) (.inl (none, jaH o)) := by
  refine ey_run0 _ mt_202 (jsl_s rfl) ?_
  unfold jd_202 at e
  refine ey_aload_n (cd_202 rfl) rfl ?_
  refine ey_oini (cd_202 rfl) mt_202 rfl (jsml_s rfl) ?_
  refine ey_aload_n (cd_202 rfl) rfl ?_
  refine ey_bipush (cd_202 rfl) (by decide) ?_
  obtain ⟨n1, e2, e⟩ := jbind e
  refine ey_newarr (cd_202 rfl) (by decide) e2 ?_
  obtain ⟨h3, e4, e⟩ := jbind e
  refine ey_putf_r (cd_202 rfl) mt_202 rfl rfl rfl e4 ?_
  refine ey_aload_n (cd_202 rfl) rfl ?_
  refine ey_bipush (cd_202 rfl) (by decide) ?_
  obtain ⟨n5, e6, e⟩ := jbind e
  refine ey_newarr (cd_202 rfl) (by decide) e6 ?_
  obtain ⟨h7, e8, e⟩ := jbind e
  refine ey_putf_r (cd_202 rfl) mt_202 rfl rfl rfl e8 ?_
  refine ey_aload_n (cd_202 rfl) rfl ?_
  refine ey_ldc (z := 51840) (cd_202 rfl) mt_202 rfl (by decide) ?_
  obtain ⟨n9, e10, e⟩ := jbind e
  refine ey_newarr (cd_202 rfl) (by decide) e10 ?_
  obtain ⟨h11, e12, e⟩ := jbind e
  refine ey_putf_r (cd_202 rfl) mt_202 rfl rfl rfl e12 ?_
  refine ey_aload_n (cd_202 rfl) rfl ?_
  refine ey_sipush (cd_202 rfl) (by decide) ?_
  obtain ⟨n13, e14, e⟩ := jbind e
  refine ey_newarr (cd_202 rfl) (by decide) e14 ?_
  obtain ⟨h15, e16, e⟩ := jbind e
  refine ey_putf_r (cd_202 rfl) mt_202 rfl rfl rfl e16 ?_
  refine ey_aload_n (cd_202 rfl) rfl ?_
  refine ey_sipush (cd_202 rfl) (by decide) ?_
  obtain ⟨n17, e18, e⟩ := jbind e
  refine ey_newarr (cd_202 rfl) (by decide) e18 ?_
  obtain ⟨h19, e20, e⟩ := jbind e
  refine ey_putf_r (cd_202 rfl) mt_202 rfl rfl rfl e20 ?_
  refine ey_aload_n (cd_202 rfl) rfl ?_
  refine ey_bipush (cd_202 rfl) (by decide) ?_
  obtain ⟨n21, e22, e⟩ := jbind e
  refine ey_newarr (cd_202 rfl) (by decide) e22 ?_
  refine ey_dup (cd_202 rfl) rfl ?_
  refine ey_iconst (cd_202 rfl) ?_
  refine ey_bipush (cd_202 rfl) (by decide) ?_
  obtain ⟨h23, e24, e⟩ := jbind e
  refine ey_iast (cd_202 rfl) e24 ?_
  refine ey_dup (cd_202 rfl) rfl ?_
  refine ey_iconst (cd_202 rfl) ?_
  refine ey_iconst (cd_202 rfl) ?_
  obtain ⟨h25, e26, e⟩ := jbind e
  refine ey_iast (cd_202 rfl) e26 ?_
  refine ey_dup (cd_202 rfl) rfl ?_
  refine ey_iconst (cd_202 rfl) ?_
  refine ey_iconst (cd_202 rfl) ?_
  obtain ⟨h27, e28, e⟩ := jbind e
  refine ey_iast (cd_202 rfl) e28 ?_
  refine ey_dup (cd_202 rfl) rfl ?_
  refine ey_iconst (cd_202 rfl) ?_
  refine ey_iconst (cd_202 rfl) ?_
  obtain ⟨h29, e30, e⟩ := jbind e
  refine ey_iast (cd_202 rfl) e30 ?_
  refine ey_dup (cd_202 rfl) rfl ?_
  refine ey_iconst (cd_202 rfl) ?_
  refine ey_iconst (cd_202 rfl) ?_
  obtain ⟨h31, e32, e⟩ := jbind e
  refine ey_iast (cd_202 rfl) e32 ?_
  refine ey_dup (cd_202 rfl) rfl ?_
  refine ey_iconst (cd_202 rfl) ?_
  refine ey_iconst (cd_202 rfl) ?_
  obtain ⟨h33, e34, e⟩ := jbind e
  refine ey_iast (cd_202 rfl) e34 ?_
  refine ey_dup (cd_202 rfl) rfl ?_
  refine ey_bipush (cd_202 rfl) (by decide) ?_
  refine ey_sipush (cd_202 rfl) (by decide) ?_
  obtain ⟨h35, e36, e⟩ := jbind e
  refine ey_iast (cd_202 rfl) e36 ?_
  refine ey_dup (cd_202 rfl) rfl ?_
  refine ey_bipush (cd_202 rfl) (by decide) ?_
  refine ey_iconst (cd_202 rfl) ?_
  obtain ⟨h37, e38, e⟩ := jbind e
  refine ey_iast (cd_202 rfl) e38 ?_
  obtain ⟨h39, e40, e⟩ := jbind e
  refine ey_putf_r (cd_202 rfl) mt_202 rfl rfl rfl e40 ?_
  refine ey_aload_n (cd_202 rfl) rfl ?_
  refine ey_bipush (cd_202 rfl) (by decide) ?_
  obtain ⟨n41, e42, e⟩ := jbind e
  refine ey_newarr (cd_202 rfl) (by decide) e42 ?_
  obtain ⟨h43, e44, e⟩ := jbind e
  refine ey_putf_r (cd_202 rfl) mt_202 rfl rfl rfl e44 ?_
  refine ey_aload_n (cd_202 rfl) rfl ?_
  refine ey_bipush (cd_202 rfl) (by decide) ?_
  obtain ⟨n45, e46, e⟩ := jbind e
  refine ey_newarr (cd_202 rfl) (by decide) e46 ?_
  obtain ⟨h47, e48, e⟩ := jbind e
  refine ey_putf_r (cd_202 rfl) mt_202 rfl rfl rfl e48 ?_
  refine ey_aload_n (cd_202 rfl) rfl ?_
  refine ey_bipush (cd_202 rfl) (by decide) ?_
  obtain ⟨n49, e50, e⟩ := jbind e
  refine ey_newarr (cd_202 rfl) (by decide) e50 ?_
  obtain ⟨h51, e52, e⟩ := jbind e
  refine ey_putf_r (cd_202 rfl) mt_202 rfl rfl rfl e52 ?_
  refine ey_aload_n (cd_202 rfl) rfl ?_
  refine ey_bipush (cd_202 rfl) (by decide) ?_
  obtain ⟨n53, e54, e⟩ := jbind e
  refine ey_newarr (cd_202 rfl) (by decide) e54 ?_
  obtain ⟨h55, e56, e⟩ := jbind e
  refine ey_putf_r (cd_202 rfl) mt_202 rfl rfl rfl e56 ?_
  refine ey_aload_n (cd_202 rfl) rfl ?_
  refine ey_bipush (cd_202 rfl) (by decide) ?_
  obtain ⟨n57, e58, e⟩ := jbind e
  refine ey_newarr (cd_202 rfl) (by decide) e58 ?_
  obtain ⟨h59, e60, e⟩ := jbind e
  refine ey_putf_r (cd_202 rfl) mt_202 rfl rfl rfl e60 ?_
  refine ey_aload_n (cd_202 rfl) rfl ?_
  refine ey_bipush (cd_202 rfl) (by decide) ?_
  obtain ⟨n61, e62, e⟩ := jbind e
  refine ey_newarr (cd_202 rfl) (by decide) e62 ?_
  obtain ⟨h63, e64, e⟩ := jbind e
  refine ey_putf_r (cd_202 rfl) mt_202 rfl rfl rfl e64 ?_
  refine ey_aload_n (cd_202 rfl) rfl ?_
  refine ey_ldc (z := 192800) (cd_202 rfl) mt_202 rfl (by decide) ?_
  obtain ⟨n65, e66, e⟩ := jbind e
  refine ey_newarr (cd_202 rfl) (by decide) e66 ?_
  obtain ⟨h67, e68, e⟩ := jbind e
  refine ey_putf_r (cd_202 rfl) mt_202 rfl rfl rfl e68 ?_
  refine ey_aload_n (cd_202 rfl) rfl ?_
  refine ey_bipush (cd_202 rfl) (by decide) ?_
  obtain ⟨n69, e70, e⟩ := jbind e
  refine ey_newarr (cd_202 rfl) (by decide) e70 ?_
  obtain ⟨h71, e72, e⟩ := jbind e
  refine ey_putf_r (cd_202 rfl) mt_202 rfl rfl rfl e72 ?_
  refine ey_aload_n (cd_202 rfl) rfl ?_
  refine ey_bipush (cd_202 rfl) (by decide) ?_
  obtain ⟨n73, e74, e⟩ := jbind e
  refine ey_newarr (cd_202 rfl) (by decide) e74 ?_
  obtain ⟨h75, e76, e⟩ := jbind e
  refine ey_putf_r (cd_202 rfl) mt_202 rfl rfl rfl e76 ?_
  refine ey_aload_n (cd_202 rfl) rfl ?_
  refine ey_bipush (cd_202 rfl) (by decide) ?_
  obtain ⟨n77, e78, e⟩ := jbind e
  refine ey_newarr (cd_202 rfl) (by decide) e78 ?_
  obtain ⟨h79, e80, e⟩ := jbind e
  refine ey_putf_r (cd_202 rfl) mt_202 rfl rfl rfl e80 ?_
  refine ey_aload_n (cd_202 rfl) rfl ?_
  refine ey_bipush (cd_202 rfl) (by decide) ?_
  obtain ⟨n81, e82, e⟩ := jbind e
  refine ey_newarr (cd_202 rfl) (by decide) e82 ?_
  obtain ⟨h83, e84, e⟩ := jbind e
  refine ey_putf_r (cd_202 rfl) mt_202 rfl rfl rfl e84 ?_
  refine ey_aload_n (cd_202 rfl) rfl ?_
  refine ey_bipush (cd_202 rfl) (by decide) ?_
  obtain ⟨n85, e86, e⟩ := jbind e
  refine ey_newarr (cd_202 rfl) (by decide) e86 ?_
  obtain ⟨h87, e88, e⟩ := jbind e
  refine ey_putf_r (cd_202 rfl) mt_202 rfl rfl rfl e88 ?_
  refine ey_aload_n (cd_202 rfl) rfl ?_
  refine ey_bipush (cd_202 rfl) (by decide) ?_
  obtain ⟨n89, e90, e⟩ := jbind e
  refine ey_newarr (cd_202 rfl) (by decide) e90 ?_
  obtain ⟨h91, e92, e⟩ := jbind e
  refine ey_putf_r (cd_202 rfl) mt_202 rfl rfl rfl e92 ?_
  refine ey_aload_n (cd_202 rfl) rfl ?_
  refine ey_bipush (cd_202 rfl) (by decide) ?_
  obtain ⟨n93, e94, e⟩ := jbind e
  refine ey_newarr (cd_202 rfl) (by decide) e94 ?_
  obtain ⟨h95, e96, e⟩ := jbind e
  refine ey_putf_r (cd_202 rfl) mt_202 rfl rfl rfl e96 ?_
  refine ey_aload_n (cd_202 rfl) rfl ?_
  refine ey_bipush (cd_202 rfl) (by decide) ?_
  obtain ⟨n97, e98, e⟩ := jbind e
  refine ey_newarr (cd_202 rfl) (by decide) e98 ?_
  obtain ⟨h99, e100, e⟩ := jbind e
  refine ey_putf_r (cd_202 rfl) mt_202 rfl rfl rfl e100 ?_
  refine ey_aload_n (cd_202 rfl) rfl ?_
  refine ey_bipush (cd_202 rfl) (by decide) ?_
  obtain ⟨n101, e102, e⟩ := jbind e
  refine ey_newarr (cd_202 rfl) (by decide) e102 ?_
  obtain ⟨h103, e104, e⟩ := jbind e
  refine ey_putf_r (cd_202 rfl) mt_202 rfl rfl rfl e104 ?_
  refine ey_aload_n (cd_202 rfl) rfl ?_
  refine ey_ldc (z := 82944) (cd_202 rfl) mt_202 rfl (by decide) ?_
  obtain ⟨n105, e106, e⟩ := jbind e
  refine ey_newarr (cd_202 rfl) (by decide) e106 ?_
  obtain ⟨h107, e108, e⟩ := jbind e
  refine ey_putf_r (cd_202 rfl) mt_202 rfl rfl rfl e108 ?_
  refine ey_aload_n (cd_202 rfl) rfl ?_
  refine ey_ldc (z := 82944) (cd_202 rfl) mt_202 rfl (by decide) ?_
  obtain ⟨n109, e110, e⟩ := jbind e
  refine ey_newarr (cd_202 rfl) (by decide) e110 ?_
  obtain ⟨h111, e112, e⟩ := jbind e
  refine ey_putf_r (cd_202 rfl) mt_202 rfl rfl rfl e112 ?_
  refine ey_aload_n (cd_202 rfl) rfl ?_
  refine ey_sipush (cd_202 rfl) (by decide) ?_
  obtain ⟨n113, e114, e⟩ := jbind e
  refine ey_newarr (cd_202 rfl) (by decide) e114 ?_
  obtain ⟨h115, e116, e⟩ := jbind e
  refine ey_putf_r (cd_202 rfl) mt_202 rfl rfl rfl e116 ?_
  refine ey_aload_n (cd_202 rfl) rfl ?_
  refine ey_bipush (cd_202 rfl) (by decide) ?_
  obtain ⟨n117, e118, e⟩ := jbind e
  refine ey_newarr (cd_202 rfl) (by decide) e118 ?_
  obtain ⟨h119, e120, e⟩ := jbind e
  refine ey_putf_r (cd_202 rfl) mt_202 rfl rfl rfl e120 ?_
  refine ey_aload_n (cd_202 rfl) rfl ?_
  refine ey_bipush (cd_202 rfl) (by decide) ?_
  obtain ⟨n121, e122, e⟩ := jbind e
  refine ey_newarr (cd_202 rfl) (by decide) e122 ?_
  obtain ⟨h123, e124, e⟩ := jbind e
  refine ey_putf_r (cd_202 rfl) mt_202 rfl rfl rfl e124 ?_
  refine ey_aload_n (cd_202 rfl) rfl ?_
  refine ey_bipush (cd_202 rfl) (by decide) ?_
  obtain ⟨n125, e126, e⟩ := jbind e
  refine ey_newarr (cd_202 rfl) (by decide) e126 ?_
  obtain ⟨h127, e128, e⟩ := jbind e
  refine ey_putf_r (cd_202 rfl) mt_202 rfl rfl rfl e128 ?_
  refine ey_aload_n (cd_202 rfl) rfl ?_
  refine ey_bipush (cd_202 rfl) (by decide) ?_
  obtain ⟨n129, e130, e⟩ := jbind e
  refine ey_newarr (cd_202 rfl) (by decide) e130 ?_
  obtain ⟨h131, e132, e⟩ := jbind e
  refine ey_putf_r (cd_202 rfl) mt_202 rfl rfl rfl e132 ?_
  refine ey_aload_n (cd_202 rfl) rfl ?_
  refine ey_bipush (cd_202 rfl) (by decide) ?_
  obtain ⟨n133, e134, e⟩ := jbind e
  refine ey_newarr (cd_202 rfl) (by decide) e134 ?_
  obtain ⟨h135, e136, e⟩ := jbind e
  refine ey_putf_r (cd_202 rfl) mt_202 rfl rfl rfl e136 ?_
  refine ey_aload_n (cd_202 rfl) rfl ?_
  refine ey_bipush (cd_202 rfl) (by decide) ?_
  obtain ⟨n137, e138, e⟩ := jbind e
  refine ey_newarr (cd_202 rfl) (by decide) e138 ?_
  obtain ⟨h139, e140, e⟩ := jbind e
  refine ey_putf_r (cd_202 rfl) mt_202 rfl rfl rfl e140 ?_
  refine ey_aload_n (cd_202 rfl) rfl ?_
  refine ey_bipush (cd_202 rfl) (by decide) ?_
  obtain ⟨n141, e142, e⟩ := jbind e
  refine ey_newarr (cd_202 rfl) (by decide) e142 ?_
  obtain ⟨h143, e144, e⟩ := jbind e
  refine ey_putf_r (cd_202 rfl) mt_202 rfl rfl rfl e144 ?_
  refine ey_aload_n (cd_202 rfl) rfl ?_
  refine ey_sipush (cd_202 rfl) (by decide) ?_
  obtain ⟨n145, e146, e⟩ := jbind e
  refine ey_newarr (cd_202 rfl) (by decide) e146 ?_
  obtain ⟨h147, e148, e⟩ := jbind e
  refine ey_putf_r (cd_202 rfl) mt_202 rfl rfl rfl e148 ?_
  refine ey_aload_n (cd_202 rfl) rfl ?_
  refine ey_sipush (cd_202 rfl) (by decide) ?_
  obtain ⟨n149, e150, e⟩ := jbind e
  refine ey_newarr (cd_202 rfl) (by decide) e150 ?_
  obtain ⟨h151, e152, e⟩ := jbind e
  refine ey_putf_r (cd_202 rfl) mt_202 rfl rfl rfl e152 ?_
  refine ey_aload_n (cd_202 rfl) rfl ?_
  refine ey_sipush (cd_202 rfl) (by decide) ?_
  obtain ⟨n153, e154, e⟩ := jbind e
  refine ey_newarr (cd_202 rfl) (by decide) e154 ?_
  obtain ⟨h155, e156, e⟩ := jbind e
  refine ey_putf_r (cd_202 rfl) mt_202 rfl rfl rfl e156 ?_
  refine ey_aload_n (cd_202 rfl) rfl ?_
  refine ey_sipush (cd_202 rfl) (by decide) ?_
  obtain ⟨n157, e158, e⟩ := jbind e
  refine ey_newarr (cd_202 rfl) (by decide) e158 ?_
  obtain ⟨h159, e160, e⟩ := jbind e
  refine ey_putf_r (cd_202 rfl) mt_202 rfl rfl rfl e160 ?_
  refine ey_aload_n (cd_202 rfl) rfl ?_
  refine ey_ldc (z := 60000) (cd_202 rfl) mt_202 rfl (by decide) ?_
  obtain ⟨n161, e162, e⟩ := jbind e
  refine ey_newarr (cd_202 rfl) (by decide) e162 ?_
  obtain ⟨h163, e164, e⟩ := jbind e
  refine ey_putf_r (cd_202 rfl) mt_202 rfl rfl rfl e164 ?_
  refine ey_aload_n (cd_202 rfl) rfl ?_
  refine ey_bipush (cd_202 rfl) (by decide) ?_
  obtain ⟨n165, e166, e⟩ := jbind e
  refine ey_newarr (cd_202 rfl) (by decide) e166 ?_
  obtain ⟨h167, e168, e⟩ := jbind e
  refine ey_putf_r (cd_202 rfl) mt_202 rfl rfl rfl e168 ?_
  refine ey_aload_n (cd_202 rfl) rfl ?_
  refine ey_bipush (cd_202 rfl) (by decide) ?_
  obtain ⟨n169, e170, e⟩ := jbind e
  refine ey_newarr (cd_202 rfl) (by decide) e170 ?_
  obtain ⟨h171, e172, e⟩ := jbind e
  refine ey_putf_r (cd_202 rfl) mt_202 rfl rfl rfl e172 ?_
  refine ey_aload_n (cd_202 rfl) rfl ?_
  refine ey_bipush (cd_202 rfl) (by decide) ?_
  obtain ⟨n173, e174, e⟩ := jbind e
  refine ey_newarr (cd_202 rfl) (by decide) e174 ?_
  obtain ⟨h175, e176, e⟩ := jbind e
  refine ey_putf_r (cd_202 rfl) mt_202 rfl rfl rfl e176 ?_
  refine ey_aload_n (cd_202 rfl) rfl ?_
  refine ey_bipush (cd_202 rfl) (by decide) ?_
  obtain ⟨n177, e178, e⟩ := jbind e
  refine ey_newarr (cd_202 rfl) (by decide) e178 ?_
  obtain ⟨h179, e180, e⟩ := jbind e
  refine ey_putf_r (cd_202 rfl) mt_202 rfl rfl rfl e180 ?_
  refine ey_aload_n (cd_202 rfl) rfl ?_
  refine ey_sipush (cd_202 rfl) (by decide) ?_
  obtain ⟨n181, e182, e⟩ := jbind e
  refine ey_newarr (cd_202 rfl) (by decide) e182 ?_
  obtain ⟨h183, e184, e⟩ := jbind e
  refine ey_putf_r (cd_202 rfl) mt_202 rfl rfl rfl e184 ?_
  refine ey_aload_n (cd_202 rfl) rfl ?_
  refine ey_bipush (cd_202 rfl) (by decide) ?_
  obtain ⟨n185, e186, e⟩ := jbind e
  refine ey_newarr (cd_202 rfl) (by decide) e186 ?_
  obtain ⟨h187, e188, e⟩ := jbind e
  refine ey_putf_r (cd_202 rfl) mt_202 rfl rfl rfl e188 ?_
  refine ey_aload_n (cd_202 rfl) rfl ?_
  refine ey_bipush (cd_202 rfl) (by decide) ?_
  obtain ⟨n189, e190, e⟩ := jbind e
  refine ey_newarr (cd_202 rfl) (by decide) e190 ?_
  obtain ⟨h191, e192, e⟩ := jbind e
  refine ey_putf_r (cd_202 rfl) mt_202 rfl rfl rfl e192 ?_
  refine ey_aload_n (cd_202 rfl) rfl ?_
  refine ey_sipush (cd_202 rfl) (by decide) ?_
  obtain ⟨n193, e194, e⟩ := jbind e
  refine ey_newarr (cd_202 rfl) (by decide) e194 ?_
  obtain ⟨h195, e196, e⟩ := jbind e
  refine ey_putf_r (cd_202 rfl) mt_202 rfl rfl rfl e196 ?_
  refine ey_aload_n (cd_202 rfl) rfl ?_
  refine ey_bipush (cd_202 rfl) (by decide) ?_
  obtain ⟨n197, e198, e⟩ := jbind e
  refine ey_newarr (cd_202 rfl) (by decide) e198 ?_
  obtain ⟨h199, e200, e⟩ := jbind e
  refine ey_putf_r (cd_202 rfl) mt_202 rfl rfl rfl e200 ?_
  refine ey_aload_n (cd_202 rfl) rfl ?_
  refine ey_bipush (cd_202 rfl) (by decide) ?_
  obtain ⟨n201, e202, e⟩ := jbind e
  refine ey_newarr (cd_202 rfl) (by decide) e202 ?_
  obtain ⟨h203, e204, e⟩ := jbind e
  refine ey_putf_r (cd_202 rfl) mt_202 rfl rfl rfl e204 ?_
  refine ey_aload_n (cd_202 rfl) rfl ?_
  refine ey_sipush (cd_202 rfl) (by decide) ?_
  obtain ⟨n205, e206, e⟩ := jbind e
  refine ey_newarr (cd_202 rfl) (by decide) e206 ?_
  obtain ⟨h207, e208, e⟩ := jbind e
  refine ey_putf_r (cd_202 rfl) mt_202 rfl rfl rfl e208 ?_
  refine ey_aload_n (cd_202 rfl) rfl ?_
  refine ey_iconst (cd_202 rfl) ?_
  obtain ⟨n209, e210, e⟩ := jbind e
  refine ey_newarr (cd_202 rfl) (by decide) e210 ?_
  obtain ⟨h211, e212, e⟩ := jbind e
  refine ey_putf_r (cd_202 rfl) mt_202 rfl rfl rfl e212 ?_
  refine ey_aload_n (cd_202 rfl) rfl ?_
  refine ey_sipush (cd_202 rfl) (by decide) ?_
  obtain ⟨n213, e214, e⟩ := jbind e
  refine ey_newarr (cd_202 rfl) (by decide) e214 ?_
  obtain ⟨h215, e216, e⟩ := jbind e
  refine ey_putf_r (cd_202 rfl) mt_202 rfl rfl rfl e216 ?_
  refine ey_aload_n (cd_202 rfl) rfl ?_
  refine ey_sipush (cd_202 rfl) (by decide) ?_
  obtain ⟨n217, e218, e⟩ := jbind e
  refine ey_newarr (cd_202 rfl) (by decide) e218 ?_
  obtain ⟨h219, e220, e⟩ := jbind e
  refine ey_putf_r (cd_202 rfl) mt_202 rfl rfl rfl e220 ?_
  refine ey_aload_n (cd_202 rfl) rfl ?_
  refine ey_sipush (cd_202 rfl) (by decide) ?_
  obtain ⟨n221, e222, e⟩ := jbind e
  refine ey_newarr (cd_202 rfl) (by decide) e222 ?_
  obtain ⟨h223, e224, e⟩ := jbind e
  refine ey_putf_r (cd_202 rfl) mt_202 rfl rfl rfl e224 ?_
  refine ey_aload_n (cd_202 rfl) rfl ?_
  refine ey_bipush (cd_202 rfl) (by decide) ?_
  obtain ⟨n225, e226, e⟩ := jbind e
  refine ey_newarr (cd_202 rfl) (by decide) e226 ?_
  obtain ⟨h227, e228, e⟩ := jbind e
  refine ey_putf_r (cd_202 rfl) mt_202 rfl rfl rfl e228 ?_
  refine ey_aload_n (cd_202 rfl) rfl ?_
  refine ey_bipush (cd_202 rfl) (by decide) ?_
  obtain ⟨n229, e230, e⟩ := jbind e
  refine ey_newarr (cd_202 rfl) (by decide) e230 ?_
  obtain ⟨h231, e232, e⟩ := jbind e
  refine ey_putf_r (cd_202 rfl) mt_202 rfl rfl rfl e232 ?_
  refine ey_aload_n (cd_202 rfl) rfl ?_
  refine ey_bipush (cd_202 rfl) (by decide) ?_
  obtain ⟨n233, e234, e⟩ := jbind e
  refine ey_newarr (cd_202 rfl) (by decide) e234 ?_
  obtain ⟨h235, e236, e⟩ := jbind e
  refine ey_putf_r (cd_202 rfl) mt_202 rfl rfl rfl e236 ?_
  refine ey_aload_n (cd_202 rfl) rfl ?_
  refine ey_bipush (cd_202 rfl) (by decide) ?_
  obtain ⟨n237, e238, e⟩ := jbind e
  refine ey_newarr (cd_202 rfl) (by decide) e238 ?_
  obtain ⟨h239, e240, e⟩ := jbind e
  refine ey_putf_r (cd_202 rfl) mt_202 rfl rfl rfl e240 ?_
  refine ey_aload_n (cd_202 rfl) rfl ?_
  refine ey_bipush (cd_202 rfl) (by decide) ?_
  obtain ⟨n241, e242, e⟩ := jbind e
  refine ey_newarr (cd_202 rfl) (by decide) e242 ?_
  obtain ⟨h243, e244, e⟩ := jbind e
  refine ey_putf_r (cd_202 rfl) mt_202 rfl rfl rfl e244 ?_
  refine ey_aload_n (cd_202 rfl) rfl ?_
  refine ey_bipush (cd_202 rfl) (by decide) ?_
  obtain ⟨n245, e246, e⟩ := jbind e
  refine ey_newarr (cd_202 rfl) (by decide) e246 ?_
  obtain ⟨h247, e248, e⟩ := jbind e
  refine ey_putf_r (cd_202 rfl) mt_202 rfl rfl rfl e248 ?_
  refine ey_aload_n (cd_202 rfl) rfl ?_
  refine ey_bipush (cd_202 rfl) (by decide) ?_
  obtain ⟨n249, e250, e⟩ := jbind e
  refine ey_newarr (cd_202 rfl) (by decide) e250 ?_
  obtain ⟨h251, e252, e⟩ := jbind e
  refine ey_putf_r (cd_202 rfl) mt_202 rfl rfl rfl e252 ?_
  refine ey_aload_n (cd_202 rfl) rfl ?_
  refine ey_sipush (cd_202 rfl) (by decide) ?_
  obtain ⟨n253, e254, e⟩ := jbind e
  refine ey_newarr (cd_202 rfl) (by decide) e254 ?_
  obtain ⟨h255, e256, e⟩ := jbind e
  refine ey_putf_r (cd_202 rfl) mt_202 rfl rfl rfl e256 ?_
  refine ey_aload_n (cd_202 rfl) rfl ?_
  refine ey_sipush (cd_202 rfl) (by decide) ?_
  obtain ⟨n257, e258, e⟩ := jbind e
  refine ey_newarr (cd_202 rfl) (by decide) e258 ?_
  obtain ⟨h259, e260, e⟩ := jbind e
  refine ey_putf_r (cd_202 rfl) mt_202 rfl rfl rfl e260 ?_
  refine ey_aload_n (cd_202 rfl) rfl ?_
  refine ey_sipush (cd_202 rfl) (by decide) ?_
  obtain ⟨n261, e262, e⟩ := jbind e
  refine ey_newarr (cd_202 rfl) (by decide) e262 ?_
  obtain ⟨h263, e264, e⟩ := jbind e
  refine ey_putf_r (cd_202 rfl) mt_202 rfl rfl rfl e264 ?_
  refine ey_aload_n (cd_202 rfl) rfl ?_
  refine ey_sipush (cd_202 rfl) (by decide) ?_
  obtain ⟨n265, e266, e⟩ := jbind e
  refine ey_newarr (cd_202 rfl) (by decide) e266 ?_
  obtain ⟨h267, e268, e⟩ := jbind e
  refine ey_putf_r (cd_202 rfl) mt_202 rfl rfl rfl e268 ?_
  refine ey_aload_n (cd_202 rfl) rfl ?_
  refine ey_sipush (cd_202 rfl) (by decide) ?_
  obtain ⟨n269, e270, e⟩ := jbind e
  refine ey_newarr (cd_202 rfl) (by decide) e270 ?_
  obtain ⟨h271, e272, e⟩ := jbind e
  refine ey_putf_r (cd_202 rfl) mt_202 rfl rfl rfl e272 ?_
  refine ey_aload_n (cd_202 rfl) rfl ?_
  refine ey_iconst (cd_202 rfl) ?_
  obtain ⟨n273, e274, e⟩ := jbind e
  refine ey_newarr (cd_202 rfl) (by decide) e274 ?_
  obtain ⟨h275, e276, e⟩ := jbind e
  refine ey_putf_r (cd_202 rfl) mt_202 rfl rfl rfl e276 ?_
  refine ey_aload_n (cd_202 rfl) rfl ?_
  refine ey_iconst (cd_202 rfl) ?_
  obtain ⟨n277, e278, e⟩ := jbind e
  refine ey_newarr (cd_202 rfl) (by decide) e278 ?_
  obtain ⟨h279, e280, e⟩ := jbind e
  refine ey_putf_r (cd_202 rfl) mt_202 rfl rfl rfl e280 ?_
  refine ey_aload_n (cd_202 rfl) rfl ?_
  refine ey_iconst (cd_202 rfl) ?_
  obtain ⟨n281, e282, e⟩ := jbind e
  refine ey_newarr (cd_202 rfl) (by decide) e282 ?_
  obtain ⟨h283, e284, e⟩ := jbind e
  refine ey_putf_r (cd_202 rfl) mt_202 rfl rfl rfl e284 ?_
  refine ey_aload_n (cd_202 rfl) rfl ?_
  refine ey_iconst (cd_202 rfl) ?_
  obtain ⟨n285, e286, e⟩ := jbind e
  refine ey_newarr (cd_202 rfl) (by decide) e286 ?_
  obtain ⟨h287, e288, e⟩ := jbind e
  refine ey_putf_r (cd_202 rfl) mt_202 rfl rfl rfl e288 ?_
  refine ey_aload_n (cd_202 rfl) rfl ?_
  refine ey_iconst (cd_202 rfl) ?_
  obtain ⟨n289, e290, e⟩ := jbind e
  refine ey_newarr (cd_202 rfl) (by decide) e290 ?_
  obtain ⟨h291, e292, e⟩ := jbind e
  refine ey_putf_r (cd_202 rfl) mt_202 rfl rfl rfl e292 ?_
  refine ey_aload_n (cd_202 rfl) rfl ?_
  refine ey_iconst (cd_202 rfl) ?_
  obtain ⟨n293, e294, e⟩ := jbind e
  refine ey_newarr (cd_202 rfl) (by decide) e294 ?_
  obtain ⟨h295, e296, e⟩ := jbind e
  refine ey_putf_r (cd_202 rfl) mt_202 rfl rfl rfl e296 ?_
  refine ey_aload_n (cd_202 rfl) rfl ?_
  refine ey_iconst (cd_202 rfl) ?_
  obtain ⟨n297, e298, e⟩ := jbind e
  refine ey_newarr (cd_202 rfl) (by decide) e298 ?_
  obtain ⟨h299, e300, e⟩ := jbind e
  refine ey_putf_r (cd_202 rfl) mt_202 rfl rfl rfl e300 ?_
  refine ey_aload_n (cd_202 rfl) rfl ?_
  refine ey_iconst (cd_202 rfl) ?_
  obtain ⟨n301, e302, e⟩ := jbind e
  refine ey_newarr (cd_202 rfl) (by decide) e302 ?_
  obtain ⟨h303, e304, e⟩ := jbind e
  refine ey_putf_r (cd_202 rfl) mt_202 rfl rfl rfl e304 ?_
  refine ey_aload_n (cd_202 rfl) rfl ?_
  refine ey_iconst (cd_202 rfl) ?_
  obtain ⟨n305, e306, e⟩ := jbind e
  refine ey_newarr (cd_202 rfl) (by decide) e306 ?_
  obtain ⟨h307, e308, e⟩ := jbind e
  refine ey_putf_r (cd_202 rfl) mt_202 rfl rfl rfl e308 ?_
  refine ey_aload_n (cd_202 rfl) rfl ?_
  refine ey_iconst (cd_202 rfl) ?_
  obtain ⟨n309, e310, e⟩ := jbind e
  refine ey_newarr (cd_202 rfl) (by decide) e310 ?_
  obtain ⟨h311, e312, e⟩ := jbind e
  refine ey_putf_r (cd_202 rfl) mt_202 rfl rfl rfl e312 ?_
  refine ey_aload_n (cd_202 rfl) rfl ?_
  refine ey_sipush (cd_202 rfl) (by decide) ?_
  obtain ⟨n313, e314, e⟩ := jbind e
  refine ey_newarr (cd_202 rfl) (by decide) e314 ?_
  obtain ⟨h315, e316, e⟩ := jbind e
  refine ey_putf_r (cd_202 rfl) mt_202 rfl rfl rfl e316 ?_
  refine ey_iconst (cd_202 rfl) ?_
  refine ey_istore_n (cd_202 rfl) mt_202 rfl ?_
  obtain ⟨x324, e325, e⟩ := jbind e
  refine jk_202_l651 e325 ?_ (jup (jlf (jla 0 [jR (some this)])) 1 (jI 0)) (jup_pr (lv := (jlf (jla 0 [jR (some this)]))) (j := 0) (v := jI 0) (z := (some this)) rfl) rfl
  intro lv 
  cases e
  exact ey_retv (cd_202 rfl) mt_202 rfl
