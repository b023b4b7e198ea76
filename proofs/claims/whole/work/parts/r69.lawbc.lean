set_option maxRecDepth 100000 in
theorem jk_403_b2854 {L : Nat} {xs : Nat → Int32} {x1 : Option Nat} {x2 : Option Nat} {x3 : Option Nat} {x4 : Int} {h : jH} {o : ((Int × jH) ⊕ jH)} {r : mm_R} (e : jd_403_b2854 L xs x1 x2 x3 x4 h = some o) (K : jsm (fun s => (∀ lv : jL, lv 0 = some (jR (some 1000000)) → lv 1 = some (jR x1) → lv 2 = some (jR x2) → lv 3 = some (jR x3) → lv 4 = some (jI s.1) → ey (mm_xt L xs) 72 403 23 lv [] s.2 r)) (fun x => (∀ lv : jL, ey (mm_xt L xs) 72 403 3175 lv [] x r)) o) : ∀ lv : jL, lv 0 = some (jR (some 1000000)) → lv 1 = some (jR x1) → lv 2 = some (jR x2) → lv 3 = some (jR x3) → lv 4 = some (jI x4) → ey (mm_xt L xs) 72 403 2854 lv [] h r := by
  intro lv f0 f1 f2 f3 f4
  unfold jd_403_b2854 at e
  refine ey_goto (cd_403 rfl) rfl ?_
  exact jk_403_b3169 e K lv f0 f1 f2 f3 f4
set_option maxRecDepth 100000 in
theorem jk_403_b2801 {L : Nat} {xs : Nat → Int32} {x1 : Option Nat} {x2 : Option Nat} {x3 : Option Nat} {x4 : Int} {h : jH} {o : ((Int × jH) ⊕ jH)} {r : mm_R} (e : jd_403_b2801 L xs x1 x2 x3 x4 h = some o) (K : jsm (fun s => (∀ lv : jL, lv 0 = some (jR (some 1000000)) → lv 1 = some (jR x1) → lv 2 = some (jR x2) → lv 3 = some (jR x3) → lv 4 = some (jI s.1) → ey (mm_xt L xs) 72 403 23 lv [] s.2 r)) (fun x => (∀ lv : jL, ey (mm_xt L xs) 72 403 3175 lv [] x r)) o) : ∀ lv : jL, lv 0 = some (jR (some 1000000)) → lv 1 = some (jR x1) → lv 2 = some (jR x2) → lv 3 = some (jR x3) → lv 4 = some (jI x4) → ey (mm_xt L xs) 72 403 2801 lv [] h r := by
  intro lv f0 f1 f2 f3 f4
  unfold jd_403_b2801 at e
  refine ey_aload_n (cd_403 rfl) f1 ?_
  refine ey_aload_n (cd_403 rfl) f0 ?_
  refine ey_iload (cd_403 rfl) f4 ?_
  refine ey_iconst (cd_403 rfl) ?_
  refine ey_iadd (cd_403 rfl) ?_
  obtain ⟨v1209, e1210, e⟩ := jbind e
  refine ey_iasc (cd_403 rfl) e1210 ?_
  refine ey_aload_n (cd_403 rfl) f3 ?_
  obtain ⟨q1211, e1212, e⟩ := jbind e
  refine ey_cs (s0 := [jR x3, jI v1209, jR x1]) (s1 := []) (st' := [jI q1211.1]) (cd_403 rfl) mt_403 mt_397 rfl (by decide) rfl rfl (jsml_s rfl) rfl (mm_Runs.up (d := 9) (by decide) (ok_397 e1212)) ?_
  refine ey_istore (cd_403 rfl) mt_403 rfl ?_
  refine ey_aload_n (cd_403 rfl) f2 ?_
  refine ey_aload_n (cd_403 rfl) f0 ?_
  refine ey_iload (cd_403 rfl) (jup_pi (lv := lv) (j := 4) (v := jI q1211.1) (z := x4) f4) ?_
  refine ey_iconst (cd_403 rfl) ?_
  refine ey_iadd (cd_403 rfl) ?_
  obtain ⟨v1213, e1214, e⟩ := jbind e
  refine ey_iasc (cd_403 rfl) e1214 ?_
  obtain ⟨a1215, e1216, e⟩ := jbind e
  refine ey_rs (s0 := [jI v1213, jR x2]) (s1 := [jI v1213, jR (some a1215)]) (by rw [e1216]) ?_
  obtain ⟨u1217, e1218, e⟩ := jbind e
  have w1219 := jlk_s e1218
  refine ey_rs (s0 := [jI v1213, jR (some a1215)]) (s1 := [jI v1213, jR (some 76)]) (by rw [w1219.1]) ?_
  obtain ⟨q1220, e1221, e⟩ := jbind e
  refine ey_cv (s0 := [jI v1213, jR (some 76)]) (s1 := []) (st' := [jI q1220.1]) (cd_403 rfl) mt_403 mt_359 rfl rfl rfl ⟨Nat.lt_of_lt_of_le (by decide) w1219.2.1, w1219.2.2.2.1⟩ rfl (jsml_s rfl) rfl (mm_Runs.up (d := 10) (by decide) (by have w := ok_359 (L := L) (xs := xs) (b := q1211.2) (m := jmf q1211.2) w1219.2.1 w1219.2.2.1 e1221; rw [w1219.2.2.2.2] at w; exact w)) ?_
  obtain ⟨h1222, e1223, e⟩ := jbind e
  refine ey_hs (Option.some.inj e1223) ?_
  refine ey_istore (cd_403 rfl) mt_403 rfl ?_
  refine ey_aload_n (cd_403 rfl) f2 ?_
  obtain ⟨a1224, e1225, e⟩ := jbind e
  refine ey_rs (s0 := [jR x2]) (s1 := [jR (some a1224)]) (by rw [e1225]) ?_
  obtain ⟨u1226, e1227, e⟩ := jbind e
  have w1228 := jlk_s e1227
  refine ey_rs (s0 := [jR (some a1224)]) (s1 := [jR (some 76)]) (by rw [w1228.1]) ?_
  refine ey_cv (s0 := [jR (some 76)]) (s1 := []) (st' := [jI (jd_203 (jmf h1222))]) (cd_403 rfl) mt_403 mt_203 rfl rfl rfl ⟨Nat.lt_of_lt_of_le (by decide) w1228.2.1, w1228.2.2.2.1⟩ rfl (jsml_s rfl) rfl (mm_Runs.up (d := 1) (by decide) (by have w := ok_203 (L := L) (xs := xs) (b := h1222) (m := jmf h1222) w1228.2.1 w1228.2.2.1 ; rw [w1228.2.2.2.2] at w; exact w)) ?_
  refine ey_iload (cd_403 rfl) (jup_pi (lv := (jup lv 5 (jI q1211.1))) (j := 5) (v := jI q1220.1) (z := q1211.1) rfl) ?_
  by_cases q1229 : (jw (jd_203 (jmf h1222))) = (jw q1211.1)
  · rw [if_pos q1229] at e
    refine ey_ceq (cd_403 rfl) rfl rfl rfl q1229 ?_
    refine ey_iload (cd_403 rfl) (jup_pi (lv := (jup lv 5 (jI q1211.1))) (j := 5) (v := jI q1220.1) (z := q1211.1) rfl) ?_
    by_cases q1230 : (jw q1211.1) = 0
    · rw [if_pos q1230] at e
      refine ey_yne (cd_403 rfl) rfl rfl (fun w => w q1230) ?_
      refine ey_aload_n (cd_403 rfl) f3 ?_
      refine ey_iconst (cd_403 rfl) ?_
      obtain ⟨a1231, e1232, e⟩ := jbind e
      refine ey_rs (s0 := [jI 0, jR x3]) (s1 := [jI 0, jR (some a1231)]) (by rw [e1232]) ?_
      obtain ⟨v1233, e1234, e⟩ := jbind e
      refine ey_lald (cd_403 rfl) e1234 ?_
      refine ey_iload (cd_403 rfl) rfl ?_
      refine ey_i2l (cd_403 rfl) ?_
      refine ey_lcmp (cd_403 rfl) ?_
      by_cases q1235 : (jwl v1233) = (jw q1220.1)
      · rw [if_pos q1235] at e
        refine ey_zeq (cd_403 rfl) rfl rfl ((jlc_eq rfl (jwl_jw _)).mpr q1235) ?_
        exact jk_403_b2854 e K (jup (jup lv 5 (jI q1211.1)) 6 (jI q1220.1)) f0 f1 f2 f3 (jup_o rfl (jup_pi (lv := lv) (j := 4) (v := jI q1211.1) (z := x4) f4))
      · rw [if_neg q1235] at e
        refine ey_yeq (cd_403 rfl) rfl rfl (fun w => q1235 ((jlc_eq rfl (jwl_jw _)).mp w)) ?_
        cases e
    · rw [if_neg q1230] at e
      refine ey_zne (cd_403 rfl) rfl rfl q1230 ?_
      exact jk_403_b2854 e K (jup (jup lv 5 (jI q1211.1)) 6 (jI q1220.1)) f0 f1 f2 f3 (jup_o rfl (jup_pi (lv := lv) (j := 4) (v := jI q1211.1) (z := x4) f4))
  · rw [if_neg q1229] at e
    refine ey_neq (cd_403 rfl) rfl rfl rfl q1229 ?_
    cases e
set_option maxRecDepth 100000 in
theorem jk_403_b2857 {L : Nat} {xs : Nat → Int32} {x1 : Option Nat} {x2 : Option Nat} {x3 : Option Nat} {x4 : Int} {h : jH} {o : ((Int × jH) ⊕ jH)} {r : mm_R} (e : jd_403_b2857 L xs x1 x2 x3 x4 h = some o) (K : jsm (fun s => (∀ lv : jL, lv 0 = some (jR (some 1000000)) → lv 1 = some (jR x1) → lv 2 = some (jR x2) → lv 3 = some (jR x3) → lv 4 = some (jI s.1) → ey (mm_xt L xs) 72 403 23 lv [] s.2 r)) (fun x => (∀ lv : jL, ey (mm_xt L xs) 72 403 3175 lv [] x r)) o) : ∀ lv : jL, lv 0 = some (jR (some 1000000)) → lv 1 = some (jR x1) → lv 2 = some (jR x2) → lv 3 = some (jR x3) → lv 4 = some (jI x4) → ey (mm_xt L xs) 72 403 2857 lv [] h r := by
  intro lv f0 f1 f2 f3 f4
  unfold jd_403_b2857 at e
  refine ey_aload_n (cd_403 rfl) f1 ?_
  refine ey_aload_n (cd_403 rfl) f0 ?_
  refine ey_iload (cd_403 rfl) f4 ?_
  refine ey_iconst (cd_403 rfl) ?_
  refine ey_iadd (cd_403 rfl) ?_
  obtain ⟨v1237, e1238, e⟩ := jbind e
  refine ey_iasc (cd_403 rfl) e1238 ?_
  refine ey_aload_n (cd_403 rfl) f0 ?_
  refine ey_iload (cd_403 rfl) f4 ?_
  refine ey_iconst (cd_403 rfl) ?_
  refine ey_iadd (cd_403 rfl) ?_
  obtain ⟨v1239, e1240, e⟩ := jbind e
  refine ey_iasc (cd_403 rfl) e1240 ?_
  obtain ⟨q1241, e1242, e⟩ := jbind e
  refine ey_cs (s0 := [jI v1239, jI v1237, jR x1]) (s1 := []) (st' := [jI q1241.1]) (cd_403 rfl) mt_403 mt_398 rfl (by decide) rfl rfl (jsml_s rfl) rfl (mm_Runs.up (d := 4) (by decide) (ok_398 e1242)) ?_
  refine ey_istore (cd_403 rfl) mt_403 rfl ?_
  refine ey_aload_n (cd_403 rfl) f2 ?_
  refine ey_aload_n (cd_403 rfl) f0 ?_
  refine ey_iload (cd_403 rfl) (jup_pi (lv := lv) (j := 4) (v := jI q1241.1) (z := x4) f4) ?_
  refine ey_iconst (cd_403 rfl) ?_
  refine ey_iadd (cd_403 rfl) ?_
  obtain ⟨v1243, e1244, e⟩ := jbind e
  refine ey_iasc (cd_403 rfl) e1244 ?_
  refine ey_aload_n (cd_403 rfl) f0 ?_
  refine ey_iload (cd_403 rfl) (jup_pi (lv := lv) (j := 4) (v := jI q1241.1) (z := x4) f4) ?_
  refine ey_iconst (cd_403 rfl) ?_
  refine ey_iadd (cd_403 rfl) ?_
  obtain ⟨v1245, e1246, e⟩ := jbind e
  refine ey_iasc (cd_403 rfl) e1246 ?_
  obtain ⟨a1247, e1248, e⟩ := jbind e
  refine ey_rs (s0 := [jI v1245, jI v1243, jR x2]) (s1 := [jI v1245, jI v1243, jR (some a1247)]) (by rw [e1248]) ?_
  obtain ⟨u1249, e1250, e⟩ := jbind e
  have w1251 := jlk_s e1250
  refine ey_rs (s0 := [jI v1245, jI v1243, jR (some a1247)]) (s1 := [jI v1245, jI v1243, jR (some 76)]) (by rw [w1251.1]) ?_
  obtain ⟨m1252, e1253, e⟩ := jbind e
  refine ey_cv (s0 := [jI v1245, jI v1243, jR (some 76)]) (s1 := []) (st' := []) (cd_403 rfl) mt_403 mt_360 rfl rfl rfl ⟨Nat.lt_of_lt_of_le (by decide) w1251.2.1, w1251.2.2.2.1⟩ rfl (jsml_s rfl) rfl (mm_Runs.up (d := 4) (by decide) (by have w := ok_360 (L := L) (xs := xs) (b := q1241.2) (m := jmf q1241.2) w1251.2.1 w1251.2.2.1 e1253; rw [w1251.2.2.2.2] at w; exact w)) ?_
  obtain ⟨h1254, e1255, e⟩ := jbind e
  refine ey_hs (Option.some.inj e1255) ?_
  refine ey_aload_n (cd_403 rfl) f2 ?_
  obtain ⟨a1256, e1257, e⟩ := jbind e
  refine ey_rs (s0 := [jR x2]) (s1 := [jR (some a1256)]) (by rw [e1257]) ?_
  obtain ⟨u1258, e1259, e⟩ := jbind e
  have w1260 := jlk_s e1259
  refine ey_rs (s0 := [jR (some a1256)]) (s1 := [jR (some 76)]) (by rw [w1260.1]) ?_
  refine ey_cv (s0 := [jR (some 76)]) (s1 := []) (st' := [jI (jd_203 (jmf h1254))]) (cd_403 rfl) mt_403 mt_203 rfl rfl rfl ⟨Nat.lt_of_lt_of_le (by decide) w1260.2.1, w1260.2.2.2.1⟩ rfl (jsml_s rfl) rfl (mm_Runs.up (d := 1) (by decide) (by have w := ok_203 (L := L) (xs := xs) (b := h1254) (m := jmf h1254) w1260.2.1 w1260.2.2.1 ; rw [w1260.2.2.2.2] at w; exact w)) ?_
  refine ey_iload (cd_403 rfl) rfl ?_
  by_cases q1261 : (jw (jd_203 (jmf h1254))) = (jw q1241.1)
  · rw [if_pos q1261] at e
    refine ey_ceq (cd_403 rfl) rfl rfl rfl q1261 ?_
    refine ey_goto (cd_403 rfl) rfl ?_
    exact jk_403_b3169 e K (jup lv 5 (jI q1241.1)) f0 f1 f2 f3 (jup_pi (lv := lv) (j := 4) (v := jI q1241.1) (z := x4) f4)
  · rw [if_neg q1261] at e
    refine ey_neq (cd_403 rfl) rfl rfl rfl q1261 ?_
    cases e
set_option maxRecDepth 100000 in
theorem jk_403_b2905 {L : Nat} {xs : Nat → Int32} {x1 : Option Nat} {x2 : Option Nat} {x3 : Option Nat} {x4 : Int} {h : jH} {o : ((Int × jH) ⊕ jH)} {r : mm_R} (e : jd_403_b2905 L xs x1 x2 x3 x4 h = some o) (K : jsm (fun s => (∀ lv : jL, lv 0 = some (jR (some 1000000)) → lv 1 = some (jR x1) → lv 2 = some (jR x2) → lv 3 = some (jR x3) → lv 4 = some (jI s.1) → ey (mm_xt L xs) 72 403 23 lv [] s.2 r)) (fun x => (∀ lv : jL, ey (mm_xt L xs) 72 403 3175 lv [] x r)) o) : ∀ lv : jL, lv 0 = some (jR (some 1000000)) → lv 1 = some (jR x1) → lv 2 = some (jR x2) → lv 3 = some (jR x3) → lv 4 = some (jI x4) → ey (mm_xt L xs) 72 403 2905 lv [] h r := by
  intro lv f0 f1 f2 f3 f4
  unfold jd_403_b2905 at e
  refine ey_aload_n (cd_403 rfl) f1 ?_
  refine ey_aload_n (cd_403 rfl) f0 ?_
  refine ey_iload (cd_403 rfl) f4 ?_
  refine ey_iconst (cd_403 rfl) ?_
  refine ey_iadd (cd_403 rfl) ?_
  obtain ⟨v1263, e1264, e⟩ := jbind e
  refine ey_iasc (cd_403 rfl) e1264 ?_
  refine ey_aload_n (cd_403 rfl) f0 ?_
  refine ey_iload (cd_403 rfl) f4 ?_
  refine ey_iconst (cd_403 rfl) ?_
  refine ey_iadd (cd_403 rfl) ?_
  obtain ⟨v1265, e1266, e⟩ := jbind e
  refine ey_iasc (cd_403 rfl) e1266 ?_
  obtain ⟨q1267, e1268, e⟩ := jbind e
  refine ey_cs (s0 := [jI v1265, jI v1263, jR x1]) (s1 := []) (st' := [jI q1267.1]) (cd_403 rfl) mt_403 mt_399 rfl (by decide) rfl rfl (jsml_s rfl) rfl (mm_Runs.up (d := 4) (by decide) (ok_399 e1268)) ?_
  refine ey_istore (cd_403 rfl) mt_403 rfl ?_
  refine ey_aload_n (cd_403 rfl) f2 ?_
  refine ey_aload_n (cd_403 rfl) f0 ?_
  refine ey_iload (cd_403 rfl) (jup_pi (lv := lv) (j := 4) (v := jI q1267.1) (z := x4) f4) ?_
  refine ey_iconst (cd_403 rfl) ?_
  refine ey_iadd (cd_403 rfl) ?_
  obtain ⟨v1269, e1270, e⟩ := jbind e
  refine ey_iasc (cd_403 rfl) e1270 ?_
  refine ey_aload_n (cd_403 rfl) f0 ?_
  refine ey_iload (cd_403 rfl) (jup_pi (lv := lv) (j := 4) (v := jI q1267.1) (z := x4) f4) ?_
  refine ey_iconst (cd_403 rfl) ?_
  refine ey_iadd (cd_403 rfl) ?_
  obtain ⟨v1271, e1272, e⟩ := jbind e
  refine ey_iasc (cd_403 rfl) e1272 ?_
  obtain ⟨a1273, e1274, e⟩ := jbind e
  refine ey_rs (s0 := [jI v1271, jI v1269, jR x2]) (s1 := [jI v1271, jI v1269, jR (some a1273)]) (by rw [e1274]) ?_
  obtain ⟨u1275, e1276, e⟩ := jbind e
  have w1277 := jlk_s e1276
  refine ey_rs (s0 := [jI v1271, jI v1269, jR (some a1273)]) (s1 := [jI v1271, jI v1269, jR (some 76)]) (by rw [w1277.1]) ?_
  obtain ⟨m1278, e1279, e⟩ := jbind e
  refine ey_cv (s0 := [jI v1271, jI v1269, jR (some 76)]) (s1 := []) (st' := []) (cd_403 rfl) mt_403 mt_361 rfl rfl rfl ⟨Nat.lt_of_lt_of_le (by decide) w1277.2.1, w1277.2.2.2.1⟩ rfl (jsml_s rfl) rfl (mm_Runs.up (d := 4) (by decide) (by have w := ok_361 (L := L) (xs := xs) (b := q1267.2) (m := jmf q1267.2) w1277.2.1 w1277.2.2.1 e1279; rw [w1277.2.2.2.2] at w; exact w)) ?_
  obtain ⟨h1280, e1281, e⟩ := jbind e
  refine ey_hs (Option.some.inj e1281) ?_
  refine ey_aload_n (cd_403 rfl) f2 ?_
  obtain ⟨a1282, e1283, e⟩ := jbind e
  refine ey_rs (s0 := [jR x2]) (s1 := [jR (some a1282)]) (by rw [e1283]) ?_
  obtain ⟨u1284, e1285, e⟩ := jbind e
  have w1286 := jlk_s e1285
  refine ey_rs (s0 := [jR (some a1282)]) (s1 := [jR (some 76)]) (by rw [w1286.1]) ?_
  refine ey_cv (s0 := [jR (some 76)]) (s1 := []) (st' := [jI (jd_203 (jmf h1280))]) (cd_403 rfl) mt_403 mt_203 rfl rfl rfl ⟨Nat.lt_of_lt_of_le (by decide) w1286.2.1, w1286.2.2.2.1⟩ rfl (jsml_s rfl) rfl (mm_Runs.up (d := 1) (by decide) (by have w := ok_203 (L := L) (xs := xs) (b := h1280) (m := jmf h1280) w1286.2.1 w1286.2.2.1 ; rw [w1286.2.2.2.2] at w; exact w)) ?_
  refine ey_iload (cd_403 rfl) rfl ?_
  by_cases q1287 : (jw (jd_203 (jmf h1280))) = (jw q1267.1)
  · rw [if_pos q1287] at e
    refine ey_ceq (cd_403 rfl) rfl rfl rfl q1287 ?_
    refine ey_goto (cd_403 rfl) rfl ?_
    exact jk_403_b3169 e K (jup lv 5 (jI q1267.1)) f0 f1 f2 f3 (jup_pi (lv := lv) (j := 4) (v := jI q1267.1) (z := x4) f4)
  · rw [if_neg q1287] at e
    refine ey_neq (cd_403 rfl) rfl rfl rfl q1287 ?_
    cases e
set_option maxRecDepth 100000 in
theorem jk_403_b3018 {L : Nat} {xs : Nat → Int32} {x1 : Option Nat} {x2 : Option Nat} {x3 : Option Nat} {x4 : Int} {h : jH} {o : ((Int × jH) ⊕ jH)} {r : mm_R} (e : jd_403_b3018 L xs x1 x2 x3 x4 h = some o) (K : jsm (fun s => (∀ lv : jL, lv 0 = some (jR (some 1000000)) → lv 1 = some (jR x1) → lv 2 = some (jR x2) → lv 3 = some (jR x3) → lv 4 = some (jI s.1) → ey (mm_xt L xs) 72 403 23 lv [] s.2 r)) (fun x => (∀ lv : jL, ey (mm_xt L xs) 72 403 3175 lv [] x r)) o) : ∀ lv : jL, lv 0 = some (jR (some 1000000)) → lv 1 = some (jR x1) → lv 2 = some (jR x2) → lv 3 = some (jR x3) → lv 4 = some (jI x4) → ey (mm_xt L xs) 72 403 3018 lv [] h r := by
  intro lv f0 f1 f2 f3 f4
  unfold jd_403_b3018 at e
  refine ey_goto (cd_403 rfl) rfl ?_
  exact jk_403_b3169 e K lv f0 f1 f2 f3 f4
set_option maxRecDepth 100000 in
theorem jk_403_b2953 {L : Nat} {xs : Nat → Int32} {x1 : Option Nat} {x2 : Option Nat} {x3 : Option Nat} {x4 : Int} {h : jH} {o : ((Int × jH) ⊕ jH)} {r : mm_R} (e : jd_403_b2953 L xs x1 x2 x3 x4 h = some o) (K : jsm (fun s => (∀ lv : jL, lv 0 = some (jR (some 1000000)) → lv 1 = some (jR x1) → lv 2 = some (jR x2) → lv 3 = some (jR x3) → lv 4 = some (jI s.1) → ey (mm_xt L xs) 72 403 23 lv [] s.2 r)) (fun x => (∀ lv : jL, ey (mm_xt L xs) 72 403 3175 lv [] x r)) o) : ∀ lv : jL, lv 0 = some (jR (some 1000000)) → lv 1 = some (jR x1) → lv 2 = some (jR x2) → lv 3 = some (jR x3) → lv 4 = some (jI x4) → ey (mm_xt L xs) 72 403 2953 lv [] h r := by
  intro lv f0 f1 f2 f3 f4
  unfold jd_403_b2953 at e
  refine ey_aload_n (cd_403 rfl) f1 ?_
  refine ey_aload_n (cd_403 rfl) f0 ?_
  refine ey_iload (cd_403 rfl) f4 ?_
  refine ey_iconst (cd_403 rfl) ?_
  refine ey_iadd (cd_403 rfl) ?_
  obtain ⟨v1289, e1290, e⟩ := jbind e
  refine ey_iasc (cd_403 rfl) e1290 ?_
  refine ey_aload_n (cd_403 rfl) f0 ?_
  refine ey_iload (cd_403 rfl) f4 ?_
  refine ey_iconst (cd_403 rfl) ?_
  refine ey_iadd (cd_403 rfl) ?_
  obtain ⟨v1291, e1292, e⟩ := jbind e
  refine ey_iasc (cd_403 rfl) e1292 ?_
  refine ey_aload_n (cd_403 rfl) f3 ?_
  obtain ⟨q1293, e1294, e⟩ := jbind e
  refine ey_cs (s0 := [jR x3, jI v1291, jI v1289, jR x1]) (s1 := []) (st' := [jI q1293.1]) (cd_403 rfl) mt_403 mt_400 rfl (by decide) rfl rfl (jsml_s rfl) rfl (mm_Runs.up (d := 3) (by decide) (ok_400 e1294)) ?_
  refine ey_istore (cd_403 rfl) mt_403 rfl ?_
  refine ey_aload_n (cd_403 rfl) f2 ?_
  refine ey_aload_n (cd_403 rfl) f0 ?_
  refine ey_iload (cd_403 rfl) (jup_pi (lv := lv) (j := 4) (v := jI q1293.1) (z := x4) f4) ?_
  refine ey_iconst (cd_403 rfl) ?_
  refine ey_iadd (cd_403 rfl) ?_
  obtain ⟨v1295, e1296, e⟩ := jbind e
  refine ey_iasc (cd_403 rfl) e1296 ?_
  refine ey_aload_n (cd_403 rfl) f0 ?_
  refine ey_iload (cd_403 rfl) (jup_pi (lv := lv) (j := 4) (v := jI q1293.1) (z := x4) f4) ?_
  refine ey_iconst (cd_403 rfl) ?_
  refine ey_iadd (cd_403 rfl) ?_
  obtain ⟨v1297, e1298, e⟩ := jbind e
  refine ey_iasc (cd_403 rfl) e1298 ?_
  obtain ⟨a1299, e1300, e⟩ := jbind e
  refine ey_rs (s0 := [jI v1297, jI v1295, jR x2]) (s1 := [jI v1297, jI v1295, jR (some a1299)]) (by rw [e1300]) ?_
  obtain ⟨u1301, e1302, e⟩ := jbind e
  have w1303 := jlk_s e1302
  refine ey_rs (s0 := [jI v1297, jI v1295, jR (some a1299)]) (s1 := [jI v1297, jI v1295, jR (some 76)]) (by rw [w1303.1]) ?_
  obtain ⟨q1304, e1305, e⟩ := jbind e
  refine ey_cv (s0 := [jI v1297, jI v1295, jR (some 76)]) (s1 := []) (st' := [jI q1304.1]) (cd_403 rfl) mt_403 mt_362 rfl rfl rfl ⟨Nat.lt_of_lt_of_le (by decide) w1303.2.1, w1303.2.2.2.1⟩ rfl (jsml_s rfl) rfl (mm_Runs.up (d := 3) (by decide) (by have w := ok_362 (L := L) (xs := xs) (b := q1293.2) (m := jmf q1293.2) w1303.2.1 w1303.2.2.1 e1305; rw [w1303.2.2.2.2] at w; exact w)) ?_
  obtain ⟨h1306, e1307, e⟩ := jbind e
  refine ey_hs (Option.some.inj e1307) ?_
  refine ey_istore (cd_403 rfl) mt_403 rfl ?_
  refine ey_aload_n (cd_403 rfl) f2 ?_
  obtain ⟨a1308, e1309, e⟩ := jbind e
  refine ey_rs (s0 := [jR x2]) (s1 := [jR (some a1308)]) (by rw [e1309]) ?_
  obtain ⟨u1310, e1311, e⟩ := jbind e
  have w1312 := jlk_s e1311
  refine ey_rs (s0 := [jR (some a1308)]) (s1 := [jR (some 76)]) (by rw [w1312.1]) ?_
  refine ey_cv (s0 := [jR (some 76)]) (s1 := []) (st' := [jI (jd_203 (jmf h1306))]) (cd_403 rfl) mt_403 mt_203 rfl rfl rfl ⟨Nat.lt_of_lt_of_le (by decide) w1312.2.1, w1312.2.2.2.1⟩ rfl (jsml_s rfl) rfl (mm_Runs.up (d := 1) (by decide) (by have w := ok_203 (L := L) (xs := xs) (b := h1306) (m := jmf h1306) w1312.2.1 w1312.2.2.1 ; rw [w1312.2.2.2.2] at w; exact w)) ?_
  refine ey_iload (cd_403 rfl) (jup_pi (lv := (jup lv 5 (jI q1293.1))) (j := 5) (v := jI q1304.1) (z := q1293.1) rfl) ?_
  by_cases q1313 : (jw (jd_203 (jmf h1306))) = (jw q1293.1)
  · rw [if_pos q1313] at e
    refine ey_ceq (cd_403 rfl) rfl rfl rfl q1313 ?_
    refine ey_iload (cd_403 rfl) (jup_pi (lv := (jup lv 5 (jI q1293.1))) (j := 5) (v := jI q1304.1) (z := q1293.1) rfl) ?_
    by_cases q1314 : (jw q1293.1) = 0
    · rw [if_pos q1314] at e
      refine ey_yne (cd_403 rfl) rfl rfl (fun w => w q1314) ?_
      refine ey_aload_n (cd_403 rfl) f3 ?_
      refine ey_iconst (cd_403 rfl) ?_
      obtain ⟨a1315, e1316, e⟩ := jbind e
      refine ey_rs (s0 := [jI 0, jR x3]) (s1 := [jI 0, jR (some a1315)]) (by rw [e1316]) ?_
      obtain ⟨v1317, e1318, e⟩ := jbind e
      refine ey_lald (cd_403 rfl) e1318 ?_
      refine ey_iload (cd_403 rfl) rfl ?_
      refine ey_i2l (cd_403 rfl) ?_
      refine ey_lcmp (cd_403 rfl) ?_
      by_cases q1319 : (jwl v1317) = (jw q1304.1)
      · rw [if_pos q1319] at e
        refine ey_zeq (cd_403 rfl) rfl rfl ((jlc_eq rfl (jwl_jw _)).mpr q1319) ?_
        exact jk_403_b3018 e K (jup (jup lv 5 (jI q1293.1)) 6 (jI q1304.1)) f0 f1 f2 f3 (jup_o rfl (jup_pi (lv := lv) (j := 4) (v := jI q1293.1) (z := x4) f4))
      · rw [if_neg q1319] at e
        refine ey_yeq (cd_403 rfl) rfl rfl (fun w => q1319 ((jlc_eq rfl (jwl_jw _)).mp w)) ?_
        cases e
    · rw [if_neg q1314] at e
      refine ey_zne (cd_403 rfl) rfl rfl q1314 ?_
      exact jk_403_b3018 e K (jup (jup lv 5 (jI q1293.1)) 6 (jI q1304.1)) f0 f1 f2 f3 (jup_o rfl (jup_pi (lv := lv) (j := 4) (v := jI q1293.1) (z := x4) f4))
  · rw [if_neg q1313] at e
    refine ey_neq (cd_403 rfl) rfl rfl rfl q1313 ?_
    cases e
set_option maxRecDepth 100000 in
theorem jk_403_b3110 {L : Nat} {xs : Nat → Int32} {x1 : Option Nat} {x2 : Option Nat} {x3 : Option Nat} {x4 : Int} {h : jH} {o : ((Int × jH) ⊕ jH)} {r : mm_R} (e : jd_403_b3110 L xs x1 x2 x3 x4 h = some o) (K : jsm (fun s => (∀ lv : jL, lv 0 = some (jR (some 1000000)) → lv 1 = some (jR x1) → lv 2 = some (jR x2) → lv 3 = some (jR x3) → lv 4 = some (jI s.1) → ey (mm_xt L xs) 72 403 23 lv [] s.2 r)) (fun x => (∀ lv : jL, ey (mm_xt L xs) 72 403 3175 lv [] x r)) o) : ∀ lv : jL, lv 0 = some (jR (some 1000000)) → lv 1 = some (jR x1) → lv 2 = some (jR x2) → lv 3 = some (jR x3) → lv 4 = some (jI x4) → ey (mm_xt L xs) 72 403 3110 lv [] h r := by
  intro lv f0 f1 f2 f3 f4
  unfold jd_403_b3110 at e
  refine ey_goto (cd_403 rfl) rfl ?_
  exact jk_403_b3169 e K lv f0 f1 f2 f3 f4
set_option maxRecDepth 100000 in
theorem jk_403_b3021 {L : Nat} {xs : Nat → Int32} {x1 : Option Nat} {x2 : Option Nat} {x3 : Option Nat} {x4 : Int} {h : jH} {o : ((Int × jH) ⊕ jH)} {r : mm_R} (e : jd_403_b3021 L xs x1 x2 x3 x4 h = some o) (K : jsm (fun s => (∀ lv : jL, lv 0 = some (jR (some 1000000)) → lv 1 = some (jR x1) → lv 2 = some (jR x2) → lv 3 = some (jR x3) → lv 4 = some (jI s.1) → ey (mm_xt L xs) 72 403 23 lv [] s.2 r)) (fun x => (∀ lv : jL, ey (mm_xt L xs) 72 403 3175 lv [] x r)) o) : ∀ lv : jL, lv 0 = some (jR (some 1000000)) → lv 1 = some (jR x1) → lv 2 = some (jR x2) → lv 3 = some (jR x3) → lv 4 = some (jI x4) → ey (mm_xt L xs) 72 403 3021 lv [] h r := by
  intro lv f0 f1 f2 f3 f4
  unfold jd_403_b3021 at e
  refine ey_aload_n (cd_403 rfl) f1 ?_
  refine ey_aload_n (cd_403 rfl) f0 ?_
  refine ey_iload (cd_403 rfl) f4 ?_
  refine ey_iconst (cd_403 rfl) ?_
  refine ey_iadd (cd_403 rfl) ?_
  obtain ⟨v1321, e1322, e⟩ := jbind e
  refine ey_iasc (cd_403 rfl) e1322 ?_
  refine ey_aload_n (cd_403 rfl) f0 ?_
  refine ey_iload (cd_403 rfl) f4 ?_
  refine ey_iconst (cd_403 rfl) ?_
  refine ey_iadd (cd_403 rfl) ?_
  obtain ⟨v1323, e1324, e⟩ := jbind e
  refine ey_iasc (cd_403 rfl) e1324 ?_
  refine ey_aload_n (cd_403 rfl) f0 ?_
  refine ey_iload (cd_403 rfl) f4 ?_
  refine ey_iconst (cd_403 rfl) ?_
  refine ey_iadd (cd_403 rfl) ?_
  obtain ⟨v1325, e1326, e⟩ := jbind e
  refine ey_iasc (cd_403 rfl) e1326 ?_
  refine ey_aload_n (cd_403 rfl) f0 ?_
  refine ey_iload (cd_403 rfl) f4 ?_
  refine ey_iconst (cd_403 rfl) ?_
  refine ey_iadd (cd_403 rfl) ?_
  obtain ⟨v1327, e1328, e⟩ := jbind e
  refine ey_iasc (cd_403 rfl) e1328 ?_
  refine ey_aload_n (cd_403 rfl) f3 ?_
  obtain ⟨q1329, e1330, e⟩ := jbind e
  refine ey_cs (s0 := [jR x3, jI v1327, jI v1325, jI v1323, jI v1321, jR x1]) (s1 := []) (st' := [jI q1329.1]) (cd_403 rfl) mt_403 mt_401 rfl (by decide) rfl rfl (jsml_s rfl) rfl (mm_Runs.up (d := 4) (by decide) (ok_401 e1330)) ?_
  refine ey_istore (cd_403 rfl) mt_403 rfl ?_
  refine ey_aload_n (cd_403 rfl) f2 ?_
  refine ey_aload_n (cd_403 rfl) f0 ?_
  refine ey_iload (cd_403 rfl) (jup_pi (lv := lv) (j := 4) (v := jI q1329.1) (z := x4) f4) ?_
  refine ey_iconst (cd_403 rfl) ?_
  refine ey_iadd (cd_403 rfl) ?_
  obtain ⟨v1331, e1332, e⟩ := jbind e
  refine ey_iasc (cd_403 rfl) e1332 ?_
  refine ey_aload_n (cd_403 rfl) f0 ?_
  refine ey_iload (cd_403 rfl) (jup_pi (lv := lv) (j := 4) (v := jI q1329.1) (z := x4) f4) ?_
  refine ey_iconst (cd_403 rfl) ?_
  refine ey_iadd (cd_403 rfl) ?_
  obtain ⟨v1333, e1334, e⟩ := jbind e
  refine ey_iasc (cd_403 rfl) e1334 ?_
  refine ey_aload_n (cd_403 rfl) f0 ?_
  refine ey_iload (cd_403 rfl) (jup_pi (lv := lv) (j := 4) (v := jI q1329.1) (z := x4) f4) ?_
  refine ey_iconst (cd_403 rfl) ?_
  refine ey_iadd (cd_403 rfl) ?_
  obtain ⟨v1335, e1336, e⟩ := jbind e
  refine ey_iasc (cd_403 rfl) e1336 ?_
  refine ey_aload_n (cd_403 rfl) f0 ?_
  refine ey_iload (cd_403 rfl) (jup_pi (lv := lv) (j := 4) (v := jI q1329.1) (z := x4) f4) ?_
  refine ey_iconst (cd_403 rfl) ?_
  refine ey_iadd (cd_403 rfl) ?_
  obtain ⟨v1337, e1338, e⟩ := jbind e
  refine ey_iasc (cd_403 rfl) e1338 ?_
  obtain ⟨a1339, e1340, e⟩ := jbind e
  refine ey_rs (s0 := [jI v1337, jI v1335, jI v1333, jI v1331, jR x2]) (s1 := [jI v1337, jI v1335, jI v1333, jI v1331, jR (some a1339)]) (by rw [e1340]) ?_
  obtain ⟨u1341, e1342, e⟩ := jbind e
  have w1343 := jlk_s e1342
  refine ey_rs (s0 := [jI v1337, jI v1335, jI v1333, jI v1331, jR (some a1339)]) (s1 := [jI v1337, jI v1335, jI v1333, jI v1331, jR (some 76)]) (by rw [w1343.1]) ?_
  obtain ⟨q1344, e1345, e⟩ := jbind e
  refine ey_cv (s0 := [jI v1337, jI v1335, jI v1333, jI v1331, jR (some 76)]) (s1 := []) (st' := [jI q1344.1]) (cd_403 rfl) mt_403 mt_363 rfl rfl rfl ⟨Nat.lt_of_lt_of_le (by decide) w1343.2.1, w1343.2.2.2.1⟩ rfl (jsml_s rfl) rfl (mm_Runs.up (d := 3) (by decide) (by have w := ok_363 (L := L) (xs := xs) (b := q1329.2) (m := jmf q1329.2) w1343.2.1 w1343.2.2.1 e1345; rw [w1343.2.2.2.2] at w; exact w)) ?_
  obtain ⟨h1346, e1347, e⟩ := jbind e
  refine ey_hs (Option.some.inj e1347) ?_
  refine ey_istore (cd_403 rfl) mt_403 rfl ?_
  refine ey_aload_n (cd_403 rfl) f2 ?_
  obtain ⟨a1348, e1349, e⟩ := jbind e
  refine ey_rs (s0 := [jR x2]) (s1 := [jR (some a1348)]) (by rw [e1349]) ?_
  obtain ⟨u1350, e1351, e⟩ := jbind e
  have w1352 := jlk_s e1351
  refine ey_rs (s0 := [jR (some a1348)]) (s1 := [jR (some 76)]) (by rw [w1352.1]) ?_
  refine ey_cv (s0 := [jR (some 76)]) (s1 := []) (st' := [jI (jd_203 (jmf h1346))]) (cd_403 rfl) mt_403 mt_203 rfl rfl rfl ⟨Nat.lt_of_lt_of_le (by decide) w1352.2.1, w1352.2.2.2.1⟩ rfl (jsml_s rfl) rfl (mm_Runs.up (d := 1) (by decide) (by have w := ok_203 (L := L) (xs := xs) (b := h1346) (m := jmf h1346) w1352.2.1 w1352.2.2.1 ; rw [w1352.2.2.2.2] at w; exact w)) ?_
  refine ey_iload (cd_403 rfl) (jup_pi (lv := (jup lv 5 (jI q1329.1))) (j := 5) (v := jI q1344.1) (z := q1329.1) rfl) ?_
  by_cases q1353 : (jw (jd_203 (jmf h1346))) = (jw q1329.1)
  · rw [if_pos q1353] at e
    refine ey_ceq (cd_403 rfl) rfl rfl rfl q1353 ?_
    refine ey_iload (cd_403 rfl) (jup_pi (lv := (jup lv 5 (jI q1329.1))) (j := 5) (v := jI q1344.1) (z := q1329.1) rfl) ?_
    by_cases q1354 : (jw q1329.1) = 0
    · rw [if_pos q1354] at e
      refine ey_yne (cd_403 rfl) rfl rfl (fun w => w q1354) ?_
      refine ey_aload_n (cd_403 rfl) f3 ?_
      refine ey_iconst (cd_403 rfl) ?_
      obtain ⟨a1355, e1356, e⟩ := jbind e
      refine ey_rs (s0 := [jI 0, jR x3]) (s1 := [jI 0, jR (some a1355)]) (by rw [e1356]) ?_
      obtain ⟨v1357, e1358, e⟩ := jbind e
      refine ey_lald (cd_403 rfl) e1358 ?_
      refine ey_iload (cd_403 rfl) rfl ?_
      refine ey_i2l (cd_403 rfl) ?_
      refine ey_lcmp (cd_403 rfl) ?_
      by_cases q1359 : (jwl v1357) = (jw q1344.1)
      · rw [if_pos q1359] at e
        refine ey_zeq (cd_403 rfl) rfl rfl ((jlc_eq rfl (jwl_jw _)).mpr q1359) ?_
        exact jk_403_b3110 e K (jup (jup lv 5 (jI q1329.1)) 6 (jI q1344.1)) f0 f1 f2 f3 (jup_o rfl (jup_pi (lv := lv) (j := 4) (v := jI q1329.1) (z := x4) f4))
      · rw [if_neg q1359] at e
        refine ey_yeq (cd_403 rfl) rfl rfl (fun w => q1359 ((jlc_eq rfl (jwl_jw _)).mp w)) ?_
        cases e
    · rw [if_neg q1354] at e
      refine ey_zne (cd_403 rfl) rfl rfl q1354 ?_
      exact jk_403_b3110 e K (jup (jup lv 5 (jI q1329.1)) 6 (jI q1344.1)) f0 f1 f2 f3 (jup_o rfl (jup_pi (lv := lv) (j := 4) (v := jI q1329.1) (z := x4) f4))
  · rw [if_neg q1353] at e
    refine ey_neq (cd_403 rfl) rfl rfl rfl q1353 ?_
    cases e
set_option maxRecDepth 100000 in
theorem jk_403_b3166 {L : Nat} {xs : Nat → Int32} {x1 : Option Nat} {x2 : Option Nat} {x3 : Option Nat} {x4 : Int} {h : jH} {o : ((Int × jH) ⊕ jH)} {r : mm_R} (e : jd_403_b3166 L xs x1 x2 x3 x4 h = some o) (K : jsm (fun s => (∀ lv : jL, lv 0 = some (jR (some 1000000)) → lv 1 = some (jR x1) → lv 2 = some (jR x2) → lv 3 = some (jR x3) → lv 4 = some (jI s.1) → ey (mm_xt L xs) 72 403 23 lv [] s.2 r)) (fun x => (∀ lv : jL, ey (mm_xt L xs) 72 403 3175 lv [] x r)) o) : ∀ lv : jL, lv 0 = some (jR (some 1000000)) → lv 1 = some (jR x1) → lv 2 = some (jR x2) → lv 3 = some (jR x3) → lv 4 = some (jI x4) → ey (mm_xt L xs) 72 403 3166 lv [] h r := by
  intro lv f0 f1 f2 f3 f4
  unfold jd_403_b3166 at e
  refine ey_goto (cd_403 rfl) rfl ?_
  exact jk_403_b3169 e K lv f0 f1 f2 f3 f4
set_option maxRecDepth 100000 in
theorem jk_403_b3113 {L : Nat} {xs : Nat → Int32} {x1 : Option Nat} {x2 : Option Nat} {x3 : Option Nat} {x4 : Int} {h : jH} {o : ((Int × jH) ⊕ jH)} {r : mm_R} (e : jd_403_b3113 L xs x1 x2 x3 x4 h = some o) (K : jsm (fun s => (∀ lv : jL, lv 0 = some (jR (some 1000000)) → lv 1 = some (jR x1) → lv 2 = some (jR x2) → lv 3 = some (jR x3) → lv 4 = some (jI s.1) → ey (mm_xt L xs) 72 403 23 lv [] s.2 r)) (fun x => (∀ lv : jL, ey (mm_xt L xs) 72 403 3175 lv [] x r)) o) : ∀ lv : jL, lv 0 = some (jR (some 1000000)) → lv 1 = some (jR x1) → lv 2 = some (jR x2) → lv 3 = some (jR x3) → lv 4 = some (jI x4) → ey (mm_xt L xs) 72 403 3113 lv [] h r := by
  intro lv f0 f1 f2 f3 f4
  unfold jd_403_b3113 at e
  refine ey_aload_n (cd_403 rfl) f1 ?_
  refine ey_aload_n (cd_403 rfl) f0 ?_
  refine ey_iload (cd_403 rfl) f4 ?_
  refine ey_iconst (cd_403 rfl) ?_
  refine ey_iadd (cd_403 rfl) ?_
  obtain ⟨v1361, e1362, e⟩ := jbind e
  refine ey_iasc (cd_403 rfl) e1362 ?_
  refine ey_aload_n (cd_403 rfl) f3 ?_
  obtain ⟨q1363, e1364, e⟩ := jbind e
  refine ey_cs (s0 := [jR x3, jI v1361, jR x1]) (s1 := []) (st' := [jI q1363.1]) (cd_403 rfl) mt_403 mt_402 rfl (by decide) rfl rfl (jsml_s rfl) rfl (mm_Runs.up (d := 3) (by decide) (ok_402 e1364)) ?_
  refine ey_istore (cd_403 rfl) mt_403 rfl ?_
  refine ey_aload_n (cd_403 rfl) f2 ?_
  refine ey_aload_n (cd_403 rfl) f0 ?_
  refine ey_iload (cd_403 rfl) (jup_pi (lv := lv) (j := 4) (v := jI q1363.1) (z := x4) f4) ?_
  refine ey_iconst (cd_403 rfl) ?_
  refine ey_iadd (cd_403 rfl) ?_
  obtain ⟨v1365, e1366, e⟩ := jbind e
  refine ey_iasc (cd_403 rfl) e1366 ?_
  obtain ⟨a1367, e1368, e⟩ := jbind e
  refine ey_rs (s0 := [jI v1365, jR x2]) (s1 := [jI v1365, jR (some a1367)]) (by rw [e1368]) ?_
  obtain ⟨u1369, e1370, e⟩ := jbind e
  have w1371 := jlk_s e1370
  refine ey_rs (s0 := [jI v1365, jR (some a1367)]) (s1 := [jI v1365, jR (some 76)]) (by rw [w1371.1]) ?_
  obtain ⟨q1372, e1373, e⟩ := jbind e
  refine ey_cv (s0 := [jI v1365, jR (some 76)]) (s1 := []) (st' := [jI q1372.1]) (cd_403 rfl) mt_403 mt_364 rfl rfl rfl ⟨Nat.lt_of_lt_of_le (by decide) w1371.2.1, w1371.2.2.2.1⟩ rfl (jsml_s rfl) rfl (mm_Runs.up (d := 2) (by decide) (by have w := ok_364 (L := L) (xs := xs) (b := q1363.2) (m := jmf q1363.2) w1371.2.1 w1371.2.2.1 e1373; rw [w1371.2.2.2.2] at w; exact w)) ?_
  obtain ⟨h1374, e1375, e⟩ := jbind e
  refine ey_hs (Option.some.inj e1375) ?_
  refine ey_istore (cd_403 rfl) mt_403 rfl ?_
  refine ey_aload_n (cd_403 rfl) f2 ?_
  obtain ⟨a1376, e1377, e⟩ := jbind e
  refine ey_rs (s0 := [jR x2]) (s1 := [jR (some a1376)]) (by rw [e1377]) ?_
  obtain ⟨u1378, e1379, e⟩ := jbind e
  have w1380 := jlk_s e1379
  refine ey_rs (s0 := [jR (some a1376)]) (s1 := [jR (some 76)]) (by rw [w1380.1]) ?_
  refine ey_cv (s0 := [jR (some 76)]) (s1 := []) (st' := [jI (jd_203 (jmf h1374))]) (cd_403 rfl) mt_403 mt_203 rfl rfl rfl ⟨Nat.lt_of_lt_of_le (by decide) w1380.2.1, w1380.2.2.2.1⟩ rfl (jsml_s rfl) rfl (mm_Runs.up (d := 1) (by decide) (by have w := ok_203 (L := L) (xs := xs) (b := h1374) (m := jmf h1374) w1380.2.1 w1380.2.2.1 ; rw [w1380.2.2.2.2] at w; exact w)) ?_
  refine ey_iload (cd_403 rfl) (jup_pi (lv := (jup lv 5 (jI q1363.1))) (j := 5) (v := jI q1372.1) (z := q1363.1) rfl) ?_
  by_cases q1381 : (jw (jd_203 (jmf h1374))) = (jw q1363.1)
  · rw [if_pos q1381] at e
    refine ey_ceq (cd_403 rfl) rfl rfl rfl q1381 ?_
    refine ey_iload (cd_403 rfl) (jup_pi (lv := (jup lv 5 (jI q1363.1))) (j := 5) (v := jI q1372.1) (z := q1363.1) rfl) ?_
    by_cases q1382 : (jw q1363.1) = 0
    · rw [if_pos q1382] at e
      refine ey_yne (cd_403 rfl) rfl rfl (fun w => w q1382) ?_
      refine ey_aload_n (cd_403 rfl) f3 ?_
      refine ey_iconst (cd_403 rfl) ?_
      obtain ⟨a1383, e1384, e⟩ := jbind e
      refine ey_rs (s0 := [jI 0, jR x3]) (s1 := [jI 0, jR (some a1383)]) (by rw [e1384]) ?_
      obtain ⟨v1385, e1386, e⟩ := jbind e
      refine ey_lald (cd_403 rfl) e1386 ?_
      refine ey_iload (cd_403 rfl) rfl ?_
      refine ey_i2l (cd_403 rfl) ?_
      refine ey_lcmp (cd_403 rfl) ?_
      by_cases q1387 : (jwl v1385) = (jw q1372.1)
      · rw [if_pos q1387] at e
        refine ey_zeq (cd_403 rfl) rfl rfl ((jlc_eq rfl (jwl_jw _)).mpr q1387) ?_
        exact jk_403_b3166 e K (jup (jup lv 5 (jI q1363.1)) 6 (jI q1372.1)) f0 f1 f2 f3 (jup_o rfl (jup_pi (lv := lv) (j := 4) (v := jI q1363.1) (z := x4) f4))
      · rw [if_neg q1387] at e
        refine ey_yeq (cd_403 rfl) rfl rfl (fun w => q1387 ((jlc_eq rfl (jwl_jw _)).mp w)) ?_
        cases e
    · rw [if_neg q1382] at e
      refine ey_zne (cd_403 rfl) rfl rfl q1382 ?_
      exact jk_403_b3166 e K (jup (jup lv 5 (jI q1363.1)) 6 (jI q1372.1)) f0 f1 f2 f3 (jup_o rfl (jup_pi (lv := lv) (j := 4) (v := jI q1363.1) (z := x4) f4))
  · rw [if_neg q1381] at e
    refine ey_neq (cd_403 rfl) rfl rfl rfl q1381 ?_
    cases e
set_option maxRecDepth 100000 in
theorem jk_403_s23 {L : Nat} {xs : Nat → Int32} {x1 : Option Nat} {x2 : Option Nat} {x3 : Option Nat} {x4 : Int} {h : jH} {o : ((Int × jH) ⊕ jH)} {r : mm_R} (e : jd_403_s23 L xs x1 x2 x3 x4 h = some o) (K : jsm (fun s => (∀ lv : jL, lv 0 = some (jR (some 1000000)) → lv 1 = some (jR x1) → lv 2 = some (jR x2) → lv 3 = some (jR x3) → lv 4 = some (jI s.1) → ey (mm_xt L xs) 72 403 23 lv [] s.2 r)) (fun x => (∀ lv : jL, ey (mm_xt L xs) 72 403 3175 lv [] x r)) o) : ∀ lv : jL, lv 0 = some (jR (some 1000000)) → lv 1 = some (jR x1) → lv 2 = some (jR x2) → lv 3 = some (jR x3) → lv 4 = some (jI x4) → ey (mm_xt L xs) 72 403 23 lv [] h r := by
  intro lv f0 f1 f2 f3 f4
  unfold jd_403_s23 at e
  refine ey_iload (cd_403 rfl) f4 ?_
  refine ey_aload_n (cd_403 rfl) f0 ?_
  refine ey_lenc (cd_403 rfl) ?_
  refine ey_bipush (cd_403 rfl) (by decide) ?_
  refine ey_isub (cd_403 rfl) ?_
  by_cases q11 : (jw ((L : Int) - 8)) < (jw x4)
  · rw [if_pos q11] at e
    refine ey_cgt (cd_403 rfl) rfl rfl rfl q11 ?_
    cases e
    exact K lv 
  · rw [if_neg q11] at e
    refine ey_ngt (cd_403 rfl) rfl rfl rfl q11 ?_
    refine ey_aload_n (cd_403 rfl) f0 ?_
    refine ey_iload (cd_403 rfl) f4 ?_
    obtain ⟨v12, e13, e⟩ := jbind e
    refine ey_iasc (cd_403 rfl) e13 ?_
    refine ey_bipush (cd_403 rfl) (by decide) ?_
    refine ey_iand (cd_403 rfl) ?_
    by_cases q14 : (jw (jand v12 63)) = 0
    · rw [if_pos q14] at e
      refine ey_tsw (cd_403 rfl) q14 (by decide) rfl rfl ?_
      exact jk_403_b224 e K lv f0 f1 f2 f3 f4
    · rw [if_neg q14] at e
      by_cases q58 : (jw (jand v12 63)) = 1
      · rw [if_pos q58] at e
        refine ey_tsw (cd_403 rfl) q58 (by decide) rfl rfl ?_
        exact jk_403_b328 e K lv f0 f1 f2 f3 f4
      · rw [if_neg q58] at e
        by_cases q110 : (jw (jand v12 63)) = 2
        · rw [if_pos q110] at e
          refine ey_tsw (cd_403 rfl) q110 (by decide) rfl rfl ?_
          exact jk_403_b460 e K lv f0 f1 f2 f3 f4
        · rw [if_neg q110] at e
          by_cases q148 : (jw (jand v12 63)) = 3
          · rw [if_pos q148] at e
            refine ey_tsw (cd_403 rfl) q148 (by decide) rfl rfl ?_
            exact jk_403_b564 e K lv f0 f1 f2 f3 f4
          · rw [if_neg q148] at e
            by_cases q184 : (jw (jand v12 63)) = 4
            · rw [if_pos q184] at e
              refine ey_tsw (cd_403 rfl) q184 (by decide) rfl rfl ?_
              exact jk_403_b644 e K lv f0 f1 f2 f3 f4
            · rw [if_neg q184] at e
              by_cases q228 : (jw (jand v12 63)) = 5
              · rw [if_pos q228] at e
                refine ey_tsw (cd_403 rfl) q228 (by decide) rfl rfl ?_
                exact jk_403_b748 e K lv f0 f1 f2 f3 f4
              · rw [if_neg q228] at e
                by_cases q268 : (jw (jand v12 63)) = 6
                · rw [if_pos q268] at e
                  refine ey_tsw (cd_403 rfl) q268 (by decide) rfl rfl ?_
                  exact jk_403_b840 e K lv f0 f1 f2 f3 f4
                · rw [if_neg q268] at e
                  by_cases q300 : (jw (jand v12 63)) = 7
                  · rw [if_pos q300] at e
                    refine ey_tsw (cd_403 rfl) q300 (by decide) rfl rfl ?_
                    exact jk_403_b908 e K lv f0 f1 f2 f3 f4
                  · rw [if_neg q300] at e
                    by_cases q328 : (jw (jand v12 63)) = 8
                    · rw [if_pos q328] at e
                      refine ey_tsw (cd_403 rfl) q328 (by decide) rfl rfl ?_
                      exact jk_403_b964 e K lv f0 f1 f2 f3 f4
                    · rw [if_neg q328] at e
                      by_cases q364 : (jw (jand v12 63)) = 9
                      · rw [if_pos q364] at e
                        refine ey_tsw (cd_403 rfl) q364 (by decide) rfl rfl ?_
                        exact jk_403_b1064 e K lv f0 f1 f2 f3 f4
                      · rw [if_neg q364] at e
                        by_cases q396 : (jw (jand v12 63)) = 10
                        · rw [if_pos q396] at e
                          refine ey_tsw (cd_403 rfl) q396 (by decide) rfl rfl ?_
                          exact jk_403_b1132 e K lv f0 f1 f2 f3 f4
                        · rw [if_neg q396] at e
                          by_cases q417 : (jw (jand v12 63)) = 11
                          · rw [if_pos q417] at e
                            refine ey_tsw (cd_403 rfl) q417 (by decide) rfl rfl ?_
                            exact jk_403_b1157 e K lv f0 f1 f2 f3 f4
                          · rw [if_neg q417] at e
                            by_cases q434 : (jw (jand v12 63)) = 12
                            · rw [if_pos q434] at e
                              refine ey_tsw (cd_403 rfl) q434 (by decide) rfl rfl ?_
                              exact jk_403_b1170 e K lv f0 f1 f2 f3 f4
                            · rw [if_neg q434] at e
                              by_cases q466 : (jw (jand v12 63)) = 13
                              · rw [if_pos q466] at e
                                refine ey_tsw (cd_403 rfl) q466 (by decide) rfl rfl ?_
                                exact jk_403_b1238 e K lv f0 f1 f2 f3 f4
                              · rw [if_neg q466] at e
                                by_cases q494 : (jw (jand v12 63)) = 14
                                · rw [if_pos q494] at e
                                  refine ey_tsw (cd_403 rfl) q494 (by decide) rfl rfl ?_
                                  exact jk_403_b1294 e K lv f0 f1 f2 f3 f4
                                · rw [if_neg q494] at e
                                  by_cases q511 : (jw (jand v12 63)) = 15
                                  · rw [if_pos q511] at e
                                    refine ey_tsw (cd_403 rfl) q511 (by decide) rfl rfl ?_
                                    exact jk_403_b1307 e K lv f0 f1 f2 f3 f4
                                  · rw [if_neg q511] at e
                                    by_cases q539 : (jw (jand v12 63)) = 16
                                    · rw [if_pos q539] at e
                                      refine ey_tsw (cd_403 rfl) q539 (by decide) rfl rfl ?_
                                      exact jk_403_b1363 e K lv f0 f1 f2 f3 f4
                                    · rw [if_neg q539] at e
                                      by_cases q563 : (jw (jand v12 63)) = 17
                                      · rw [if_pos q563] at e
                                        refine ey_tsw (cd_403 rfl) q563 (by decide) rfl rfl ?_
                                        exact jk_403_b1407 e K lv f0 f1 f2 f3 f4
                                      · rw [if_neg q563] at e
                                        by_cases q591 : (jw (jand v12 63)) = 18
                                        · rw [if_pos q591] at e
                                          refine ey_tsw (cd_403 rfl) q591 (by decide) rfl rfl ?_
                                          exact jk_403_b1463 e K lv f0 f1 f2 f3 f4
                                        · rw [if_neg q591] at e
                                          by_cases q623 : (jw (jand v12 63)) = 19
                                          · rw [if_pos q623] at e
                                            refine ey_tsw (cd_403 rfl) q623 (by decide) rfl rfl ?_
                                            exact jk_403_b1531 e K lv f0 f1 f2 f3 f4
                                          · rw [if_neg q623] at e
                                            by_cases q659 : (jw (jand v12 63)) = 20
                                            · rw [if_pos q659] at e
                                              refine ey_tsw (cd_403 rfl) q659 (by decide) rfl rfl ?_
                                              exact jk_403_b1611 e K lv f0 f1 f2 f3 f4
                                            · rw [if_neg q659] at e
                                              by_cases q699 : (jw (jand v12 63)) = 21
                                              · rw [if_pos q699] at e
                                                refine ey_tsw (cd_403 rfl) q699 (by decide) rfl rfl ?_
                                                exact jk_403_b1703 e K lv f0 f1 f2 f3 f4
                                              · rw [if_neg q699] at e
                                                by_cases q743 : (jw (jand v12 63)) = 22
                                                · rw [if_pos q743] at e
                                                  refine ey_tsw (cd_403 rfl) q743 (by decide) rfl rfl ?_
                                                  exact jk_403_b1807 e K lv f0 f1 f2 f3 f4
                                                · rw [if_neg q743] at e
                                                  by_cases q789 : (jw (jand v12 63)) = 23
                                                  · rw [if_pos q789] at e
                                                    refine ey_tsw (cd_403 rfl) q789 (by decide) rfl rfl ?_
                                                    exact jk_403_b1918 e K lv f0 f1 f2 f3 f4
                                                  · rw [if_neg q789] at e
                                                    by_cases q821 : (jw (jand v12 63)) = 24
                                                    · rw [if_pos q821] at e
                                                      refine ey_tsw (cd_403 rfl) q821 (by decide) rfl rfl ?_
                                                      exact jk_403_b1986 e K lv f0 f1 f2 f3 f4
                                                    · rw [if_neg q821] at e
                                                      by_cases q861 : (jw (jand v12 63)) = 25
                                                      · rw [if_pos q861] at e
                                                        refine ey_tsw (cd_403 rfl) q861 (by decide) rfl rfl ?_
                                                        exact jk_403_b2078 e K lv f0 f1 f2 f3 f4
                                                      · rw [if_neg q861] at e
                                                        by_cases q897 : (jw (jand v12 63)) = 26
                                                        · rw [if_pos q897] at e
                                                          refine ey_tsw (cd_403 rfl) q897 (by decide) rfl rfl ?_
                                                          exact jk_403_b2158 e K lv f0 f1 f2 f3 f4
                                                        · rw [if_neg q897] at e
                                                          by_cases q921 : (jw (jand v12 63)) = 27
                                                          · rw [if_pos q921] at e
                                                            refine ey_tsw (cd_403 rfl) q921 (by decide) rfl rfl ?_
                                                            exact jk_403_b2202 e K lv f0 f1 f2 f3 f4
                                                          · rw [if_neg q921] at e
                                                            by_cases q955 : (jw (jand v12 63)) = 28
                                                            · rw [if_pos q955] at e
                                                              refine ey_tsw (cd_403 rfl) q955 (by decide) rfl rfl ?_
                                                              exact jk_403_b2277 e K lv f0 f1 f2 f3 f4
                                                            · rw [if_neg q955] at e
                                                              by_cases q972 : (jw (jand v12 63)) = 29
                                                              · rw [if_pos q972] at e
                                                                refine ey_tsw (cd_403 rfl) q972 (by decide) rfl rfl ?_
                                                                exact jk_403_b2290 e K lv f0 f1 f2 f3 f4
                                                              · rw [if_neg q972] at e
                                                                by_cases q996 : (jw (jand v12 63)) = 30
                                                                · rw [if_pos q996] at e
                                                                  refine ey_tsw (cd_403 rfl) q996 (by decide) rfl rfl ?_
                                                                  exact jk_403_b2334 e K lv f0 f1 f2 f3 f4
                                                                · rw [if_neg q996] at e
                                                                  by_cases q1032 : (jw (jand v12 63)) = 31
                                                                  · rw [if_pos q1032] at e
                                                                    refine ey_tsw (cd_403 rfl) q1032 (by decide) rfl rfl ?_
                                                                    exact jk_403_b2414 e K lv f0 f1 f2 f3 f4
                                                                  · rw [if_neg q1032] at e
                                                                    by_cases q1068 : (jw (jand v12 63)) = 32
                                                                    · rw [if_pos q1068] at e
                                                                      refine ey_tsw (cd_403 rfl) q1068 (by decide) rfl rfl ?_
                                                                      exact jk_403_b2494 e K lv f0 f1 f2 f3 f4
                                                                    · rw [if_neg q1068] at e
                                                                      by_cases q1102 : (jw (jand v12 63)) = 33
                                                                      · rw [if_pos q1102] at e
                                                                        refine ey_tsw (cd_403 rfl) q1102 (by decide) rfl rfl ?_
                                                                        exact jk_403_b2569 e K lv f0 f1 f2 f3 f4
                                                                      · rw [if_neg q1102] at e
                                                                        by_cases q1134 : (jw (jand v12 63)) = 34
                                                                        · rw [if_pos q1134] at e
                                                                          refine ey_tsw (cd_403 rfl) q1134 (by decide) rfl rfl ?_
                                                                          exact jk_403_b2637 e K lv f0 f1 f2 f3 f4
                                                                        · rw [if_neg q1134] at e
                                                                          by_cases q1174 : (jw (jand v12 63)) = 35
                                                                          · rw [if_pos q1174] at e
                                                                            refine ey_tsw (cd_403 rfl) q1174 (by decide) rfl rfl ?_
                                                                            exact jk_403_b2729 e K lv f0 f1 f2 f3 f4
                                                                          · rw [if_neg q1174] at e
                                                                            by_cases q1208 : (jw (jand v12 63)) = 36
                                                                            · rw [if_pos q1208] at e
                                                                              refine ey_tsw (cd_403 rfl) q1208 (by decide) rfl rfl ?_
                                                                              exact jk_403_b2801 e K lv f0 f1 f2 f3 f4
                                                                            · rw [if_neg q1208] at e
                                                                              by_cases q1236 : (jw (jand v12 63)) = 37
                                                                              · rw [if_pos q1236] at e
                                                                                refine ey_tsw (cd_403 rfl) q1236 (by decide) rfl rfl ?_
                                                                                exact jk_403_b2857 e K lv f0 f1 f2 f3 f4
                                                                              · rw [if_neg q1236] at e
                                                                                by_cases q1262 : (jw (jand v12 63)) = 38
                                                                                · rw [if_pos q1262] at e
                                                                                  refine ey_tsw (cd_403 rfl) q1262 (by decide) rfl rfl ?_
                                                                                  exact jk_403_b2905 e K lv f0 f1 f2 f3 f4
                                                                                · rw [if_neg q1262] at e
                                                                                  by_cases q1288 : (jw (jand v12 63)) = 39
                                                                                  · rw [if_pos q1288] at e
                                                                                    refine ey_tsw (cd_403 rfl) q1288 (by decide) rfl rfl ?_
                                                                                    exact jk_403_b2953 e K lv f0 f1 f2 f3 f4
                                                                                  · rw [if_neg q1288] at e
                                                                                    by_cases q1320 : (jw (jand v12 63)) = 40
                                                                                    · rw [if_pos q1320] at e
                                                                                      refine ey_tsw (cd_403 rfl) q1320 (by decide) rfl rfl ?_
                                                                                      exact jk_403_b3021 e K lv f0 f1 f2 f3 f4
                                                                                    · rw [if_neg q1320] at e
                                                                                      by_cases q1360 : (jw (jand v12 63)) = 41
                                                                                      · rw [if_pos q1360] at e
                                                                                        refine ey_tsw (cd_403 rfl) q1360 (by decide) rfl rfl ?_
                                                                                        exact jk_403_b3113 e K lv f0 f1 f2 f3 f4
                                                                                      · rw [if_neg q1360] at e
                                                                                        refine ey_tsw_d (cd_403 rfl) (by omega) rfl ?_
                                                                                        exact jk_403_b3169 e K lv f0 f1 f2 f3 f4
theorem jk_403_l23 {L : Nat} {xs : Nat → Int32} {x1 : Option Nat} {x2 : Option Nat} {x3 : Option Nat} {x4 : Int} {h : jH} {x : jH} {r : mm_R} (e : jd_403_l23 L xs x1 x2 x3 x4 h = some x) (K : (∀ lv : jL, ey (mm_xt L xs) 72 403 3175 lv [] x r)) : ∀ lv : jL, lv 0 = some (jR (some 1000000)) → lv 1 = some (jR x1) → lv 2 = some (jR x2) → lv 3 = some (jR x3) → lv 4 = some (jI x4) → ey (mm_xt L xs) 72 403 23 lv [] h r := by
  unfold jd_403_l23 at e
  exact jlp_ok2 (P := fun s => ∀ lv : jL, lv 0 = some (jR (some 1000000)) → lv 1 = some (jR x1) → lv 2 = some (jR x2) → lv 3 = some (jR x3) → lv 4 = some (jI s.1) → ey (mm_xt L xs) 72 403 23 lv [] s.2 r) (Q := fun x => (∀ lv : jL, ey (mm_xt L xs) 72 403 3175 lv [] x r)) (fun s q hq hk => jk_403_s23 hq hk) jfu _ x e K
set_option maxRecDepth 100000 in
theorem ok_403 {L : Nat} {xs : Nat → Int32}  {h : jH} {o : (Int × jH)} (e : jd_403 L xs  h = some o) : mm_Runs (mm_xt L xs) 73 403 ([jR (some 1000000)].map jcv) (jaH h) (.inl (some (jcv (jI o.1)), jaH o.2)) := by
  refine ey_run0 _ mt_403 (jsl_s rfl) ?_
  unfold jd_403 at e
  obtain ⟨n1, e2, e⟩ := jbind e
  refine ey_new (cd_403 rfl) mt_403 rfl rfl jdf_11 e2 ?_
  refine ey_dup (cd_403 rfl) rfl ?_
  obtain ⟨h3, e4, e⟩ := jbind e
  refine ey_ci (s0 := [jR (some n1.1), jR (some n1.1)]) (s1 := [jR (some n1.1)]) (st' := [jR (some n1.1)]) (cd_403 rfl) mt_403 mt_139 rfl (by decide) rfl rfl (jsml_s rfl) rfl (mm_Runs.up (d := 4) (by decide) (ok_139 e4)) ?_
  refine ey_astore_n (cd_403 rfl) mt_403 rfl ?_
  obtain ⟨n5, e6, e⟩ := jbind e
  refine ey_new (cd_403 rfl) mt_403 rfl rfl jdf_12 e6 ?_
  refine ey_dup (cd_403 rfl) rfl ?_
  obtain ⟨h7, e8, e⟩ := jbind e
  refine ey_ci (s0 := [jR (some n5.1), jR (some n5.1)]) (s1 := [jR (some n5.1)]) (st' := [jR (some n5.1)]) (cd_403 rfl) mt_403 mt_202 rfl (by decide) rfl rfl (jsml_s rfl) rfl (mm_Runs.up (d := 1) (by decide) (ok_202 e8)) ?_
  refine ey_astore_n (cd_403 rfl) mt_403 rfl ?_
  refine ey_iconst (cd_403 rfl) ?_
  obtain ⟨n9, e10, e⟩ := jbind e
  refine ey_newarr (cd_403 rfl) (by decide) e10 ?_
  refine ey_astore_n (cd_403 rfl) mt_403 rfl ?_
  refine ey_iconst (cd_403 rfl) ?_
  refine ey_istore (cd_403 rfl) mt_403 rfl ?_
  obtain ⟨x1388, e1389, e⟩ := jbind e
  refine jk_403_l23 e1389 ?_ (jup (jup (jup (jup (jlf (jla 0 [jR (some 1000000)])) 1 (jR (some n1.1))) 2 (jR (some n5.1))) 3 (jR (some n9.1))) 4 (jI 0)) (jup_o rfl (jup_o rfl (jup_o rfl (jup_pr (lv := (jlf (jla 0 [jR (some 1000000)]))) (j := 0) (v := jR (some n1.1)) (z := (some 1000000)) rfl)))) (jup_o rfl (jup_o rfl (jup_pr (lv := (jup (jlf (jla 0 [jR (some 1000000)])) 1 (jR (some n1.1)))) (j := 1) (v := jR (some n5.1)) (z := (some n1.1)) rfl))) (jup_o rfl (jup_pr (lv := (jup (jup (jlf (jla 0 [jR (some 1000000)])) 1 (jR (some n1.1))) 2 (jR (some n5.1)))) (j := 2) (v := jR (some n9.1)) (z := (some n5.1)) rfl)) (jup_pr (lv := (jup (jup (jup (jlf (jla 0 [jR (some 1000000)])) 1 (jR (some n1.1))) 2 (jR (some n5.1))) 3 (jR (some n9.1)))) (j := 3) (v := jI 0) (z := (some n9.1)) rfl) rfl
  intro lv 
  refine ey_iconst (cd_403 rfl) ?_
  cases e
  exact ey_retz (cd_403 rfl) mt_403 rfl (Or.inr rfl)
