/-! where the codes of methods stand in the tables -/
theorem mm_at1 {w : Jvm.Cond} (h : w ∈ tables_1_1) : w ∈ lw_tbl := List.mem_append_right _ (List.mem_append_left _ h)
theorem mm_at2 {w : Jvm.Cond} (h : w ∈ tables_1_2) : w ∈ lw_tbl := List.mem_append_right _ (List.mem_append_right _ (List.mem_append_left _ h))
theorem mm_at3 {w : Jvm.Cond} (h : w ∈ tables_1_3) : w ∈ lw_tbl := List.mem_append_right _ (List.mem_append_right _ (List.mem_append_right _ (List.mem_append_left _ h)))
theorem mm_at4 {w : Jvm.Cond} (h : w ∈ tables_1_4) : w ∈ lw_tbl := List.mem_append_right _ (List.mem_append_right _ (List.mem_append_right _ (List.mem_append_right _ (List.mem_append_left _ h))))
theorem mm_at5 {w : Jvm.Cond} (h : w ∈ tables_1_5) : w ∈ lw_tbl := List.mem_append_right _ (List.mem_append_right _ (List.mem_append_right _ (List.mem_append_right _ (List.mem_append_right _ (List.mem_append_left _ h)))))
theorem mm_at6 {w : Jvm.Cond} (h : w ∈ tables_1_6) : w ∈ lw_tbl := List.mem_append_right _ (List.mem_append_right _ (List.mem_append_right _ (List.mem_append_right _ (List.mem_append_right _ (List.mem_append_right _ (List.mem_append_left _ h))))))
theorem mm_at7 {w : Jvm.Cond} (h : w ∈ tables_1_7) : w ∈ lw_tbl := List.mem_append_right _ (List.mem_append_right _ (List.mem_append_right _ (List.mem_append_right _ (List.mem_append_right _ (List.mem_append_right _ (List.mem_append_right _ (List.mem_append_left _ h)))))))
theorem mm_at8 {w : Jvm.Cond} (h : w ∈ tables_1_8) : w ∈ lw_tbl := List.mem_append_right _ (List.mem_append_right _ (List.mem_append_right _ (List.mem_append_right _ (List.mem_append_right _ (List.mem_append_right _ (List.mem_append_right _ (List.mem_append_right _ (List.mem_append_left _ h))))))))
theorem mm_at9 {w : Jvm.Cond} (h : w ∈ tables_1_9) : w ∈ lw_tbl := List.mem_append_right _ (List.mem_append_right _ (List.mem_append_right _ (List.mem_append_right _ (List.mem_append_right _ (List.mem_append_right _ (List.mem_append_right _ (List.mem_append_right _ (List.mem_append_right _ (List.mem_append_left _ h)))))))))
theorem mm_at10 {w : Jvm.Cond} (h : w ∈ tables_1_10) : w ∈ lw_tbl := List.mem_append_right _ (List.mem_append_right _ (List.mem_append_right _ (List.mem_append_right _ (List.mem_append_right _ (List.mem_append_right _ (List.mem_append_right _ (List.mem_append_right _ (List.mem_append_right _ (List.mem_append_right _ (List.mem_append_left _ h))))))))))
theorem mm_at11 {w : Jvm.Cond} (h : w ∈ tables_1_11) : w ∈ lw_tbl := List.mem_append_right _ (List.mem_append_right _ (List.mem_append_right _ (List.mem_append_right _ (List.mem_append_right _ (List.mem_append_right _ (List.mem_append_right _ (List.mem_append_right _ (List.mem_append_right _ (List.mem_append_right _ (List.mem_append_right _ (List.mem_append_left _ h)))))))))))
theorem mm_at12 {w : Jvm.Cond} (h : w ∈ tables_1_12) : w ∈ lw_tbl := List.mem_append_right _ (List.mem_append_right _ (List.mem_append_right _ (List.mem_append_right _ (List.mem_append_right _ (List.mem_append_right _ (List.mem_append_right _ (List.mem_append_right _ (List.mem_append_right _ (List.mem_append_right _ (List.mem_append_right _ (List.mem_append_right _ (h))))))))))))
set_option maxRecDepth 100000 in
theorem mm_h0 : mm_hw 0 ∈ mm_TW := List.mem_filter.mpr ⟨mm_at1 (List.mem_of_getElem? (i := 48) rfl), rfl⟩
set_option maxRecDepth 100000 in
theorem mm_mf0 : mm_MFP 0 := ⟨mm_h0, mm_TW_of (i := 155) (by decide +kernel) rfl, fun h => absurd h (by decide +kernel), fun _ => mm_TW_of (i := 199) (by decide +kernel) rfl, fun h => absurd h (by decide +kernel), by decide +kernel, by decide +kernel, by decide +kernel, rfl, fun _ => rfl, mm_cdF_of rfl mm_d0⟩
set_option maxRecDepth 100000 in
theorem mm_h1 : mm_hw 1 ∈ mm_TW := List.mem_filter.mpr ⟨mm_at5 (List.mem_of_getElem? (i := 187) rfl), rfl⟩
set_option maxRecDepth 100000 in
theorem mm_mf1 : mm_MFP 1 := ⟨mm_h1, mm_TW_of (i := 155) (by decide +kernel) rfl, fun h => absurd h (by decide +kernel), fun _ => mm_TW_of (i := 1297) (by decide +kernel) rfl, fun _ => mm_TW_of (i := 1298) (by decide +kernel) rfl, by decide +kernel, by decide +kernel, by decide +kernel, rfl, fun h => absurd h (by decide +kernel), mm_cdF_of rfl mm_d1⟩
set_option maxRecDepth 100000 in
theorem mm_h2 : mm_hw 2 ∈ mm_TW := List.mem_filter.mpr ⟨mm_at5 (List.mem_of_getElem? (i := 197) rfl), rfl⟩
set_option maxRecDepth 100000 in
theorem mm_mf2 : mm_MFP 2 := ⟨mm_h2, mm_TW_of (i := 155) (by decide +kernel) rfl, fun h => absurd h (by decide +kernel), fun _ => mm_TW_of (i := 1307) (by decide +kernel) rfl, fun _ => mm_TW_of (i := 1308) (by decide +kernel) rfl, by decide +kernel, by decide +kernel, by decide +kernel, rfl, fun h => absurd h (by decide +kernel), mm_cdF_of rfl mm_d2⟩
set_option maxRecDepth 100000 in
theorem mm_h3 : mm_hw 3 ∈ mm_TW := List.mem_filter.mpr ⟨mm_at6 (List.mem_of_getElem? (i := 25) rfl), rfl⟩
set_option maxRecDepth 100000 in
theorem mm_mf3 : mm_MFP 3 := ⟨mm_h3, mm_TW_of (i := 155) (by decide +kernel) rfl, fun h => absurd h (by decide +kernel), fun _ => mm_TW_of (i := 1375) (by decide +kernel) rfl, fun _ => mm_TW_of (i := 1376) (by decide +kernel) rfl, by decide +kernel, by decide +kernel, by decide +kernel, rfl, fun h => absurd h (by decide +kernel), mm_cdF_of rfl mm_d3⟩
set_option maxRecDepth 100000 in
theorem mm_h4 : mm_hw 4 ∈ mm_TW := List.mem_filter.mpr ⟨mm_at5 (List.mem_of_getElem? (i := 201) rfl), rfl⟩
set_option maxRecDepth 100000 in
theorem mm_mf4 : mm_MFP 4 := ⟨mm_h4, mm_TW_of (i := 155) (by decide +kernel) rfl, fun h => absurd h (by decide +kernel), fun _ => mm_TW_of (i := 1312) (by decide +kernel) rfl, fun _ => mm_TW_of (i := 29) (by decide +kernel) rfl, by decide +kernel, by decide +kernel, by decide +kernel, rfl, fun h => absurd h (by decide +kernel), mm_cdF_of rfl mm_d4⟩
set_option maxRecDepth 100000 in
theorem mm_h5 : mm_hw 5 ∈ mm_TW := List.mem_filter.mpr ⟨mm_at6 (List.mem_of_getElem? (i := 30) rfl), rfl⟩
set_option maxRecDepth 100000 in
theorem mm_mf5 : mm_MFP 5 := ⟨mm_h5, mm_TW_of (i := 155) (by decide +kernel) rfl, fun h => absurd h (by decide +kernel), fun _ => mm_TW_of (i := 1380) (by decide +kernel) rfl, fun _ => mm_TW_of (i := 1381) (by decide +kernel) rfl, by decide +kernel, by decide +kernel, by decide +kernel, rfl, fun h => absurd h (by decide +kernel), mm_cdF_of rfl mm_d5⟩
set_option maxRecDepth 100000 in
theorem mm_h6 : mm_hw 6 ∈ mm_TW := List.mem_filter.mpr ⟨mm_at4 (List.mem_of_getElem? (i := 151) rfl), rfl⟩
set_option maxRecDepth 100000 in
theorem mm_mf6 : mm_MFP 6 := ⟨mm_h6, mm_TW_of (i := 155) (by decide +kernel) rfl, fun h => absurd h (by decide +kernel), fun _ => mm_TW_of (i := 1021) (by decide +kernel) rfl, fun _ => mm_TW_of (i := 1022) (by decide +kernel) rfl, by decide +kernel, by decide +kernel, by decide +kernel, rfl, fun h => absurd h (by decide +kernel), mm_cdF_of rfl mm_d6⟩
set_option maxRecDepth 100000 in
theorem mm_h7 : mm_hw 7 ∈ mm_TW := List.mem_filter.mpr ⟨mm_at5 (List.mem_of_getElem? (i := 30) rfl), rfl⟩
set_option maxRecDepth 100000 in
theorem mm_mf7 : mm_MFP 7 := ⟨mm_h7, mm_TW_of (i := 155) (by decide +kernel) rfl, fun h => absurd h (by decide +kernel), fun _ => mm_TW_of (i := 1140) (by decide +kernel) rfl, fun _ => mm_TW_of (i := 1141) (by decide +kernel) rfl, by decide +kernel, by decide +kernel, by decide +kernel, rfl, fun h => absurd h (by decide +kernel), mm_cdF_of rfl mm_d7⟩
set_option maxRecDepth 100000 in
theorem mm_h8 : mm_hw 8 ∈ mm_TW := List.mem_filter.mpr ⟨mm_at5 (List.mem_of_getElem? (i := 42) rfl), rfl⟩
set_option maxRecDepth 100000 in
theorem mm_mf8 : mm_MFP 8 := ⟨mm_h8, mm_TW_of (i := 155) (by decide +kernel) rfl, fun h => absurd h (by decide +kernel), fun _ => mm_TW_of (i := 1152) (by decide +kernel) rfl, fun _ => mm_TW_of (i := 1153) (by decide +kernel) rfl, by decide +kernel, by decide +kernel, by decide +kernel, rfl, fun h => absurd h (by decide +kernel), mm_cdF_of rfl mm_d8⟩
set_option maxRecDepth 100000 in
theorem mm_h9 : mm_hw 9 ∈ mm_TW := List.mem_filter.mpr ⟨mm_at5 (List.mem_of_getElem? (i := 38) rfl), rfl⟩
set_option maxRecDepth 100000 in
theorem mm_mf9 : mm_MFP 9 := ⟨mm_h9, mm_TW_of (i := 155) (by decide +kernel) rfl, fun h => absurd h (by decide +kernel), fun _ => mm_TW_of (i := 1148) (by decide +kernel) rfl, fun _ => mm_TW_of (i := 1149) (by decide +kernel) rfl, by decide +kernel, by decide +kernel, by decide +kernel, rfl, fun h => absurd h (by decide +kernel), mm_cdF_of rfl mm_d9⟩
set_option maxRecDepth 100000 in
theorem mm_h10 : mm_hw 10 ∈ mm_TW := List.mem_filter.mpr ⟨mm_at5 (List.mem_of_getElem? (i := 53) rfl), rfl⟩
set_option maxRecDepth 100000 in
theorem mm_mf10 : mm_MFP 10 := ⟨mm_h10, mm_TW_of (i := 155) (by decide +kernel) rfl, fun h => absurd h (by decide +kernel), fun _ => mm_TW_of (i := 1163) (by decide +kernel) rfl, fun _ => mm_TW_of (i := 1164) (by decide +kernel) rfl, by decide +kernel, by decide +kernel, by decide +kernel, rfl, fun h => absurd h (by decide +kernel), mm_cdF_of rfl mm_d10⟩
set_option maxRecDepth 100000 in
theorem mm_h11 : mm_hw 11 ∈ mm_TW := List.mem_filter.mpr ⟨mm_at4 (List.mem_of_getElem? (i := 186) rfl), rfl⟩
set_option maxRecDepth 100000 in
theorem mm_mf11 : mm_MFP 11 := ⟨mm_h11, mm_TW_of (i := 155) (by decide +kernel) rfl, fun _ => mm_TW_of (i := 1057) (by decide +kernel) rfl, fun h => absurd (show (mm_MT 11).2.2.2.2.1 = 1 from by decide +kernel) h, fun h => absurd h (by decide +kernel), by decide +kernel, by decide +kernel, by decide +kernel, rfl, fun h => absurd h (by decide +kernel), mm_cdF_of rfl mm_d11⟩
set_option maxRecDepth 100000 in
theorem mm_h12 : mm_hw 12 ∈ mm_TW := List.mem_filter.mpr ⟨mm_at4 (List.mem_of_getElem? (i := 183) rfl), rfl⟩
set_option maxRecDepth 100000 in
theorem mm_mf12 : mm_MFP 12 := ⟨mm_h12, mm_TW_of (i := 155) (by decide +kernel) rfl, fun _ => mm_TW_of (i := 1054) (by decide +kernel) rfl, fun h => absurd (show (mm_MT 12).2.2.2.2.1 = 1 from by decide +kernel) h, fun h => absurd h (by decide +kernel), by decide +kernel, by decide +kernel, by decide +kernel, rfl, fun h => absurd h (by decide +kernel), mm_cdF_of rfl mm_d12⟩
set_option maxRecDepth 100000 in
theorem mm_h13 : mm_hw 13 ∈ mm_TW := List.mem_filter.mpr ⟨mm_at4 (List.mem_of_getElem? (i := 180) rfl), rfl⟩
set_option maxRecDepth 100000 in
theorem mm_mf13 : mm_MFP 13 := ⟨mm_h13, mm_TW_of (i := 155) (by decide +kernel) rfl, fun _ => mm_TW_of (i := 1051) (by decide +kernel) rfl, fun h => absurd (show (mm_MT 13).2.2.2.2.1 = 1 from by decide +kernel) h, fun h => absurd h (by decide +kernel), by decide +kernel, by decide +kernel, by decide +kernel, rfl, fun h => absurd h (by decide +kernel), mm_cdF_of rfl mm_d13⟩
set_option maxRecDepth 100000 in
theorem mm_h14 : mm_hw 14 ∈ mm_TW := List.mem_filter.mpr ⟨mm_at5 (List.mem_of_getElem? (i := 211) rfl), rfl⟩
set_option maxRecDepth 100000 in
theorem mm_mf14 : mm_MFP 14 := ⟨mm_h14, mm_TW_of (i := 155) (by decide +kernel) rfl, fun _ => mm_TW_of (i := 1322) (by decide +kernel) rfl, fun h => absurd (show (mm_MT 14).2.2.2.2.1 = 1 from by decide +kernel) h, fun h => absurd h (by decide +kernel), by decide +kernel, by decide +kernel, by decide +kernel, rfl, fun h => absurd h (by decide +kernel), mm_cdF_of rfl mm_d14⟩
set_option maxRecDepth 100000 in
theorem mm_h15 : mm_hw 15 ∈ mm_TW := List.mem_filter.mpr ⟨mm_at2 (List.mem_of_getElem? (i := 86) rfl), rfl⟩
set_option maxRecDepth 100000 in
theorem mm_mf15 : mm_MFP 15 := ⟨mm_h15, mm_TW_of (i := 161) (by decide +kernel) rfl, fun h => absurd h (by decide +kernel), fun _ => mm_TW_of (i := 477) (by decide +kernel) rfl, fun h => absurd h (by decide +kernel), by decide +kernel, by decide +kernel, by decide +kernel, rfl, fun _ => rfl, mm_cdF_of rfl mm_d15⟩
set_option maxRecDepth 100000 in
theorem mm_h16 : mm_hw 16 ∈ mm_TW := List.mem_filter.mpr ⟨mm_at4 (List.mem_of_getElem? (i := 147) rfl), rfl⟩
set_option maxRecDepth 100000 in
theorem mm_mf16 : mm_MFP 16 := ⟨mm_h16, mm_TW_of (i := 161) (by decide +kernel) rfl, fun h => absurd h (by decide +kernel), fun _ => mm_TW_of (i := 1017) (by decide +kernel) rfl, fun _ => mm_TW_of (i := 1018) (by decide +kernel) rfl, by decide +kernel, by decide +kernel, by decide +kernel, rfl, fun h => absurd h (by decide +kernel), mm_cdF_of rfl mm_d16⟩
set_option maxRecDepth 100000 in
theorem mm_h17 : mm_hw 17 ∈ mm_TW := List.mem_filter.mpr ⟨mm_at4 (List.mem_of_getElem? (i := 176) rfl), rfl⟩
set_option maxRecDepth 100000 in
theorem mm_mf17 : mm_MFP 17 := ⟨mm_h17, mm_TW_of (i := 161) (by decide +kernel) rfl, fun h => absurd h (by decide +kernel), fun _ => mm_TW_of (i := 1047) (by decide +kernel) rfl, fun _ => mm_TW_of (i := 5) (by decide +kernel) rfl, by decide +kernel, by decide +kernel, by decide +kernel, rfl, fun h => absurd h (by decide +kernel), mm_cdF_of rfl mm_d17⟩
set_option maxRecDepth 100000 in
theorem mm_h18 : mm_hw 18 ∈ mm_TW := List.mem_filter.mpr ⟨mm_at4 (List.mem_of_getElem? (i := 208) rfl), rfl⟩
set_option maxRecDepth 100000 in
theorem mm_mf18 : mm_MFP 18 := ⟨mm_h18, mm_TW_of (i := 161) (by decide +kernel) rfl, fun h => absurd h (by decide +kernel), fun _ => mm_TW_of (i := 1079) (by decide +kernel) rfl, fun _ => mm_TW_of (i := 7) (by decide +kernel) rfl, by decide +kernel, by decide +kernel, by decide +kernel, rfl, fun h => absurd h (by decide +kernel), mm_cdF_of rfl mm_d18⟩
set_option maxRecDepth 100000 in
theorem mm_h19 : mm_hw 19 ∈ mm_TW := List.mem_filter.mpr ⟨mm_at5 (List.mem_of_getElem? (i := 49) rfl), rfl⟩
set_option maxRecDepth 100000 in
theorem mm_mf19 : mm_MFP 19 := ⟨mm_h19, mm_TW_of (i := 161) (by decide +kernel) rfl, fun h => absurd h (by decide +kernel), fun _ => mm_TW_of (i := 1160) (by decide +kernel) rfl, fun _ => mm_TW_of (i := 12) (by decide +kernel) rfl, by decide +kernel, by decide +kernel, by decide +kernel, rfl, fun h => absurd h (by decide +kernel), mm_cdF_of rfl mm_d19⟩
set_option maxRecDepth 100000 in
theorem mm_h20 : mm_hw 20 ∈ mm_TW := List.mem_filter.mpr ⟨mm_at5 (List.mem_of_getElem? (i := 34) rfl), rfl⟩
set_option maxRecDepth 100000 in
theorem mm_mf20 : mm_MFP 20 := ⟨mm_h20, mm_TW_of (i := 161) (by decide +kernel) rfl, fun h => absurd h (by decide +kernel), fun _ => mm_TW_of (i := 1145) (by decide +kernel) rfl, fun _ => mm_TW_of (i := 11) (by decide +kernel) rfl, by decide +kernel, by decide +kernel, by decide +kernel, rfl, fun h => absurd h (by decide +kernel), mm_cdF_of rfl mm_d20⟩
set_option maxRecDepth 100000 in
theorem mm_h21 : mm_hw 21 ∈ mm_TW := List.mem_filter.mpr ⟨mm_at1 (List.mem_of_getElem? (i := 180) rfl), rfl⟩
set_option maxRecDepth 100000 in
theorem mm_mf21 : mm_MFP 21 := ⟨mm_h21, mm_TW_of (i := 159) (by decide +kernel) rfl, fun h => absurd h (by decide +kernel), fun _ => mm_TW_of (i := 331) (by decide +kernel) rfl, fun h => absurd h (by decide +kernel), by decide +kernel, by decide +kernel, by decide +kernel, rfl, fun _ => rfl, mm_cdF_of rfl mm_d21⟩
set_option maxRecDepth 100000 in
theorem mm_h22 : mm_hw 22 ∈ mm_TW := List.mem_filter.mpr ⟨mm_at5 (List.mem_of_getElem? (i := 66) rfl), rfl⟩
set_option maxRecDepth 100000 in
theorem mm_mf22 : mm_MFP 22 := ⟨mm_h22, mm_TW_of (i := 159) (by decide +kernel) rfl, fun h => absurd h (by decide +kernel), fun _ => mm_TW_of (i := 1176) (by decide +kernel) rfl, fun _ => mm_TW_of (i := 1177) (by decide +kernel) rfl, by decide +kernel, by decide +kernel, by decide +kernel, rfl, fun h => absurd h (by decide +kernel), mm_cdF_of rfl mm_d22⟩
set_option maxRecDepth 100000 in
theorem mm_h23 : mm_hw 23 ∈ mm_TW := List.mem_filter.mpr ⟨mm_at5 (List.mem_of_getElem? (i := 93) rfl), rfl⟩
set_option maxRecDepth 100000 in
theorem mm_mf23 : mm_MFP 23 := ⟨mm_h23, mm_TW_of (i := 159) (by decide +kernel) rfl, fun h => absurd h (by decide +kernel), fun _ => mm_TW_of (i := 1203) (by decide +kernel) rfl, fun _ => mm_TW_of (i := 1204) (by decide +kernel) rfl, by decide +kernel, by decide +kernel, by decide +kernel, rfl, fun h => absurd h (by decide +kernel), mm_cdF_of rfl mm_d23⟩
set_option maxRecDepth 100000 in
theorem mm_h24 : mm_hw 24 ∈ mm_TW := List.mem_filter.mpr ⟨mm_at5 (List.mem_of_getElem? (i := 76) rfl), rfl⟩
set_option maxRecDepth 100000 in
theorem mm_mf24 : mm_MFP 24 := ⟨mm_h24, mm_TW_of (i := 159) (by decide +kernel) rfl, fun h => absurd h (by decide +kernel), fun _ => mm_TW_of (i := 1186) (by decide +kernel) rfl, fun _ => mm_TW_of (i := 1187) (by decide +kernel) rfl, by decide +kernel, by decide +kernel, by decide +kernel, rfl, fun h => absurd h (by decide +kernel), mm_cdF_of rfl mm_d24⟩
set_option maxRecDepth 100000 in
theorem mm_h25 : mm_hw 25 ∈ mm_TW := List.mem_filter.mpr ⟨mm_at5 (List.mem_of_getElem? (i := 80) rfl), rfl⟩
set_option maxRecDepth 100000 in
theorem mm_mf25 : mm_MFP 25 := ⟨mm_h25, mm_TW_of (i := 159) (by decide +kernel) rfl, fun h => absurd h (by decide +kernel), fun _ => mm_TW_of (i := 1191) (by decide +kernel) rfl, fun _ => mm_TW_of (i := 13) (by decide +kernel) rfl, by decide +kernel, by decide +kernel, by decide +kernel, rfl, fun h => absurd h (by decide +kernel), mm_cdF_of rfl mm_d25⟩
set_option maxRecDepth 100000 in
theorem mm_h26 : mm_hw 26 ∈ mm_TW := List.mem_filter.mpr ⟨mm_at5 (List.mem_of_getElem? (i := 70) rfl), rfl⟩
set_option maxRecDepth 100000 in
theorem mm_mf26 : mm_MFP 26 := ⟨mm_h26, mm_TW_of (i := 159) (by decide +kernel) rfl, fun h => absurd h (by decide +kernel), fun _ => mm_TW_of (i := 1180) (by decide +kernel) rfl, fun _ => mm_TW_of (i := 1181) (by decide +kernel) rfl, by decide +kernel, by decide +kernel, by decide +kernel, rfl, fun h => absurd h (by decide +kernel), mm_cdF_of rfl mm_d26⟩
set_option maxRecDepth 100000 in
theorem mm_h27 : mm_hw 27 ∈ mm_TW := List.mem_filter.mpr ⟨mm_at5 (List.mem_of_getElem? (i := 89) rfl), rfl⟩
set_option maxRecDepth 100000 in
theorem mm_mf27 : mm_MFP 27 := ⟨mm_h27, mm_TW_of (i := 159) (by decide +kernel) rfl, fun h => absurd h (by decide +kernel), fun _ => mm_TW_of (i := 1199) (by decide +kernel) rfl, fun _ => mm_TW_of (i := 1200) (by decide +kernel) rfl, by decide +kernel, by decide +kernel, by decide +kernel, rfl, fun h => absurd h (by decide +kernel), mm_cdF_of rfl mm_d27⟩
set_option maxRecDepth 100000 in
theorem mm_h28 : mm_hw 28 ∈ mm_TW := List.mem_filter.mpr ⟨mm_at4 (List.mem_of_getElem? (i := 133) rfl), rfl⟩
set_option maxRecDepth 100000 in
theorem mm_mf28 : mm_MFP 28 := ⟨mm_h28, mm_TW_of (i := 159) (by decide +kernel) rfl, fun h => absurd h (by decide +kernel), fun _ => mm_TW_of (i := 1003) (by decide +kernel) rfl, fun _ => mm_TW_of (i := 1004) (by decide +kernel) rfl, by decide +kernel, by decide +kernel, by decide +kernel, rfl, fun h => absurd h (by decide +kernel), mm_cdF_of rfl mm_d28⟩
set_option maxRecDepth 100000 in
theorem mm_h29 : mm_hw 29 ∈ mm_TW := List.mem_filter.mpr ⟨mm_at5 (List.mem_of_getElem? (i := 151) rfl), rfl⟩
set_option maxRecDepth 100000 in
theorem mm_mf29 : mm_MFP 29 := ⟨mm_h29, mm_TW_of (i := 159) (by decide +kernel) rfl, fun h => absurd h (by decide +kernel), fun _ => mm_TW_of (i := 1261) (by decide +kernel) rfl, fun _ => mm_TW_of (i := 1262) (by decide +kernel) rfl, by decide +kernel, by decide +kernel, by decide +kernel, rfl, fun h => absurd h (by decide +kernel), mm_cdF_of rfl mm_d29⟩
set_option maxRecDepth 100000 in
theorem mm_h30 : mm_hw 30 ∈ mm_TW := List.mem_filter.mpr ⟨mm_at5 (List.mem_of_getElem? (i := 155) rfl), rfl⟩
set_option maxRecDepth 100000 in
theorem mm_mf30 : mm_MFP 30 := ⟨mm_h30, mm_TW_of (i := 159) (by decide +kernel) rfl, fun h => absurd h (by decide +kernel), fun _ => mm_TW_of (i := 1266) (by decide +kernel) rfl, fun _ => mm_TW_of (i := 23) (by decide +kernel) rfl, by decide +kernel, by decide +kernel, by decide +kernel, rfl, fun h => absurd h (by decide +kernel), mm_cdF_of rfl mm_d30⟩
set_option maxRecDepth 100000 in
theorem mm_h31 : mm_hw 31 ∈ mm_TW := List.mem_filter.mpr ⟨mm_at5 (List.mem_of_getElem? (i := 161) rfl), rfl⟩
set_option maxRecDepth 100000 in
theorem mm_mf31 : mm_MFP 31 := ⟨mm_h31, mm_TW_of (i := 159) (by decide +kernel) rfl, fun h => absurd h (by decide +kernel), fun _ => mm_TW_of (i := 1272) (by decide +kernel) rfl, fun _ => mm_TW_of (i := 24) (by decide +kernel) rfl, by decide +kernel, by decide +kernel, by decide +kernel, rfl, fun h => absurd h (by decide +kernel), mm_cdF_of rfl mm_d31⟩
set_option maxRecDepth 100000 in
theorem mm_h32 : mm_hw 32 ∈ mm_TW := List.mem_filter.mpr ⟨mm_at5 (List.mem_of_getElem? (i := 174) rfl), rfl⟩
set_option maxRecDepth 100000 in
theorem mm_mf32 : mm_MFP 32 := ⟨mm_h32, mm_TW_of (i := 159) (by decide +kernel) rfl, fun h => absurd h (by decide +kernel), fun _ => mm_TW_of (i := 1285) (by decide +kernel) rfl, fun _ => mm_TW_of (i := 27) (by decide +kernel) rfl, by decide +kernel, by decide +kernel, by decide +kernel, rfl, fun h => absurd h (by decide +kernel), mm_cdF_of rfl mm_d32⟩
set_option maxRecDepth 100000 in
theorem mm_h33 : mm_hw 33 ∈ mm_TW := List.mem_filter.mpr ⟨mm_at5 (List.mem_of_getElem? (i := 165) rfl), rfl⟩
set_option maxRecDepth 100000 in
theorem mm_mf33 : mm_MFP 33 := ⟨mm_h33, mm_TW_of (i := 159) (by decide +kernel) rfl, fun h => absurd h (by decide +kernel), fun _ => mm_TW_of (i := 1276) (by decide +kernel) rfl, fun _ => mm_TW_of (i := 25) (by decide +kernel) rfl, by decide +kernel, by decide +kernel, by decide +kernel, rfl, fun h => absurd h (by decide +kernel), mm_cdF_of rfl mm_d33⟩
set_option maxRecDepth 100000 in
theorem mm_h34 : mm_hw 34 ∈ mm_TW := List.mem_filter.mpr ⟨mm_at5 (List.mem_of_getElem? (i := 170) rfl), rfl⟩
set_option maxRecDepth 100000 in
theorem mm_mf34 : mm_MFP 34 := ⟨mm_h34, mm_TW_of (i := 159) (by decide +kernel) rfl, fun h => absurd h (by decide +kernel), fun _ => mm_TW_of (i := 1281) (by decide +kernel) rfl, fun _ => mm_TW_of (i := 26) (by decide +kernel) rfl, by decide +kernel, by decide +kernel, by decide +kernel, rfl, fun h => absurd h (by decide +kernel), mm_cdF_of rfl mm_d34⟩
set_option maxRecDepth 100000 in
theorem mm_h35 : mm_hw 35 ∈ mm_TW := List.mem_filter.mpr ⟨mm_at4 (List.mem_of_getElem? (i := 159) rfl), rfl⟩
set_option maxRecDepth 100000 in
theorem mm_mf35 : mm_MFP 35 := ⟨mm_h35, mm_TW_of (i := 159) (by decide +kernel) rfl, fun h => absurd h (by decide +kernel), fun _ => mm_TW_of (i := 1029) (by decide +kernel) rfl, fun _ => mm_TW_of (i := 1030) (by decide +kernel) rfl, by decide +kernel, by decide +kernel, by decide +kernel, rfl, fun h => absurd h (by decide +kernel), mm_cdF_of rfl mm_d35⟩
set_option maxRecDepth 100000 in
theorem mm_h36 : mm_hw 36 ∈ mm_TW := List.mem_filter.mpr ⟨mm_at5 (List.mem_of_getElem? (i := 178) rfl), rfl⟩
set_option maxRecDepth 100000 in
theorem mm_mf36 : mm_MFP 36 := ⟨mm_h36, mm_TW_of (i := 159) (by decide +kernel) rfl, fun h => absurd h (by decide +kernel), fun _ => mm_TW_of (i := 1288) (by decide +kernel) rfl, fun _ => mm_TW_of (i := 1289) (by decide +kernel) rfl, by decide +kernel, by decide +kernel, by decide +kernel, rfl, fun h => absurd h (by decide +kernel), mm_cdF_of rfl mm_d36⟩
set_option maxRecDepth 100000 in
theorem mm_h37 : mm_hw 37 ∈ mm_TW := List.mem_filter.mpr ⟨mm_at7 (List.mem_of_getElem? (i := 157) rfl), rfl⟩
set_option maxRecDepth 100000 in
theorem mm_mf37 : mm_MFP 37 := ⟨mm_h37, mm_TW_of (i := 159) (by decide +kernel) rfl, fun h => absurd h (by decide +kernel), fun _ => mm_TW_of (i := 1747) (by decide +kernel) rfl, fun _ => mm_TW_of (i := 1748) (by decide +kernel) rfl, by decide +kernel, by decide +kernel, by decide +kernel, rfl, fun h => absurd h (by decide +kernel), mm_cdF_of rfl mm_d37⟩
set_option maxRecDepth 100000 in
theorem mm_h38 : mm_hw 38 ∈ mm_TW := List.mem_filter.mpr ⟨mm_at6 (List.mem_of_getElem? (i := 181) rfl), rfl⟩
set_option maxRecDepth 100000 in
theorem mm_mf38 : mm_MFP 38 := ⟨mm_h38, mm_TW_of (i := 159) (by decide +kernel) rfl, fun h => absurd h (by decide +kernel), fun _ => mm_TW_of (i := 1531) (by decide +kernel) rfl, fun _ => mm_TW_of (i := 1532) (by decide +kernel) rfl, by decide +kernel, by decide +kernel, by decide +kernel, rfl, fun h => absurd h (by decide +kernel), mm_cdF_of rfl mm_d38⟩
set_option maxRecDepth 100000 in
theorem mm_h39 : mm_hw 39 ∈ mm_TW := List.mem_filter.mpr ⟨mm_at6 (List.mem_of_getElem? (i := 78) rfl), rfl⟩
set_option maxRecDepth 100000 in
theorem mm_mf39 : mm_MFP 39 := ⟨mm_h39, mm_TW_of (i := 159) (by decide +kernel) rfl, fun h => absurd h (by decide +kernel), fun _ => mm_TW_of (i := 1428) (by decide +kernel) rfl, fun _ => mm_TW_of (i := 1429) (by decide +kernel) rfl, by decide +kernel, by decide +kernel, by decide +kernel, rfl, fun h => absurd h (by decide +kernel), mm_cdF_of rfl mm_d39⟩
set_option maxRecDepth 100000 in
theorem mm_h40 : mm_hw 40 ∈ mm_TW := List.mem_filter.mpr ⟨mm_at6 (List.mem_of_getElem? (i := 82) rfl), rfl⟩
set_option maxRecDepth 100000 in
theorem mm_mf40 : mm_MFP 40 := ⟨mm_h40, mm_TW_of (i := 159) (by decide +kernel) rfl, fun h => absurd h (by decide +kernel), fun _ => mm_TW_of (i := 1432) (by decide +kernel) rfl, fun _ => mm_TW_of (i := 1433) (by decide +kernel) rfl, by decide +kernel, by decide +kernel, by decide +kernel, rfl, fun h => absurd h (by decide +kernel), mm_cdF_of rfl mm_d40⟩
set_option maxRecDepth 100000 in
theorem mm_h41 : mm_hw 41 ∈ mm_TW := List.mem_filter.mpr ⟨mm_at6 (List.mem_of_getElem? (i := 107) rfl), rfl⟩
set_option maxRecDepth 100000 in
theorem mm_mf41 : mm_MFP 41 := ⟨mm_h41, mm_TW_of (i := 159) (by decide +kernel) rfl, fun h => absurd h (by decide +kernel), fun _ => mm_TW_of (i := 1457) (by decide +kernel) rfl, fun _ => mm_TW_of (i := 1458) (by decide +kernel) rfl, by decide +kernel, by decide +kernel, by decide +kernel, rfl, fun h => absurd h (by decide +kernel), mm_cdF_of rfl mm_d41⟩
set_option maxRecDepth 100000 in
theorem mm_h42 : mm_hw 42 ∈ mm_TW := List.mem_filter.mpr ⟨mm_at7 (List.mem_of_getElem? (i := 149) rfl), rfl⟩
set_option maxRecDepth 100000 in
theorem mm_mf42 : mm_MFP 42 := ⟨mm_h42, mm_TW_of (i := 159) (by decide +kernel) rfl, fun h => absurd h (by decide +kernel), fun _ => mm_TW_of (i := 1739) (by decide +kernel) rfl, fun _ => mm_TW_of (i := 1740) (by decide +kernel) rfl, by decide +kernel, by decide +kernel, by decide +kernel, rfl, fun h => absurd h (by decide +kernel), mm_cdF_of rfl mm_d42⟩
set_option maxRecDepth 100000 in
theorem mm_h43 : mm_hw 43 ∈ mm_TW := List.mem_filter.mpr ⟨mm_at6 (List.mem_of_getElem? (i := 39) rfl), rfl⟩
set_option maxRecDepth 100000 in
theorem mm_mf43 : mm_MFP 43 := ⟨mm_h43, mm_TW_of (i := 159) (by decide +kernel) rfl, fun h => absurd h (by decide +kernel), fun _ => mm_TW_of (i := 1389) (by decide +kernel) rfl, fun _ => mm_TW_of (i := 1390) (by decide +kernel) rfl, by decide +kernel, by decide +kernel, by decide +kernel, rfl, fun h => absurd h (by decide +kernel), mm_cdF_of rfl mm_d43⟩
set_option maxRecDepth 100000 in
theorem mm_h44 : mm_hw 44 ∈ mm_TW := List.mem_filter.mpr ⟨mm_at6 (List.mem_of_getElem? (i := 209) rfl), rfl⟩
set_option maxRecDepth 100000 in
theorem mm_mf44 : mm_MFP 44 := ⟨mm_h44, mm_TW_of (i := 173) (by decide +kernel) rfl, fun h => absurd h (by decide +kernel), fun _ => mm_TW_of (i := 1560) (by decide +kernel) rfl, fun h => absurd h (by decide +kernel), by decide +kernel, by decide +kernel, by decide +kernel, rfl, fun _ => rfl, mm_cdF_of rfl mm_d44⟩
set_option maxRecDepth 100000 in
theorem mm_h45 : mm_hw 45 ∈ mm_TW := List.mem_filter.mpr ⟨mm_at6 (List.mem_of_getElem? (i := 233) rfl), rfl⟩
set_option maxRecDepth 100000 in
theorem mm_mf45 : mm_MFP 45 := ⟨mm_h45, mm_TW_of (i := 173) (by decide +kernel) rfl, fun h => absurd h (by decide +kernel), fun _ => mm_TW_of (i := 1583) (by decide +kernel) rfl, fun _ => mm_TW_of (i := 1584) (by decide +kernel) rfl, by decide +kernel, by decide +kernel, by decide +kernel, rfl, fun h => absurd h (by decide +kernel), mm_cdF_of rfl mm_d45⟩
set_option maxRecDepth 100000 in
theorem mm_h46 : mm_hw 46 ∈ mm_TW := List.mem_filter.mpr ⟨mm_at7 (List.mem_of_getElem? (i := 22) rfl), rfl⟩
set_option maxRecDepth 100000 in
theorem mm_mf46 : mm_MFP 46 := ⟨mm_h46, mm_TW_of (i := 173) (by decide +kernel) rfl, fun h => absurd h (by decide +kernel), fun _ => mm_TW_of (i := 1613) (by decide +kernel) rfl, fun _ => mm_TW_of (i := 50) (by decide +kernel) rfl, by decide +kernel, by decide +kernel, by decide +kernel, rfl, fun h => absurd h (by decide +kernel), mm_cdF_of rfl mm_d46⟩
set_option maxRecDepth 100000 in
theorem mm_h47 : mm_hw 47 ∈ mm_TW := List.mem_filter.mpr ⟨mm_at7 (List.mem_of_getElem? (i := 10) rfl), rfl⟩
set_option maxRecDepth 100000 in
theorem mm_mf47 : mm_MFP 47 := ⟨mm_h47, mm_TW_of (i := 173) (by decide +kernel) rfl, fun h => absurd h (by decide +kernel), fun _ => mm_TW_of (i := 1601) (by decide +kernel) rfl, fun _ => mm_TW_of (i := 47) (by decide +kernel) rfl, by decide +kernel, by decide +kernel, by decide +kernel, rfl, fun h => absurd h (by decide +kernel), mm_cdF_of rfl mm_d47⟩
set_option maxRecDepth 100000 in
theorem mm_h48 : mm_hw 48 ∈ mm_TW := List.mem_filter.mpr ⟨mm_at7 (List.mem_of_getElem? (i := 34) rfl), rfl⟩
set_option maxRecDepth 100000 in
theorem mm_mf48 : mm_MFP 48 := ⟨mm_h48, mm_TW_of (i := 173) (by decide +kernel) rfl, fun h => absurd h (by decide +kernel), fun _ => mm_TW_of (i := 1625) (by decide +kernel) rfl, fun _ => mm_TW_of (i := 53) (by decide +kernel) rfl, by decide +kernel, by decide +kernel, by decide +kernel, rfl, fun h => absurd h (by decide +kernel), mm_cdF_of rfl mm_d48⟩
set_option maxRecDepth 100000 in
theorem mm_h49 : mm_hw 49 ∈ mm_TW := List.mem_filter.mpr ⟨mm_at6 (List.mem_of_getElem? (i := 238) rfl), rfl⟩
set_option maxRecDepth 100000 in
theorem mm_mf49 : mm_MFP 49 := ⟨mm_h49, mm_TW_of (i := 173) (by decide +kernel) rfl, fun h => absurd h (by decide +kernel), fun _ => mm_TW_of (i := 1589) (by decide +kernel) rfl, fun _ => mm_TW_of (i := 44) (by decide +kernel) rfl, by decide +kernel, by decide +kernel, by decide +kernel, rfl, fun h => absurd h (by decide +kernel), mm_cdF_of rfl mm_d49⟩
set_option maxRecDepth 100000 in
theorem mm_h50 : mm_hw 50 ∈ mm_TW := List.mem_filter.mpr ⟨mm_at7 (List.mem_of_getElem? (i := 2) rfl), rfl⟩
set_option maxRecDepth 100000 in
theorem mm_mf50 : mm_MFP 50 := ⟨mm_h50, mm_TW_of (i := 173) (by decide +kernel) rfl, fun h => absurd h (by decide +kernel), fun _ => mm_TW_of (i := 1593) (by decide +kernel) rfl, fun _ => mm_TW_of (i := 45) (by decide +kernel) rfl, by decide +kernel, by decide +kernel, by decide +kernel, rfl, fun h => absurd h (by decide +kernel), mm_cdF_of rfl mm_d50⟩
set_option maxRecDepth 100000 in
theorem mm_h51 : mm_hw 51 ∈ mm_TW := List.mem_filter.mpr ⟨mm_at7 (List.mem_of_getElem? (i := 6) rfl), rfl⟩
set_option maxRecDepth 100000 in
theorem mm_mf51 : mm_MFP 51 := ⟨mm_h51, mm_TW_of (i := 173) (by decide +kernel) rfl, fun h => absurd h (by decide +kernel), fun _ => mm_TW_of (i := 1597) (by decide +kernel) rfl, fun _ => mm_TW_of (i := 46) (by decide +kernel) rfl, by decide +kernel, by decide +kernel, by decide +kernel, rfl, fun h => absurd h (by decide +kernel), mm_cdF_of rfl mm_d51⟩
set_option maxRecDepth 100000 in
theorem mm_h52 : mm_hw 52 ∈ mm_TW := List.mem_filter.mpr ⟨mm_at7 (List.mem_of_getElem? (i := 14) rfl), rfl⟩
set_option maxRecDepth 100000 in
theorem mm_mf52 : mm_MFP 52 := ⟨mm_h52, mm_TW_of (i := 173) (by decide +kernel) rfl, fun h => absurd h (by decide +kernel), fun _ => mm_TW_of (i := 1605) (by decide +kernel) rfl, fun _ => mm_TW_of (i := 48) (by decide +kernel) rfl, by decide +kernel, by decide +kernel, by decide +kernel, rfl, fun h => absurd h (by decide +kernel), mm_cdF_of rfl mm_d52⟩
set_option maxRecDepth 100000 in
theorem mm_h53 : mm_hw 53 ∈ mm_TW := List.mem_filter.mpr ⟨mm_at7 (List.mem_of_getElem? (i := 18) rfl), rfl⟩
set_option maxRecDepth 100000 in
theorem mm_mf53 : mm_MFP 53 := ⟨mm_h53, mm_TW_of (i := 173) (by decide +kernel) rfl, fun h => absurd h (by decide +kernel), fun _ => mm_TW_of (i := 1609) (by decide +kernel) rfl, fun _ => mm_TW_of (i := 49) (by decide +kernel) rfl, by decide +kernel, by decide +kernel, by decide +kernel, rfl, fun h => absurd h (by decide +kernel), mm_cdF_of rfl mm_d53⟩
set_option maxRecDepth 100000 in
theorem mm_h54 : mm_hw 54 ∈ mm_TW := List.mem_filter.mpr ⟨mm_at7 (List.mem_of_getElem? (i := 26) rfl), rfl⟩
set_option maxRecDepth 100000 in
theorem mm_mf54 : mm_MFP 54 := ⟨mm_h54, mm_TW_of (i := 173) (by decide +kernel) rfl, fun h => absurd h (by decide +kernel), fun _ => mm_TW_of (i := 1617) (by decide +kernel) rfl, fun _ => mm_TW_of (i := 51) (by decide +kernel) rfl, by decide +kernel, by decide +kernel, by decide +kernel, rfl, fun h => absurd h (by decide +kernel), mm_cdF_of rfl mm_d54⟩
set_option maxRecDepth 100000 in
theorem mm_h55 : mm_hw 55 ∈ mm_TW := List.mem_filter.mpr ⟨mm_at7 (List.mem_of_getElem? (i := 30) rfl), rfl⟩
set_option maxRecDepth 100000 in
theorem mm_mf55 : mm_MFP 55 := ⟨mm_h55, mm_TW_of (i := 173) (by decide +kernel) rfl, fun h => absurd h (by decide +kernel), fun _ => mm_TW_of (i := 1621) (by decide +kernel) rfl, fun _ => mm_TW_of (i := 52) (by decide +kernel) rfl, by decide +kernel, by decide +kernel, by decide +kernel, rfl, fun h => absurd h (by decide +kernel), mm_cdF_of rfl mm_d55⟩
set_option maxRecDepth 100000 in
theorem mm_h56 : mm_hw 56 ∈ mm_TW := List.mem_filter.mpr ⟨mm_at7 (List.mem_of_getElem? (i := 46) rfl), rfl⟩
set_option maxRecDepth 100000 in
theorem mm_mf56 : mm_MFP 56 := ⟨mm_h56, mm_TW_of (i := 173) (by decide +kernel) rfl, fun h => absurd h (by decide +kernel), fun _ => mm_TW_of (i := 1636) (by decide +kernel) rfl, fun _ => mm_TW_of (i := 1637) (by decide +kernel) rfl, by decide +kernel, by decide +kernel, by decide +kernel, rfl, fun h => absurd h (by decide +kernel), mm_cdF_of rfl mm_d56⟩
set_option maxRecDepth 100000 in
theorem mm_h57 : mm_hw 57 ∈ mm_TW := List.mem_filter.mpr ⟨mm_at7 (List.mem_of_getElem? (i := 49) rfl), rfl⟩
set_option maxRecDepth 100000 in
theorem mm_mf57 : mm_MFP 57 := ⟨mm_h57, mm_TW_of (i := 173) (by decide +kernel) rfl, fun _ => mm_TW_of (i := 1640) (by decide +kernel) rfl, fun h => absurd (show (mm_MT 57).2.2.2.2.1 = 1 from by decide +kernel) h, fun h => absurd h (by decide +kernel), by decide +kernel, by decide +kernel, by decide +kernel, rfl, fun h => absurd h (by decide +kernel), mm_cdF_of rfl mm_d57⟩
set_option maxRecDepth 100000 in
theorem mm_h58 : mm_hw 58 ∈ mm_TW := List.mem_filter.mpr ⟨mm_at7 (List.mem_of_getElem? (i := 55) rfl), rfl⟩
set_option maxRecDepth 100000 in
theorem mm_mf58 : mm_MFP 58 := ⟨mm_h58, mm_TW_of (i := 173) (by decide +kernel) rfl, fun _ => mm_TW_of (i := 1646) (by decide +kernel) rfl, fun h => absurd (show (mm_MT 58).2.2.2.2.1 = 1 from by decide +kernel) h, fun h => absurd h (by decide +kernel), by decide +kernel, by decide +kernel, by decide +kernel, rfl, fun h => absurd h (by decide +kernel), mm_cdF_of rfl mm_d58⟩
set_option maxRecDepth 100000 in
theorem mm_h59 : mm_hw 59 ∈ mm_TW := List.mem_filter.mpr ⟨mm_at2 (List.mem_of_getElem? (i := 78) rfl), rfl⟩
set_option maxRecDepth 100000 in
theorem mm_mf59 : mm_MFP 59 := ⟨mm_h59, mm_TW_of (i := 160) (by decide +kernel) rfl, fun h => absurd h (by decide +kernel), fun _ => mm_TW_of (i := 469) (by decide +kernel) rfl, fun h => absurd h (by decide +kernel), by decide +kernel, by decide +kernel, by decide +kernel, rfl, fun _ => rfl, mm_cdF_of rfl mm_d59⟩
set_option maxRecDepth 100000 in
theorem mm_h60 : mm_hw 60 ∈ mm_TW := List.mem_filter.mpr ⟨mm_at4 (List.mem_of_getElem? (i := 125) rfl), rfl⟩
set_option maxRecDepth 100000 in
theorem mm_mf60 : mm_MFP 60 := ⟨mm_h60, mm_TW_of (i := 160) (by decide +kernel) rfl, fun h => absurd h (by decide +kernel), fun _ => mm_TW_of (i := 995) (by decide +kernel) rfl, fun _ => mm_TW_of (i := 996) (by decide +kernel) rfl, by decide +kernel, by decide +kernel, by decide +kernel, rfl, fun h => absurd h (by decide +kernel), mm_cdF_of rfl mm_d60⟩
set_option maxRecDepth 100000 in
theorem mm_h61 : mm_hw 61 ∈ mm_TW := List.mem_filter.mpr ⟨mm_at5 (List.mem_of_getElem? (i := 57) rfl), rfl⟩
set_option maxRecDepth 100000 in
theorem mm_mf61 : mm_MFP 61 := ⟨mm_h61, mm_TW_of (i := 160) (by decide +kernel) rfl, fun h => absurd h (by decide +kernel), fun _ => mm_TW_of (i := 1167) (by decide +kernel) rfl, fun _ => mm_TW_of (i := 1168) (by decide +kernel) rfl, by decide +kernel, by decide +kernel, by decide +kernel, rfl, fun h => absurd h (by decide +kernel), mm_cdF_of rfl mm_d61⟩
set_option maxRecDepth 100000 in
theorem mm_h62 : mm_hw 62 ∈ mm_TW := List.mem_filter.mpr ⟨mm_at4 (List.mem_of_getElem? (i := 129) rfl), rfl⟩
set_option maxRecDepth 100000 in
theorem mm_mf62 : mm_MFP 62 := ⟨mm_h62, mm_TW_of (i := 160) (by decide +kernel) rfl, fun h => absurd h (by decide +kernel), fun _ => mm_TW_of (i := 999) (by decide +kernel) rfl, fun _ => mm_TW_of (i := 1000) (by decide +kernel) rfl, by decide +kernel, by decide +kernel, by decide +kernel, rfl, fun h => absurd h (by decide +kernel), mm_cdF_of rfl mm_d62⟩
set_option maxRecDepth 100000 in
theorem mm_h63 : mm_hw 63 ∈ mm_TW := List.mem_filter.mpr ⟨mm_at4 (List.mem_of_getElem? (i := 140) rfl), rfl⟩
set_option maxRecDepth 100000 in
theorem mm_mf63 : mm_MFP 63 := ⟨mm_h63, mm_TW_of (i := 160) (by decide +kernel) rfl, fun h => absurd h (by decide +kernel), fun _ => mm_TW_of (i := 1011) (by decide +kernel) rfl, fun _ => mm_TW_of (i := 4) (by decide +kernel) rfl, by decide +kernel, by decide +kernel, by decide +kernel, rfl, fun h => absurd h (by decide +kernel), mm_cdF_of rfl mm_d63⟩
set_option maxRecDepth 100000 in
theorem mm_h64 : mm_hw 64 ∈ mm_TW := List.mem_filter.mpr ⟨mm_at4 (List.mem_of_getElem? (i := 143) rfl), rfl⟩
set_option maxRecDepth 100000 in
theorem mm_mf64 : mm_MFP 64 := ⟨mm_h64, mm_TW_of (i := 160) (by decide +kernel) rfl, fun _ => mm_TW_of (i := 1014) (by decide +kernel) rfl, fun h => absurd (show (mm_MT 64).2.2.2.2.1 = 1 from by decide +kernel) h, fun h => absurd h (by decide +kernel), by decide +kernel, by decide +kernel, by decide +kernel, rfl, fun h => absurd h (by decide +kernel), mm_cdF_of rfl mm_d64⟩
set_option maxRecDepth 100000 in
theorem mm_h65 : mm_hw 65 ∈ mm_TW := List.mem_filter.mpr ⟨mm_at5 (List.mem_of_getElem? (i := 62) rfl), rfl⟩
set_option maxRecDepth 100000 in
theorem mm_mf65 : mm_MFP 65 := ⟨mm_h65, mm_TW_of (i := 160) (by decide +kernel) rfl, fun h => absurd h (by decide +kernel), fun _ => mm_TW_of (i := 1172) (by decide +kernel) rfl, fun _ => mm_TW_of (i := 1173) (by decide +kernel) rfl, by decide +kernel, by decide +kernel, by decide +kernel, rfl, fun h => absurd h (by decide +kernel), mm_cdF_of rfl mm_d65⟩
set_option maxRecDepth 100000 in
theorem mm_h66 : mm_hw 66 ∈ mm_TW := List.mem_filter.mpr ⟨mm_at5 (List.mem_of_getElem? (i := 85) rfl), rfl⟩
set_option maxRecDepth 100000 in
theorem mm_mf66 : mm_MFP 66 := ⟨mm_h66, mm_TW_of (i := 160) (by decide +kernel) rfl, fun h => absurd h (by decide +kernel), fun _ => mm_TW_of (i := 1196) (by decide +kernel) rfl, fun _ => mm_TW_of (i := 14) (by decide +kernel) rfl, by decide +kernel, by decide +kernel, by decide +kernel, rfl, fun h => absurd h (by decide +kernel), mm_cdF_of rfl mm_d66⟩
set_option maxRecDepth 100000 in
theorem mm_h67 : mm_hw 67 ∈ mm_TW := List.mem_filter.mpr ⟨mm_at5 (List.mem_of_getElem? (i := 97) rfl), rfl⟩
set_option maxRecDepth 100000 in
theorem mm_mf67 : mm_MFP 67 := ⟨mm_h67, mm_TW_of (i := 160) (by decide +kernel) rfl, fun h => absurd h (by decide +kernel), fun _ => mm_TW_of (i := 1208) (by decide +kernel) rfl, fun _ => mm_TW_of (i := 15) (by decide +kernel) rfl, by decide +kernel, by decide +kernel, by decide +kernel, rfl, fun h => absurd h (by decide +kernel), mm_cdF_of rfl mm_d67⟩
set_option maxRecDepth 100000 in
theorem mm_h68 : mm_hw 68 ∈ mm_TW := List.mem_filter.mpr ⟨mm_at6 (List.mem_of_getElem? (i := 173) rfl), rfl⟩
set_option maxRecDepth 100000 in
theorem mm_mf68 : mm_MFP 68 := ⟨mm_h68, mm_TW_of (i := 160) (by decide +kernel) rfl, fun h => absurd h (by decide +kernel), fun _ => mm_TW_of (i := 1523) (by decide +kernel) rfl, fun _ => mm_TW_of (i := 1524) (by decide +kernel) rfl, by decide +kernel, by decide +kernel, by decide +kernel, rfl, fun h => absurd h (by decide +kernel), mm_cdF_of rfl mm_d68⟩
set_option maxRecDepth 100000 in
theorem mm_h69 : mm_hw 69 ∈ mm_TW := List.mem_filter.mpr ⟨mm_at6 (List.mem_of_getElem? (i := 177) rfl), rfl⟩
set_option maxRecDepth 100000 in
theorem mm_mf69 : mm_MFP 69 := ⟨mm_h69, mm_TW_of (i := 160) (by decide +kernel) rfl, fun h => absurd h (by decide +kernel), fun _ => mm_TW_of (i := 1527) (by decide +kernel) rfl, fun _ => mm_TW_of (i := 1528) (by decide +kernel) rfl, by decide +kernel, by decide +kernel, by decide +kernel, rfl, fun h => absurd h (by decide +kernel), mm_cdF_of rfl mm_d69⟩
set_option maxRecDepth 100000 in
theorem mm_h70 : mm_hw 70 ∈ mm_TW := List.mem_filter.mpr ⟨mm_at6 (List.mem_of_getElem? (i := 186) rfl), rfl⟩
set_option maxRecDepth 100000 in
theorem mm_mf70 : mm_MFP 70 := ⟨mm_h70, mm_TW_of (i := 160) (by decide +kernel) rfl, fun h => absurd h (by decide +kernel), fun _ => mm_TW_of (i := 1537) (by decide +kernel) rfl, fun _ => mm_TW_of (i := 42) (by decide +kernel) rfl, by decide +kernel, by decide +kernel, by decide +kernel, rfl, fun h => absurd h (by decide +kernel), mm_cdF_of rfl mm_d70⟩
set_option maxRecDepth 100000 in
theorem mm_h71 : mm_hw 71 ∈ mm_TW := List.mem_filter.mpr ⟨mm_at6 (List.mem_of_getElem? (i := 190) rfl), rfl⟩
set_option maxRecDepth 100000 in
theorem mm_mf71 : mm_MFP 71 := ⟨mm_h71, mm_TW_of (i := 160) (by decide +kernel) rfl, fun h => absurd h (by decide +kernel), fun _ => mm_TW_of (i := 1541) (by decide +kernel) rfl, fun _ => mm_TW_of (i := 43) (by decide +kernel) rfl, by decide +kernel, by decide +kernel, by decide +kernel, rfl, fun h => absurd h (by decide +kernel), mm_cdF_of rfl mm_d71⟩
set_option maxRecDepth 100000 in
theorem mm_h72 : mm_hw 72 ∈ mm_TW := List.mem_filter.mpr ⟨mm_at1 (List.mem_of_getElem? (i := 75) rfl), rfl⟩
set_option maxRecDepth 100000 in
theorem mm_mf72 : mm_MFP 72 := ⟨mm_h72, mm_TW_of (i := 156) (by decide +kernel) rfl, fun h => absurd h (by decide +kernel), fun _ => mm_TW_of (i := 226) (by decide +kernel) rfl, fun h => absurd h (by decide +kernel), by decide +kernel, by decide +kernel, by decide +kernel, rfl, fun _ => rfl, mm_cdF_of rfl mm_d72⟩
set_option maxRecDepth 100000 in
theorem mm_h73 : mm_hw 73 ∈ mm_TW := List.mem_filter.mpr ⟨mm_at4 (List.mem_of_getElem? (i := 155) rfl), rfl⟩
set_option maxRecDepth 100000 in
theorem mm_mf73 : mm_MFP 73 := ⟨mm_h73, mm_TW_of (i := 156) (by decide +kernel) rfl, fun h => absurd h (by decide +kernel), fun _ => mm_TW_of (i := 1025) (by decide +kernel) rfl, fun _ => mm_TW_of (i := 1026) (by decide +kernel) rfl, by decide +kernel, by decide +kernel, by decide +kernel, rfl, fun h => absurd h (by decide +kernel), mm_cdF_of rfl mm_d73⟩
set_option maxRecDepth 100000 in
theorem mm_h74 : mm_hw 74 ∈ mm_TW := List.mem_filter.mpr ⟨mm_at4 (List.mem_of_getElem? (i := 163) rfl), rfl⟩
set_option maxRecDepth 100000 in
theorem mm_mf74 : mm_MFP 74 := ⟨mm_h74, mm_TW_of (i := 156) (by decide +kernel) rfl, fun h => absurd h (by decide +kernel), fun _ => mm_TW_of (i := 1033) (by decide +kernel) rfl, fun _ => mm_TW_of (i := 1034) (by decide +kernel) rfl, by decide +kernel, by decide +kernel, by decide +kernel, rfl, fun h => absurd h (by decide +kernel), mm_cdF_of rfl mm_d74⟩
set_option maxRecDepth 100000 in
theorem mm_h75 : mm_hw 75 ∈ mm_TW := List.mem_filter.mpr ⟨mm_at4 (List.mem_of_getElem? (i := 204) rfl), rfl⟩
set_option maxRecDepth 100000 in
theorem mm_mf75 : mm_MFP 75 := ⟨mm_h75, mm_TW_of (i := 156) (by decide +kernel) rfl, fun h => absurd h (by decide +kernel), fun _ => mm_TW_of (i := 1074) (by decide +kernel) rfl, fun _ => mm_TW_of (i := 1075) (by decide +kernel) rfl, by decide +kernel, by decide +kernel, by decide +kernel, rfl, fun h => absurd h (by decide +kernel), mm_cdF_of rfl mm_d75⟩
set_option maxRecDepth 100000 in
theorem mm_h76 : mm_hw 76 ∈ mm_TW := List.mem_filter.mpr ⟨mm_at4 (List.mem_of_getElem? (i := 212) rfl), rfl⟩
set_option maxRecDepth 100000 in
theorem mm_mf76 : mm_MFP 76 := ⟨mm_h76, mm_TW_of (i := 156) (by decide +kernel) rfl, fun h => absurd h (by decide +kernel), fun _ => mm_TW_of (i := 1082) (by decide +kernel) rfl, fun _ => mm_TW_of (i := 1083) (by decide +kernel) rfl, by decide +kernel, by decide +kernel, by decide +kernel, rfl, fun h => absurd h (by decide +kernel), mm_cdF_of rfl mm_d76⟩
set_option maxRecDepth 100000 in
theorem mm_h77 : mm_hw 77 ∈ mm_TW := List.mem_filter.mpr ⟨mm_at4 (List.mem_of_getElem? (i := 219) rfl), rfl⟩
set_option maxRecDepth 100000 in
theorem mm_mf77 : mm_MFP 77 := ⟨mm_h77, mm_TW_of (i := 156) (by decide +kernel) rfl, fun _ => mm_TW_of (i := 1090) (by decide +kernel) rfl, fun h => absurd (show (mm_MT 77).2.2.2.2.1 = 1 from by decide +kernel) h, fun h => absurd h (by decide +kernel), by decide +kernel, by decide +kernel, by decide +kernel, rfl, fun h => absurd h (by decide +kernel), mm_cdF_of rfl mm_d77⟩
set_option maxRecDepth 100000 in
theorem mm_h78 : mm_hw 78 ∈ mm_TW := List.mem_filter.mpr ⟨mm_at4 (List.mem_of_getElem? (i := 216) rfl), rfl⟩
set_option maxRecDepth 100000 in
theorem mm_mf78 : mm_MFP 78 := ⟨mm_h78, mm_TW_of (i := 156) (by decide +kernel) rfl, fun h => absurd h (by decide +kernel), fun _ => mm_TW_of (i := 1086) (by decide +kernel) rfl, fun _ => mm_TW_of (i := 1087) (by decide +kernel) rfl, by decide +kernel, by decide +kernel, by decide +kernel, rfl, fun h => absurd h (by decide +kernel), mm_cdF_of rfl mm_d78⟩
set_option maxRecDepth 100000 in
theorem mm_h79 : mm_hw 79 ∈ mm_TW := List.mem_filter.mpr ⟨mm_at4 (List.mem_of_getElem? (i := 223) rfl), rfl⟩
set_option maxRecDepth 100000 in
theorem mm_mf79 : mm_MFP 79 := ⟨mm_h79, mm_TW_of (i := 156) (by decide +kernel) rfl, fun h => absurd h (by decide +kernel), fun _ => mm_TW_of (i := 1093) (by decide +kernel) rfl, fun _ => mm_TW_of (i := 1094) (by decide +kernel) rfl, by decide +kernel, by decide +kernel, by decide +kernel, rfl, fun h => absurd h (by decide +kernel), mm_cdF_of rfl mm_d79⟩
set_option maxRecDepth 100000 in
theorem mm_h80 : mm_hw 80 ∈ mm_TW := List.mem_filter.mpr ⟨mm_at4 (List.mem_of_getElem? (i := 227) rfl), rfl⟩
set_option maxRecDepth 100000 in
theorem mm_mf80 : mm_MFP 80 := ⟨mm_h80, mm_TW_of (i := 156) (by decide +kernel) rfl, fun h => absurd h (by decide +kernel), fun _ => mm_TW_of (i := 1098) (by decide +kernel) rfl, fun _ => mm_TW_of (i := 8) (by decide +kernel) rfl, by decide +kernel, by decide +kernel, by decide +kernel, rfl, fun h => absurd h (by decide +kernel), mm_cdF_of rfl mm_d80⟩
set_option maxRecDepth 100000 in
theorem mm_h81 : mm_hw 81 ∈ mm_TW := List.mem_filter.mpr ⟨mm_at4 (List.mem_of_getElem? (i := 231) rfl), rfl⟩
set_option maxRecDepth 100000 in
theorem mm_mf81 : mm_MFP 81 := ⟨mm_h81, mm_TW_of (i := 156) (by decide +kernel) rfl, fun h => absurd h (by decide +kernel), fun _ => mm_TW_of (i := 1102) (by decide +kernel) rfl, fun _ => mm_TW_of (i := 9) (by decide +kernel) rfl, by decide +kernel, by decide +kernel, by decide +kernel, rfl, fun h => absurd h (by decide +kernel), mm_cdF_of rfl mm_d81⟩
set_option maxRecDepth 100000 in
theorem mm_h82 : mm_hw 82 ∈ mm_TW := List.mem_filter.mpr ⟨mm_at4 (List.mem_of_getElem? (i := 235) rfl), rfl⟩
set_option maxRecDepth 100000 in
theorem mm_mf82 : mm_MFP 82 := ⟨mm_h82, mm_TW_of (i := 156) (by decide +kernel) rfl, fun h => absurd h (by decide +kernel), fun _ => mm_TW_of (i := 1106) (by decide +kernel) rfl, fun _ => mm_TW_of (i := 10) (by decide +kernel) rfl, by decide +kernel, by decide +kernel, by decide +kernel, rfl, fun h => absurd h (by decide +kernel), mm_cdF_of rfl mm_d82⟩
set_option maxRecDepth 100000 in
theorem mm_h83 : mm_hw 83 ∈ mm_TW := List.mem_filter.mpr ⟨mm_at4 (List.mem_of_getElem? (i := 190) rfl), rfl⟩
set_option maxRecDepth 100000 in
theorem mm_mf83 : mm_MFP 83 := ⟨mm_h83, mm_TW_of (i := 156) (by decide +kernel) rfl, fun h => absurd h (by decide +kernel), fun _ => mm_TW_of (i := 1060) (by decide +kernel) rfl, fun _ => mm_TW_of (i := 1061) (by decide +kernel) rfl, by decide +kernel, by decide +kernel, by decide +kernel, rfl, fun h => absurd h (by decide +kernel), mm_cdF_of rfl mm_d83⟩
set_option maxRecDepth 100000 in
theorem mm_h84 : mm_hw 84 ∈ mm_TW := List.mem_filter.mpr ⟨mm_at4 (List.mem_of_getElem? (i := 193) rfl), rfl⟩
set_option maxRecDepth 100000 in
theorem mm_mf84 : mm_MFP 84 := ⟨mm_h84, mm_TW_of (i := 156) (by decide +kernel) rfl, fun _ => mm_TW_of (i := 1064) (by decide +kernel) rfl, fun h => absurd (show (mm_MT 84).2.2.2.2.1 = 1 from by decide +kernel) h, fun h => absurd h (by decide +kernel), by decide +kernel, by decide +kernel, by decide +kernel, rfl, fun h => absurd h (by decide +kernel), mm_cdF_of rfl mm_d84⟩
set_option maxRecDepth 100000 in
theorem mm_h85 : mm_hw 85 ∈ mm_TW := List.mem_filter.mpr ⟨mm_at4 (List.mem_of_getElem? (i := 197) rfl), rfl⟩
set_option maxRecDepth 100000 in
theorem mm_mf85 : mm_MFP 85 := ⟨mm_h85, mm_TW_of (i := 156) (by decide +kernel) rfl, fun h => absurd h (by decide +kernel), fun _ => mm_TW_of (i := 1068) (by decide +kernel) rfl, fun _ => mm_TW_of (i := 6) (by decide +kernel) rfl, by decide +kernel, by decide +kernel, by decide +kernel, rfl, fun h => absurd h (by decide +kernel), mm_cdF_of rfl mm_d85⟩
set_option maxRecDepth 100000 in
theorem mm_h86 : mm_hw 86 ∈ mm_TW := List.mem_filter.mpr ⟨mm_at5 (List.mem_of_getElem? (i := 7) rfl), rfl⟩
set_option maxRecDepth 100000 in
theorem mm_mf86 : mm_MFP 86 := ⟨mm_h86, mm_TW_of (i := 156) (by decide +kernel) rfl, fun _ => mm_TW_of (i := 1118) (by decide +kernel) rfl, fun h => absurd (show (mm_MT 86).2.2.2.2.1 = 1 from by decide +kernel) h, fun h => absurd h (by decide +kernel), by decide +kernel, by decide +kernel, by decide +kernel, rfl, fun h => absurd h (by decide +kernel), mm_cdF_of rfl mm_d86⟩
set_option maxRecDepth 100000 in
theorem mm_h87 : mm_hw 87 ∈ mm_TW := List.mem_filter.mpr ⟨mm_at5 (List.mem_of_getElem? (i := 10) rfl), rfl⟩
set_option maxRecDepth 100000 in
theorem mm_mf87 : mm_MFP 87 := ⟨mm_h87, mm_TW_of (i := 156) (by decide +kernel) rfl, fun _ => mm_TW_of (i := 1121) (by decide +kernel) rfl, fun h => absurd (show (mm_MT 87).2.2.2.2.1 = 1 from by decide +kernel) h, fun h => absurd h (by decide +kernel), by decide +kernel, by decide +kernel, by decide +kernel, rfl, fun h => absurd h (by decide +kernel), mm_cdF_of rfl mm_d87⟩
set_option maxRecDepth 100000 in
theorem mm_h88 : mm_hw 88 ∈ mm_TW := List.mem_filter.mpr ⟨mm_at5 (List.mem_of_getElem? (i := 13) rfl), rfl⟩
set_option maxRecDepth 100000 in
theorem mm_mf88 : mm_MFP 88 := ⟨mm_h88, mm_TW_of (i := 156) (by decide +kernel) rfl, fun _ => mm_TW_of (i := 1124) (by decide +kernel) rfl, fun h => absurd (show (mm_MT 88).2.2.2.2.1 = 1 from by decide +kernel) h, fun h => absurd h (by decide +kernel), by decide +kernel, by decide +kernel, by decide +kernel, rfl, fun h => absurd h (by decide +kernel), mm_cdF_of rfl mm_d88⟩
set_option maxRecDepth 100000 in
theorem mm_h89 : mm_hw 89 ∈ mm_TW := List.mem_filter.mpr ⟨mm_at5 (List.mem_of_getElem? (i := 21) rfl), rfl⟩
set_option maxRecDepth 100000 in
theorem mm_mf89 : mm_MFP 89 := ⟨mm_h89, mm_TW_of (i := 156) (by decide +kernel) rfl, fun h => absurd h (by decide +kernel), fun _ => mm_TW_of (i := 1131) (by decide +kernel) rfl, fun _ => mm_TW_of (i := 1132) (by decide +kernel) rfl, by decide +kernel, by decide +kernel, by decide +kernel, rfl, fun h => absurd h (by decide +kernel), mm_cdF_of rfl mm_d89⟩
set_option maxRecDepth 100000 in
theorem mm_h90 : mm_hw 90 ∈ mm_TW := List.mem_filter.mpr ⟨mm_at5 (List.mem_of_getElem? (i := 0) rfl), rfl⟩
set_option maxRecDepth 100000 in
theorem mm_mf90 : mm_MFP 90 := ⟨mm_h90, mm_TW_of (i := 156) (by decide +kernel) rfl, fun h => absurd h (by decide +kernel), fun _ => mm_TW_of (i := 1110) (by decide +kernel) rfl, fun _ => mm_TW_of (i := 1111) (by decide +kernel) rfl, by decide +kernel, by decide +kernel, by decide +kernel, rfl, fun h => absurd h (by decide +kernel), mm_cdF_of rfl mm_d90⟩
set_option maxRecDepth 100000 in
theorem mm_h91 : mm_hw 91 ∈ mm_TW := List.mem_filter.mpr ⟨mm_at5 (List.mem_of_getElem? (i := 25) rfl), rfl⟩
set_option maxRecDepth 100000 in
theorem mm_mf91 : mm_MFP 91 := ⟨mm_h91, mm_TW_of (i := 156) (by decide +kernel) rfl, fun h => absurd h (by decide +kernel), fun _ => mm_TW_of (i := 1135) (by decide +kernel) rfl, fun _ => mm_TW_of (i := 1136) (by decide +kernel) rfl, by decide +kernel, by decide +kernel, by decide +kernel, rfl, fun h => absurd h (by decide +kernel), mm_cdF_of rfl mm_d91⟩
set_option maxRecDepth 100000 in
theorem mm_h92 : mm_hw 92 ∈ mm_TW := List.mem_filter.mpr ⟨mm_at5 (List.mem_of_getElem? (i := 4) rfl), rfl⟩
set_option maxRecDepth 100000 in
theorem mm_mf92 : mm_MFP 92 := ⟨mm_h92, mm_TW_of (i := 156) (by decide +kernel) rfl, fun h => absurd h (by decide +kernel), fun _ => mm_TW_of (i := 1114) (by decide +kernel) rfl, fun _ => mm_TW_of (i := 1115) (by decide +kernel) rfl, by decide +kernel, by decide +kernel, by decide +kernel, rfl, fun h => absurd h (by decide +kernel), mm_cdF_of rfl mm_d92⟩
set_option maxRecDepth 100000 in
theorem mm_h93 : mm_hw 93 ∈ mm_TW := List.mem_filter.mpr ⟨mm_at4 (List.mem_of_getElem? (i := 167) rfl), rfl⟩
set_option maxRecDepth 100000 in
theorem mm_mf93 : mm_MFP 93 := ⟨mm_h93, mm_TW_of (i := 156) (by decide +kernel) rfl, fun h => absurd h (by decide +kernel), fun _ => mm_TW_of (i := 1037) (by decide +kernel) rfl, fun _ => mm_TW_of (i := 1038) (by decide +kernel) rfl, by decide +kernel, by decide +kernel, by decide +kernel, rfl, fun h => absurd h (by decide +kernel), mm_cdF_of rfl mm_d93⟩
set_option maxRecDepth 100000 in
theorem mm_h94 : mm_hw 94 ∈ mm_TW := List.mem_filter.mpr ⟨mm_at3 (List.mem_of_getElem? (i := 138) rfl), rfl⟩
set_option maxRecDepth 100000 in
theorem mm_mf94 : mm_MFP 94 := ⟨mm_h94, mm_TW_of (i := 169) (by decide +kernel) rfl, fun h => absurd h (by decide +kernel), fun _ => mm_TW_of (i := 769) (by decide +kernel) rfl, fun h => absurd h (by decide +kernel), by decide +kernel, by decide +kernel, by decide +kernel, rfl, fun _ => rfl, mm_cdF_of rfl mm_d94⟩
set_option maxRecDepth 100000 in
theorem mm_h95 : mm_hw 95 ∈ mm_TW := List.mem_filter.mpr ⟨mm_at3 (List.mem_of_getElem? (i := 170) rfl), rfl⟩
set_option maxRecDepth 100000 in
theorem mm_mf95 : mm_MFP 95 := ⟨mm_h95, mm_TW_of (i := 169) (by decide +kernel) rfl, fun h => absurd h (by decide +kernel), fun _ => mm_TW_of (i := 800) (by decide +kernel) rfl, fun _ => mm_TW_of (i := 801) (by decide +kernel) rfl, by decide +kernel, by decide +kernel, by decide +kernel, rfl, fun h => absurd h (by decide +kernel), mm_cdF_of rfl mm_d95⟩
set_option maxRecDepth 100000 in
theorem mm_h96 : mm_hw 96 ∈ mm_TW := List.mem_filter.mpr ⟨mm_at3 (List.mem_of_getElem? (i := 182) rfl), rfl⟩
set_option maxRecDepth 100000 in
theorem mm_mf96 : mm_MFP 96 := ⟨mm_h96, mm_TW_of (i := 169) (by decide +kernel) rfl, fun h => absurd h (by decide +kernel), fun _ => mm_TW_of (i := 812) (by decide +kernel) rfl, fun _ => mm_TW_of (i := 813) (by decide +kernel) rfl, by decide +kernel, by decide +kernel, by decide +kernel, rfl, fun h => absurd h (by decide +kernel), mm_cdF_of rfl mm_d96⟩
set_option maxRecDepth 100000 in
theorem mm_h97 : mm_hw 97 ∈ mm_TW := List.mem_filter.mpr ⟨mm_at3 (List.mem_of_getElem? (i := 186) rfl), rfl⟩
set_option maxRecDepth 100000 in
theorem mm_mf97 : mm_MFP 97 := ⟨mm_h97, mm_TW_of (i := 169) (by decide +kernel) rfl, fun h => absurd h (by decide +kernel), fun _ => mm_TW_of (i := 816) (by decide +kernel) rfl, fun _ => mm_TW_of (i := 817) (by decide +kernel) rfl, by decide +kernel, by decide +kernel, by decide +kernel, rfl, fun h => absurd h (by decide +kernel), mm_cdF_of rfl mm_d97⟩
set_option maxRecDepth 100000 in
theorem mm_h98 : mm_hw 98 ∈ mm_TW := List.mem_filter.mpr ⟨mm_at3 (List.mem_of_getElem? (i := 178) rfl), rfl⟩
set_option maxRecDepth 100000 in
theorem mm_mf98 : mm_MFP 98 := ⟨mm_h98, mm_TW_of (i := 169) (by decide +kernel) rfl, fun h => absurd h (by decide +kernel), fun _ => mm_TW_of (i := 808) (by decide +kernel) rfl, fun _ => mm_TW_of (i := 809) (by decide +kernel) rfl, by decide +kernel, by decide +kernel, by decide +kernel, rfl, fun h => absurd h (by decide +kernel), mm_cdF_of rfl mm_d98⟩
set_option maxRecDepth 100000 in
theorem mm_h99 : mm_hw 99 ∈ mm_TW := List.mem_filter.mpr ⟨mm_at4 (List.mem_of_getElem? (i := 104) rfl), rfl⟩
set_option maxRecDepth 100000 in
theorem mm_mf99 : mm_MFP 99 := ⟨mm_h99, mm_TW_of (i := 169) (by decide +kernel) rfl, fun h => absurd h (by decide +kernel), fun _ => mm_TW_of (i := 974) (by decide +kernel) rfl, fun _ => mm_TW_of (i := 975) (by decide +kernel) rfl, by decide +kernel, by decide +kernel, by decide +kernel, rfl, fun h => absurd h (by decide +kernel), mm_cdF_of rfl mm_d99⟩
set_option maxRecDepth 100000 in
theorem mm_h100 : mm_hw 100 ∈ mm_TW := List.mem_filter.mpr ⟨mm_at4 (List.mem_of_getElem? (i := 93) rfl), rfl⟩
set_option maxRecDepth 100000 in
theorem mm_mf100 : mm_MFP 100 := ⟨mm_h100, mm_TW_of (i := 169) (by decide +kernel) rfl, fun h => absurd h (by decide +kernel), fun _ => mm_TW_of (i := 963) (by decide +kernel) rfl, fun _ => mm_TW_of (i := 964) (by decide +kernel) rfl, by decide +kernel, by decide +kernel, by decide +kernel, rfl, fun h => absurd h (by decide +kernel), mm_cdF_of rfl mm_d100⟩
set_option maxRecDepth 100000 in
theorem mm_h101 : mm_hw 101 ∈ mm_TW := List.mem_filter.mpr ⟨mm_at3 (List.mem_of_getElem? (i := 174) rfl), rfl⟩
set_option maxRecDepth 100000 in
theorem mm_mf101 : mm_MFP 101 := ⟨mm_h101, mm_TW_of (i := 169) (by decide +kernel) rfl, fun h => absurd h (by decide +kernel), fun _ => mm_TW_of (i := 804) (by decide +kernel) rfl, fun _ => mm_TW_of (i := 805) (by decide +kernel) rfl, by decide +kernel, by decide +kernel, by decide +kernel, rfl, fun h => absurd h (by decide +kernel), mm_cdF_of rfl mm_d101⟩
set_option maxRecDepth 100000 in
theorem mm_h102 : mm_hw 102 ∈ mm_TW := List.mem_filter.mpr ⟨mm_at4 (List.mem_of_getElem? (i := 99) rfl), rfl⟩
set_option maxRecDepth 100000 in
theorem mm_mf102 : mm_MFP 102 := ⟨mm_h102, mm_TW_of (i := 169) (by decide +kernel) rfl, fun h => absurd h (by decide +kernel), fun _ => mm_TW_of (i := 969) (by decide +kernel) rfl, fun _ => mm_TW_of (i := 970) (by decide +kernel) rfl, by decide +kernel, by decide +kernel, by decide +kernel, rfl, fun h => absurd h (by decide +kernel), mm_cdF_of rfl mm_d102⟩
set_option maxRecDepth 100000 in
theorem mm_h103 : mm_hw 103 ∈ mm_TW := List.mem_filter.mpr ⟨mm_at4 (List.mem_of_getElem? (i := 13) rfl), rfl⟩
set_option maxRecDepth 100000 in
theorem mm_mf103 : mm_MFP 103 := ⟨mm_h103, mm_TW_of (i := 169) (by decide +kernel) rfl, fun h => absurd h (by decide +kernel), fun _ => mm_TW_of (i := 883) (by decide +kernel) rfl, fun _ => mm_TW_of (i := 884) (by decide +kernel) rfl, by decide +kernel, by decide +kernel, by decide +kernel, rfl, fun h => absurd h (by decide +kernel), mm_cdF_of rfl mm_d103⟩
set_option maxRecDepth 100000 in
theorem mm_h104 : mm_hw 104 ∈ mm_TW := List.mem_filter.mpr ⟨mm_at6 (List.mem_of_getElem? (i := 43) rfl), rfl⟩
set_option maxRecDepth 100000 in
theorem mm_mf104 : mm_MFP 104 := ⟨mm_h104, mm_TW_of (i := 169) (by decide +kernel) rfl, fun h => absurd h (by decide +kernel), fun _ => mm_TW_of (i := 1393) (by decide +kernel) rfl, fun _ => mm_TW_of (i := 1394) (by decide +kernel) rfl, by decide +kernel, by decide +kernel, by decide +kernel, rfl, fun h => absurd h (by decide +kernel), mm_cdF_of rfl mm_d104⟩
set_option maxRecDepth 100000 in
theorem mm_h105 : mm_hw 105 ∈ mm_TW := List.mem_filter.mpr ⟨mm_at7 (List.mem_of_getElem? (i := 68) rfl), rfl⟩
set_option maxRecDepth 100000 in
theorem mm_mf105 : mm_MFP 105 := ⟨mm_h105, mm_TW_of (i := 169) (by decide +kernel) rfl, fun h => absurd h (by decide +kernel), fun _ => mm_TW_of (i := 1658) (by decide +kernel) rfl, fun _ => mm_TW_of (i := 1659) (by decide +kernel) rfl, by decide +kernel, by decide +kernel, by decide +kernel, rfl, fun h => absurd h (by decide +kernel), mm_cdF_of rfl mm_d105⟩
set_option maxRecDepth 100000 in
theorem mm_h106 : mm_hw 106 ∈ mm_TW := List.mem_filter.mpr ⟨mm_at7 (List.mem_of_getElem? (i := 81) rfl), rfl⟩
set_option maxRecDepth 100000 in
theorem mm_mf106 : mm_MFP 106 := ⟨mm_h106, mm_TW_of (i := 169) (by decide +kernel) rfl, fun h => absurd h (by decide +kernel), fun _ => mm_TW_of (i := 1671) (by decide +kernel) rfl, fun _ => mm_TW_of (i := 1672) (by decide +kernel) rfl, by decide +kernel, by decide +kernel, by decide +kernel, rfl, fun h => absurd h (by decide +kernel), mm_cdF_of rfl mm_d106⟩
set_option maxRecDepth 100000 in
theorem mm_h107 : mm_hw 107 ∈ mm_TW := List.mem_filter.mpr ⟨mm_at7 (List.mem_of_getElem? (i := 100) rfl), rfl⟩
set_option maxRecDepth 100000 in
theorem mm_mf107 : mm_MFP 107 := ⟨mm_h107, mm_TW_of (i := 169) (by decide +kernel) rfl, fun h => absurd h (by decide +kernel), fun _ => mm_TW_of (i := 1690) (by decide +kernel) rfl, fun _ => mm_TW_of (i := 1691) (by decide +kernel) rfl, by decide +kernel, by decide +kernel, by decide +kernel, rfl, fun h => absurd h (by decide +kernel), mm_cdF_of rfl mm_d107⟩
set_option maxRecDepth 100000 in
theorem mm_h108 : mm_hw 108 ∈ mm_TW := List.mem_filter.mpr ⟨mm_at7 (List.mem_of_getElem? (i := 105) rfl), rfl⟩
set_option maxRecDepth 100000 in
theorem mm_mf108 : mm_MFP 108 := ⟨mm_h108, mm_TW_of (i := 169) (by decide +kernel) rfl, fun h => absurd h (by decide +kernel), fun _ => mm_TW_of (i := 1696) (by decide +kernel) rfl, fun _ => mm_TW_of (i := 54) (by decide +kernel) rfl, by decide +kernel, by decide +kernel, by decide +kernel, rfl, fun h => absurd h (by decide +kernel), mm_cdF_of rfl mm_d108⟩
set_option maxRecDepth 100000 in
theorem mm_h109 : mm_hw 109 ∈ mm_TW := List.mem_filter.mpr ⟨mm_at2 (List.mem_of_getElem? (i := 159) rfl), rfl⟩
set_option maxRecDepth 100000 in
theorem mm_mf109 : mm_MFP 109 := ⟨mm_h109, mm_TW_of (i := 162) (by decide +kernel) rfl, fun h => absurd h (by decide +kernel), fun _ => mm_TW_of (i := 550) (by decide +kernel) rfl, fun h => absurd h (by decide +kernel), by decide +kernel, by decide +kernel, by decide +kernel, rfl, fun _ => rfl, mm_cdF_of rfl mm_d109⟩
set_option maxRecDepth 100000 in
theorem mm_h110 : mm_hw 110 ∈ mm_TW := List.mem_filter.mpr ⟨mm_at7 (List.mem_of_getElem? (i := 123) rfl), rfl⟩
set_option maxRecDepth 100000 in
theorem mm_mf110 : mm_MFP 110 := ⟨mm_h110, mm_TW_of (i := 162) (by decide +kernel) rfl, fun h => absurd h (by decide +kernel), fun _ => mm_TW_of (i := 1713) (by decide +kernel) rfl, fun _ => mm_TW_of (i := 1714) (by decide +kernel) rfl, by decide +kernel, by decide +kernel, by decide +kernel, rfl, fun h => absurd h (by decide +kernel), mm_cdF_of rfl mm_d110⟩
set_option maxRecDepth 100000 in
theorem mm_h111 : mm_hw 111 ∈ mm_TW := List.mem_filter.mpr ⟨mm_at7 (List.mem_of_getElem? (i := 177) rfl), rfl⟩
set_option maxRecDepth 100000 in
theorem mm_mf111 : mm_MFP 111 := ⟨mm_h111, mm_TW_of (i := 162) (by decide +kernel) rfl, fun h => absurd h (by decide +kernel), fun _ => mm_TW_of (i := 1767) (by decide +kernel) rfl, fun _ => mm_TW_of (i := 1768) (by decide +kernel) rfl, by decide +kernel, by decide +kernel, by decide +kernel, rfl, fun h => absurd h (by decide +kernel), mm_cdF_of rfl mm_d111⟩
set_option maxRecDepth 100000 in
theorem mm_h112 : mm_hw 112 ∈ mm_TW := List.mem_filter.mpr ⟨mm_at7 (List.mem_of_getElem? (i := 144) rfl), rfl⟩
set_option maxRecDepth 100000 in
theorem mm_mf112 : mm_MFP 112 := ⟨mm_h112, mm_TW_of (i := 162) (by decide +kernel) rfl, fun h => absurd h (by decide +kernel), fun _ => mm_TW_of (i := 1734) (by decide +kernel) rfl, fun _ => mm_TW_of (i := 1735) (by decide +kernel) rfl, by decide +kernel, by decide +kernel, by decide +kernel, rfl, fun h => absurd h (by decide +kernel), mm_cdF_of rfl mm_d112⟩
set_option maxRecDepth 100000 in
theorem mm_h113 : mm_hw 113 ∈ mm_TW := List.mem_filter.mpr ⟨mm_at1 (List.mem_of_getElem? (i := 42) rfl), rfl⟩
set_option maxRecDepth 100000 in
theorem mm_mf113 : mm_MFP 113 := ⟨mm_h113, mm_TW_of (i := 154) (by decide +kernel) rfl, fun h => absurd h (by decide +kernel), fun _ => mm_TW_of (i := 193) (by decide +kernel) rfl, fun h => absurd h (by decide +kernel), by decide +kernel, by decide +kernel, by decide +kernel, rfl, fun _ => rfl, mm_cdF_of rfl mm_d113⟩
set_option maxRecDepth 100000 in
theorem mm_h114 : mm_hw 114 ∈ mm_TW := List.mem_filter.mpr ⟨mm_at7 (List.mem_of_getElem? (i := 153) rfl), rfl⟩
set_option maxRecDepth 100000 in
theorem mm_mf114 : mm_MFP 114 := ⟨mm_h114, mm_TW_of (i := 154) (by decide +kernel) rfl, fun h => absurd h (by decide +kernel), fun _ => mm_TW_of (i := 1743) (by decide +kernel) rfl, fun _ => mm_TW_of (i := 1744) (by decide +kernel) rfl, by decide +kernel, by decide +kernel, by decide +kernel, rfl, fun h => absurd h (by decide +kernel), mm_cdF_of rfl mm_d114⟩
set_option maxRecDepth 100000 in
theorem mm_h115 : mm_hw 115 ∈ mm_TW := List.mem_filter.mpr ⟨mm_at5 (List.mem_of_getElem? (i := 183) rfl), rfl⟩
set_option maxRecDepth 100000 in
theorem mm_mf115 : mm_MFP 115 := ⟨mm_h115, mm_TW_of (i := 154) (by decide +kernel) rfl, fun h => absurd h (by decide +kernel), fun _ => mm_TW_of (i := 1293) (by decide +kernel) rfl, fun _ => mm_TW_of (i := 1294) (by decide +kernel) rfl, by decide +kernel, by decide +kernel, by decide +kernel, rfl, fun h => absurd h (by decide +kernel), mm_cdF_of rfl mm_d115⟩
set_option maxRecDepth 100000 in
theorem mm_h116 : mm_hw 116 ∈ mm_TW := List.mem_filter.mpr ⟨mm_at6 (List.mem_of_getElem? (i := 33) rfl), rfl⟩
set_option maxRecDepth 100000 in
theorem mm_mf116 : mm_MFP 116 := ⟨mm_h116, mm_TW_of (i := 154) (by decide +kernel) rfl, fun _ => mm_TW_of (i := 1384) (by decide +kernel) rfl, fun h => absurd (show (mm_MT 116).2.2.2.2.1 = 1 from by decide +kernel) h, fun h => absurd h (by decide +kernel), by decide +kernel, by decide +kernel, by decide +kernel, rfl, fun h => absurd h (by decide +kernel), mm_cdF_of rfl mm_d116⟩
set_option maxRecDepth 100000 in
theorem mm_h117 : mm_hw 117 ∈ mm_TW := List.mem_filter.mpr ⟨mm_at5 (List.mem_of_getElem? (i := 192) rfl), rfl⟩
set_option maxRecDepth 100000 in
theorem mm_mf117 : mm_MFP 117 := ⟨mm_h117, mm_TW_of (i := 154) (by decide +kernel) rfl, fun h => absurd h (by decide +kernel), fun _ => mm_TW_of (i := 1303) (by decide +kernel) rfl, fun _ => mm_TW_of (i := 28) (by decide +kernel) rfl, by decide +kernel, by decide +kernel, by decide +kernel, rfl, fun h => absurd h (by decide +kernel), mm_cdF_of rfl mm_d117⟩
set_option maxRecDepth 100000 in
theorem mm_h118 : mm_hw 118 ∈ mm_TW := List.mem_filter.mpr ⟨mm_at5 (List.mem_of_getElem? (i := 225) rfl), rfl⟩
set_option maxRecDepth 100000 in
theorem mm_mf118 : mm_MFP 118 := ⟨mm_h118, mm_TW_of (i := 154) (by decide +kernel) rfl, fun h => absurd h (by decide +kernel), fun _ => mm_TW_of (i := 1336) (by decide +kernel) rfl, fun _ => mm_TW_of (i := 32) (by decide +kernel) rfl, by decide +kernel, by decide +kernel, by decide +kernel, rfl, fun h => absurd h (by decide +kernel), mm_cdF_of rfl mm_d118⟩
set_option maxRecDepth 100000 in
theorem mm_h119 : mm_hw 119 ∈ mm_TW := List.mem_filter.mpr ⟨mm_at5 (List.mem_of_getElem? (i := 207) rfl), rfl⟩
set_option maxRecDepth 100000 in
theorem mm_mf119 : mm_MFP 119 := ⟨mm_h119, mm_TW_of (i := 154) (by decide +kernel) rfl, fun h => absurd h (by decide +kernel), fun _ => mm_TW_of (i := 1318) (by decide +kernel) rfl, fun _ => mm_TW_of (i := 30) (by decide +kernel) rfl, by decide +kernel, by decide +kernel, by decide +kernel, rfl, fun h => absurd h (by decide +kernel), mm_cdF_of rfl mm_d119⟩
set_option maxRecDepth 100000 in
theorem mm_h120 : mm_hw 120 ∈ mm_TW := List.mem_filter.mpr ⟨mm_at5 (List.mem_of_getElem? (i := 215) rfl), rfl⟩
set_option maxRecDepth 100000 in
theorem mm_mf120 : mm_MFP 120 := ⟨mm_h120, mm_TW_of (i := 154) (by decide +kernel) rfl, fun h => absurd h (by decide +kernel), fun _ => mm_TW_of (i := 1326) (by decide +kernel) rfl, fun _ => mm_TW_of (i := 31) (by decide +kernel) rfl, by decide +kernel, by decide +kernel, by decide +kernel, rfl, fun h => absurd h (by decide +kernel), mm_cdF_of rfl mm_d120⟩
set_option maxRecDepth 100000 in
theorem mm_h121 : mm_hw 121 ∈ mm_TW := List.mem_filter.mpr ⟨mm_at5 (List.mem_of_getElem? (i := 229) rfl), rfl⟩
set_option maxRecDepth 100000 in
theorem mm_mf121 : mm_MFP 121 := ⟨mm_h121, mm_TW_of (i := 154) (by decide +kernel) rfl, fun h => absurd h (by decide +kernel), fun _ => mm_TW_of (i := 1340) (by decide +kernel) rfl, fun _ => mm_TW_of (i := 33) (by decide +kernel) rfl, by decide +kernel, by decide +kernel, by decide +kernel, rfl, fun h => absurd h (by decide +kernel), mm_cdF_of rfl mm_d121⟩
set_option maxRecDepth 100000 in
theorem mm_h122 : mm_hw 122 ∈ mm_TW := List.mem_filter.mpr ⟨mm_at6 (List.mem_of_getElem? (i := 12) rfl), rfl⟩
set_option maxRecDepth 100000 in
theorem mm_mf122 : mm_MFP 122 := ⟨mm_h122, mm_TW_of (i := 154) (by decide +kernel) rfl, fun h => absurd h (by decide +kernel), fun _ => mm_TW_of (i := 1363) (by decide +kernel) rfl, fun _ => mm_TW_of (i := 37) (by decide +kernel) rfl, by decide +kernel, by decide +kernel, by decide +kernel, rfl, fun h => absurd h (by decide +kernel), mm_cdF_of rfl mm_d122⟩
set_option maxRecDepth 100000 in
theorem mm_h123 : mm_hw 123 ∈ mm_TW := List.mem_filter.mpr ⟨mm_at1 (List.mem_of_getElem? (i := 160) rfl), rfl⟩
set_option maxRecDepth 100000 in
theorem mm_mf123 : mm_MFP 123 := ⟨mm_h123, mm_TW_of (i := 158) (by decide +kernel) rfl, fun h => absurd h (by decide +kernel), fun _ => mm_TW_of (i := 311) (by decide +kernel) rfl, fun h => absurd h (by decide +kernel), by decide +kernel, by decide +kernel, by decide +kernel, rfl, fun _ => rfl, mm_cdF_of rfl mm_d123⟩
set_option maxRecDepth 100000 in
theorem mm_h124 : mm_hw 124 ∈ mm_TW := List.mem_filter.mpr ⟨mm_at6 (List.mem_of_getElem? (i := 16) rfl), rfl⟩
set_option maxRecDepth 100000 in
theorem mm_mf124 : mm_MFP 124 := ⟨mm_h124, mm_TW_of (i := 158) (by decide +kernel) rfl, fun h => absurd h (by decide +kernel), fun _ => mm_TW_of (i := 1366) (by decide +kernel) rfl, fun _ => mm_TW_of (i := 1367) (by decide +kernel) rfl, by decide +kernel, by decide +kernel, by decide +kernel, rfl, fun h => absurd h (by decide +kernel), mm_cdF_of rfl mm_d124⟩
set_option maxRecDepth 100000 in
theorem mm_h125 : mm_hw 125 ∈ mm_TW := List.mem_filter.mpr ⟨mm_at6 (List.mem_of_getElem? (i := 21) rfl), rfl⟩
set_option maxRecDepth 100000 in
theorem mm_mf125 : mm_MFP 125 := ⟨mm_h125, mm_TW_of (i := 158) (by decide +kernel) rfl, fun h => absurd h (by decide +kernel), fun _ => mm_TW_of (i := 1372) (by decide +kernel) rfl, fun _ => mm_TW_of (i := 38) (by decide +kernel) rfl, by decide +kernel, by decide +kernel, by decide +kernel, rfl, fun h => absurd h (by decide +kernel), mm_cdF_of rfl mm_d125⟩
set_option maxRecDepth 100000 in
theorem mm_h126 : mm_hw 126 ∈ mm_TW := List.mem_filter.mpr ⟨mm_at5 (List.mem_of_getElem? (i := 119) rfl), rfl⟩
set_option maxRecDepth 100000 in
theorem mm_mf126 : mm_MFP 126 := ⟨mm_h126, mm_TW_of (i := 158) (by decide +kernel) rfl, fun h => absurd h (by decide +kernel), fun _ => mm_TW_of (i := 1229) (by decide +kernel) rfl, fun _ => mm_TW_of (i := 1230) (by decide +kernel) rfl, by decide +kernel, by decide +kernel, by decide +kernel, rfl, fun h => absurd h (by decide +kernel), mm_cdF_of rfl mm_d126⟩
set_option maxRecDepth 100000 in
theorem mm_h127 : mm_hw 127 ∈ mm_TW := List.mem_filter.mpr ⟨mm_at5 (List.mem_of_getElem? (i := 123) rfl), rfl⟩
set_option maxRecDepth 100000 in
theorem mm_mf127 : mm_MFP 127 := ⟨mm_h127, mm_TW_of (i := 158) (by decide +kernel) rfl, fun h => absurd h (by decide +kernel), fun _ => mm_TW_of (i := 1234) (by decide +kernel) rfl, fun _ => mm_TW_of (i := 18) (by decide +kernel) rfl, by decide +kernel, by decide +kernel, by decide +kernel, rfl, fun h => absurd h (by decide +kernel), mm_cdF_of rfl mm_d127⟩
set_option maxRecDepth 100000 in
theorem mm_h128 : mm_hw 128 ∈ mm_TW := List.mem_filter.mpr ⟨mm_at5 (List.mem_of_getElem? (i := 131) rfl), rfl⟩
set_option maxRecDepth 100000 in
theorem mm_mf128 : mm_MFP 128 := ⟨mm_h128, mm_TW_of (i := 158) (by decide +kernel) rfl, fun h => absurd h (by decide +kernel), fun _ => mm_TW_of (i := 1242) (by decide +kernel) rfl, fun _ => mm_TW_of (i := 19) (by decide +kernel) rfl, by decide +kernel, by decide +kernel, by decide +kernel, rfl, fun h => absurd h (by decide +kernel), mm_cdF_of rfl mm_d128⟩
set_option maxRecDepth 100000 in
theorem mm_h129 : mm_hw 129 ∈ mm_TW := List.mem_filter.mpr ⟨mm_at5 (List.mem_of_getElem? (i := 136) rfl), rfl⟩
set_option maxRecDepth 100000 in
theorem mm_mf129 : mm_MFP 129 := ⟨mm_h129, mm_TW_of (i := 158) (by decide +kernel) rfl, fun h => absurd h (by decide +kernel), fun _ => mm_TW_of (i := 1247) (by decide +kernel) rfl, fun _ => mm_TW_of (i := 20) (by decide +kernel) rfl, by decide +kernel, by decide +kernel, by decide +kernel, rfl, fun h => absurd h (by decide +kernel), mm_cdF_of rfl mm_d129⟩
set_option maxRecDepth 100000 in
theorem mm_h130 : mm_hw 130 ∈ mm_TW := List.mem_filter.mpr ⟨mm_at5 (List.mem_of_getElem? (i := 140) rfl), rfl⟩
set_option maxRecDepth 100000 in
theorem mm_mf130 : mm_MFP 130 := ⟨mm_h130, mm_TW_of (i := 158) (by decide +kernel) rfl, fun h => absurd h (by decide +kernel), fun _ => mm_TW_of (i := 1251) (by decide +kernel) rfl, fun _ => mm_TW_of (i := 21) (by decide +kernel) rfl, by decide +kernel, by decide +kernel, by decide +kernel, rfl, fun h => absurd h (by decide +kernel), mm_cdF_of rfl mm_d130⟩
set_option maxRecDepth 100000 in
theorem mm_h131 : mm_hw 131 ∈ mm_TW := List.mem_filter.mpr ⟨mm_at1 (List.mem_of_getElem? (i := 147) rfl), rfl⟩
set_option maxRecDepth 100000 in
theorem mm_mf131 : mm_MFP 131 := ⟨mm_h131, mm_TW_of (i := 157) (by decide +kernel) rfl, fun h => absurd h (by decide +kernel), fun _ => mm_TW_of (i := 298) (by decide +kernel) rfl, fun h => absurd h (by decide +kernel), by decide +kernel, by decide +kernel, by decide +kernel, rfl, fun _ => rfl, mm_cdF_of rfl mm_d131⟩
set_option maxRecDepth 100000 in
theorem mm_h132 : mm_hw 132 ∈ mm_TW := List.mem_filter.mpr ⟨mm_at5 (List.mem_of_getElem? (i := 233) rfl), rfl⟩
set_option maxRecDepth 100000 in
theorem mm_mf132 : mm_MFP 132 := ⟨mm_h132, mm_TW_of (i := 157) (by decide +kernel) rfl, fun h => absurd h (by decide +kernel), fun _ => mm_TW_of (i := 1343) (by decide +kernel) rfl, fun _ => mm_TW_of (i := 1344) (by decide +kernel) rfl, by decide +kernel, by decide +kernel, by decide +kernel, rfl, fun h => absurd h (by decide +kernel), mm_cdF_of rfl mm_d132⟩
set_option maxRecDepth 100000 in
theorem mm_h133 : mm_hw 133 ∈ mm_TW := List.mem_filter.mpr ⟨mm_at5 (List.mem_of_getElem? (i := 237) rfl), rfl⟩
set_option maxRecDepth 100000 in
theorem mm_mf133 : mm_MFP 133 := ⟨mm_h133, mm_TW_of (i := 157) (by decide +kernel) rfl, fun h => absurd h (by decide +kernel), fun _ => mm_TW_of (i := 1348) (by decide +kernel) rfl, fun _ => mm_TW_of (i := 34) (by decide +kernel) rfl, by decide +kernel, by decide +kernel, by decide +kernel, rfl, fun h => absurd h (by decide +kernel), mm_cdF_of rfl mm_d133⟩
set_option maxRecDepth 100000 in
theorem mm_h134 : mm_hw 134 ∈ mm_TW := List.mem_filter.mpr ⟨mm_at5 (List.mem_of_getElem? (i := 102) rfl), rfl⟩
set_option maxRecDepth 100000 in
theorem mm_mf134 : mm_MFP 134 := ⟨mm_h134, mm_TW_of (i := 157) (by decide +kernel) rfl, fun h => absurd h (by decide +kernel), fun _ => mm_TW_of (i := 1212) (by decide +kernel) rfl, fun _ => mm_TW_of (i := 1213) (by decide +kernel) rfl, by decide +kernel, by decide +kernel, by decide +kernel, rfl, fun h => absurd h (by decide +kernel), mm_cdF_of rfl mm_d134⟩
set_option maxRecDepth 100000 in
theorem mm_h135 : mm_hw 135 ∈ mm_TW := List.mem_filter.mpr ⟨mm_at5 (List.mem_of_getElem? (i := 109) rfl), rfl⟩
set_option maxRecDepth 100000 in
theorem mm_mf135 : mm_MFP 135 := ⟨mm_h135, mm_TW_of (i := 157) (by decide +kernel) rfl, fun h => absurd h (by decide +kernel), fun _ => mm_TW_of (i := 1220) (by decide +kernel) rfl, fun _ => mm_TW_of (i := 16) (by decide +kernel) rfl, by decide +kernel, by decide +kernel, by decide +kernel, rfl, fun h => absurd h (by decide +kernel), mm_cdF_of rfl mm_d135⟩
set_option maxRecDepth 100000 in
theorem mm_h136 : mm_hw 136 ∈ mm_TW := List.mem_filter.mpr ⟨mm_at6 (List.mem_of_getElem? (i := 3) rfl), rfl⟩
set_option maxRecDepth 100000 in
theorem mm_mf136 : mm_MFP 136 := ⟨mm_h136, mm_TW_of (i := 157) (by decide +kernel) rfl, fun h => absurd h (by decide +kernel), fun _ => mm_TW_of (i := 1354) (by decide +kernel) rfl, fun _ => mm_TW_of (i := 35) (by decide +kernel) rfl, by decide +kernel, by decide +kernel, by decide +kernel, rfl, fun h => absurd h (by decide +kernel), mm_cdF_of rfl mm_d136⟩
set_option maxRecDepth 100000 in
theorem mm_h137 : mm_hw 137 ∈ mm_TW := List.mem_filter.mpr ⟨mm_at5 (List.mem_of_getElem? (i := 113) rfl), rfl⟩
set_option maxRecDepth 100000 in
theorem mm_mf137 : mm_MFP 137 := ⟨mm_h137, mm_TW_of (i := 157) (by decide +kernel) rfl, fun h => absurd h (by decide +kernel), fun _ => mm_TW_of (i := 1224) (by decide +kernel) rfl, fun _ => mm_TW_of (i := 17) (by decide +kernel) rfl, by decide +kernel, by decide +kernel, by decide +kernel, rfl, fun h => absurd h (by decide +kernel), mm_cdF_of rfl mm_d137⟩
set_option maxRecDepth 100000 in
theorem mm_h138 : mm_hw 138 ∈ mm_TW := List.mem_filter.mpr ⟨mm_at6 (List.mem_of_getElem? (i := 7) rfl), rfl⟩
set_option maxRecDepth 100000 in
theorem mm_mf138 : mm_MFP 138 := ⟨mm_h138, mm_TW_of (i := 157) (by decide +kernel) rfl, fun h => absurd h (by decide +kernel), fun _ => mm_TW_of (i := 1358) (by decide +kernel) rfl, fun _ => mm_TW_of (i := 36) (by decide +kernel) rfl, by decide +kernel, by decide +kernel, by decide +kernel, rfl, fun h => absurd h (by decide +kernel), mm_cdF_of rfl mm_d138⟩
set_option maxRecDepth 100000 in
theorem mm_h139 : mm_hw 139 ∈ mm_TW := List.mem_filter.mpr ⟨mm_at1 (List.mem_of_getElem? (i := 26) rfl), rfl⟩
set_option maxRecDepth 100000 in
theorem mm_mf139 : mm_MFP 139 := ⟨mm_h139, mm_TW_of (i := 153) (by decide +kernel) rfl, fun h => absurd h (by decide +kernel), fun _ => mm_TW_of (i := 177) (by decide +kernel) rfl, fun h => absurd h (by decide +kernel), by decide +kernel, by decide +kernel, by decide +kernel, rfl, fun _ => rfl, mm_cdF_of rfl mm_d139⟩
