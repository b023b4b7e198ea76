set_option maxRecDepth 100000 in
theorem mm_h373 : mm_hw 373 ∈ mm_TW := List.mem_filter.mpr ⟨mm_at4 (List.mem_of_getElem? (i := 56) rfl), rfl⟩
set_option maxRecDepth 100000 in
theorem mm_mf373 : mm_MFP 373 := ⟨mm_h373, mm_TW_of (i := 152) (by decide +kernel) rfl, fun _ => mm_TW_of (i := 927) (by decide +kernel) rfl, fun h => absurd (show (mm_MT 373).2.2.2.2.1 = 1 from by decide +kernel) h, fun h => absurd h (by decide +kernel), by decide +kernel, by decide +kernel, by decide +kernel, rfl, fun h => absurd h (by decide +kernel), mm_cdF_of rfl mm_d373⟩
set_option maxRecDepth 100000 in
theorem mm_h374 : mm_hw 374 ∈ mm_TW := List.mem_filter.mpr ⟨mm_at4 (List.mem_of_getElem? (i := 65) rfl), rfl⟩
set_option maxRecDepth 100000 in
theorem mm_mf374 : mm_MFP 374 := ⟨mm_h374, mm_TW_of (i := 152) (by decide +kernel) rfl, fun _ => mm_TW_of (i := 936) (by decide +kernel) rfl, fun h => absurd (show (mm_MT 374).2.2.2.2.1 = 1 from by decide +kernel) h, fun h => absurd h (by decide +kernel), by decide +kernel, by decide +kernel, by decide +kernel, rfl, fun h => absurd h (by decide +kernel), mm_cdF_of rfl mm_d374⟩
set_option maxRecDepth 100000 in
theorem mm_h375 : mm_hw 375 ∈ mm_TW := List.mem_filter.mpr ⟨mm_at4 (List.mem_of_getElem? (i := 73) rfl), rfl⟩
set_option maxRecDepth 100000 in
theorem mm_mf375 : mm_MFP 375 := ⟨mm_h375, mm_TW_of (i := 152) (by decide +kernel) rfl, fun _ => mm_TW_of (i := 944) (by decide +kernel) rfl, fun h => absurd (show (mm_MT 375).2.2.2.2.1 = 1 from by decide +kernel) h, fun h => absurd h (by decide +kernel), by decide +kernel, by decide +kernel, by decide +kernel, rfl, fun h => absurd h (by decide +kernel), mm_cdF_of rfl mm_d375⟩
set_option maxRecDepth 100000 in
theorem mm_h376 : mm_hw 376 ∈ mm_TW := List.mem_filter.mpr ⟨mm_at4 (List.mem_of_getElem? (i := 85) rfl), rfl⟩
set_option maxRecDepth 100000 in
theorem mm_mf376 : mm_MFP 376 := ⟨mm_h376, mm_TW_of (i := 152) (by decide +kernel) rfl, fun _ => mm_TW_of (i := 956) (by decide +kernel) rfl, fun h => absurd (show (mm_MT 376).2.2.2.2.1 = 1 from by decide +kernel) h, fun h => absurd h (by decide +kernel), by decide +kernel, by decide +kernel, by decide +kernel, rfl, fun h => absurd h (by decide +kernel), mm_cdF_of rfl mm_d376⟩
set_option maxRecDepth 100000 in
theorem mm_h377 : mm_hw 377 ∈ mm_TW := List.mem_filter.mpr ⟨mm_at4 (List.mem_of_getElem? (i := 110) rfl), rfl⟩
set_option maxRecDepth 100000 in
theorem mm_mf377 : mm_MFP 377 := ⟨mm_h377, mm_TW_of (i := 152) (by decide +kernel) rfl, fun _ => mm_TW_of (i := 981) (by decide +kernel) rfl, fun h => absurd (show (mm_MT 377).2.2.2.2.1 = 1 from by decide +kernel) h, fun h => absurd h (by decide +kernel), by decide +kernel, by decide +kernel, by decide +kernel, rfl, fun h => absurd h (by decide +kernel), mm_cdF_of rfl mm_d377⟩
set_option maxRecDepth 100000 in
theorem mm_h378 : mm_hw 378 ∈ mm_TW := List.mem_filter.mpr ⟨mm_at6 (List.mem_of_getElem? (i := 48) rfl), rfl⟩
set_option maxRecDepth 100000 in
theorem mm_mf378 : mm_MFP 378 := ⟨mm_h378, mm_TW_of (i := 152) (by decide +kernel) rfl, fun _ => mm_TW_of (i := 1399) (by decide +kernel) rfl, fun h => absurd (show (mm_MT 378).2.2.2.2.1 = 1 from by decide +kernel) h, fun h => absurd h (by decide +kernel), by decide +kernel, by decide +kernel, by decide +kernel, rfl, fun h => absurd h (by decide +kernel), mm_cdF_of rfl mm_d378⟩
set_option maxRecDepth 100000 in
theorem mm_h379 : mm_hw 379 ∈ mm_TW := List.mem_filter.mpr ⟨mm_at6 (List.mem_of_getElem? (i := 57) rfl), rfl⟩
set_option maxRecDepth 100000 in
theorem mm_mf379 : mm_MFP 379 := ⟨mm_h379, mm_TW_of (i := 152) (by decide +kernel) rfl, fun _ => mm_TW_of (i := 1408) (by decide +kernel) rfl, fun h => absurd (show (mm_MT 379).2.2.2.2.1 = 1 from by decide +kernel) h, fun h => absurd h (by decide +kernel), by decide +kernel, by decide +kernel, by decide +kernel, rfl, fun h => absurd h (by decide +kernel), mm_cdF_of rfl mm_d379⟩
set_option maxRecDepth 100000 in
theorem mm_h380 : mm_hw 380 ∈ mm_TW := List.mem_filter.mpr ⟨mm_at6 (List.mem_of_getElem? (i := 70) rfl), rfl⟩
set_option maxRecDepth 100000 in
theorem mm_mf380 : mm_MFP 380 := ⟨mm_h380, mm_TW_of (i := 152) (by decide +kernel) rfl, fun _ => mm_TW_of (i := 1421) (by decide +kernel) rfl, fun h => absurd (show (mm_MT 380).2.2.2.2.1 = 1 from by decide +kernel) h, fun h => absurd h (by decide +kernel), by decide +kernel, by decide +kernel, by decide +kernel, rfl, fun h => absurd h (by decide +kernel), mm_cdF_of rfl mm_d380⟩
set_option maxRecDepth 100000 in
theorem mm_h381 : mm_hw 381 ∈ mm_TW := List.mem_filter.mpr ⟨mm_at6 (List.mem_of_getElem? (i := 85) rfl), rfl⟩
set_option maxRecDepth 100000 in
theorem mm_mf381 : mm_MFP 381 := ⟨mm_h381, mm_TW_of (i := 152) (by decide +kernel) rfl, fun _ => mm_TW_of (i := 1436) (by decide +kernel) rfl, fun h => absurd (show (mm_MT 381).2.2.2.2.1 = 1 from by decide +kernel) h, fun h => absurd h (by decide +kernel), by decide +kernel, by decide +kernel, by decide +kernel, rfl, fun h => absurd h (by decide +kernel), mm_cdF_of rfl mm_d381⟩
set_option maxRecDepth 100000 in
theorem mm_h382 : mm_hw 382 ∈ mm_TW := List.mem_filter.mpr ⟨mm_at6 (List.mem_of_getElem? (i := 95) rfl), rfl⟩
set_option maxRecDepth 100000 in
theorem mm_mf382 : mm_MFP 382 := ⟨mm_h382, mm_TW_of (i := 152) (by decide +kernel) rfl, fun _ => mm_TW_of (i := 1446) (by decide +kernel) rfl, fun h => absurd (show (mm_MT 382).2.2.2.2.1 = 1 from by decide +kernel) h, fun h => absurd h (by decide +kernel), by decide +kernel, by decide +kernel, by decide +kernel, rfl, fun h => absurd h (by decide +kernel), mm_cdF_of rfl mm_d382⟩
set_option maxRecDepth 100000 in
theorem mm_h383 : mm_hw 383 ∈ mm_TW := List.mem_filter.mpr ⟨mm_at6 (List.mem_of_getElem? (i := 111) rfl), rfl⟩
set_option maxRecDepth 100000 in
theorem mm_mf383 : mm_MFP 383 := ⟨mm_h383, mm_TW_of (i := 152) (by decide +kernel) rfl, fun _ => mm_TW_of (i := 1462) (by decide +kernel) rfl, fun h => absurd (show (mm_MT 383).2.2.2.2.1 = 1 from by decide +kernel) h, fun h => absurd h (by decide +kernel), by decide +kernel, by decide +kernel, by decide +kernel, rfl, fun h => absurd h (by decide +kernel), mm_cdF_of rfl mm_d383⟩
set_option maxRecDepth 100000 in
theorem mm_h384 : mm_hw 384 ∈ mm_TW := List.mem_filter.mpr ⟨mm_at6 (List.mem_of_getElem? (i := 125) rfl), rfl⟩
set_option maxRecDepth 100000 in
theorem mm_mf384 : mm_MFP 384 := ⟨mm_h384, mm_TW_of (i := 152) (by decide +kernel) rfl, fun _ => mm_TW_of (i := 1476) (by decide +kernel) rfl, fun h => absurd (show (mm_MT 384).2.2.2.2.1 = 1 from by decide +kernel) h, fun h => absurd h (by decide +kernel), by decide +kernel, by decide +kernel, by decide +kernel, rfl, fun h => absurd h (by decide +kernel), mm_cdF_of rfl mm_d384⟩
set_option maxRecDepth 100000 in
theorem mm_h385 : mm_hw 385 ∈ mm_TW := List.mem_filter.mpr ⟨mm_at6 (List.mem_of_getElem? (i := 133) rfl), rfl⟩
set_option maxRecDepth 100000 in
theorem mm_mf385 : mm_MFP 385 := ⟨mm_h385, mm_TW_of (i := 152) (by decide +kernel) rfl, fun _ => mm_TW_of (i := 1484) (by decide +kernel) rfl, fun h => absurd (show (mm_MT 385).2.2.2.2.1 = 1 from by decide +kernel) h, fun h => absurd h (by decide +kernel), by decide +kernel, by decide +kernel, by decide +kernel, rfl, fun h => absurd h (by decide +kernel), mm_cdF_of rfl mm_d385⟩
set_option maxRecDepth 100000 in
theorem mm_h386 : mm_hw 386 ∈ mm_TW := List.mem_filter.mpr ⟨mm_at6 (List.mem_of_getElem? (i := 140) rfl), rfl⟩
set_option maxRecDepth 100000 in
theorem mm_mf386 : mm_MFP 386 := ⟨mm_h386, mm_TW_of (i := 152) (by decide +kernel) rfl, fun _ => mm_TW_of (i := 1491) (by decide +kernel) rfl, fun h => absurd (show (mm_MT 386).2.2.2.2.1 = 1 from by decide +kernel) h, fun h => absurd h (by decide +kernel), by decide +kernel, by decide +kernel, by decide +kernel, rfl, fun h => absurd h (by decide +kernel), mm_cdF_of rfl mm_d386⟩
set_option maxRecDepth 100000 in
theorem mm_h387 : mm_hw 387 ∈ mm_TW := List.mem_filter.mpr ⟨mm_at6 (List.mem_of_getElem? (i := 148) rfl), rfl⟩
set_option maxRecDepth 100000 in
theorem mm_mf387 : mm_MFP 387 := ⟨mm_h387, mm_TW_of (i := 152) (by decide +kernel) rfl, fun _ => mm_TW_of (i := 1499) (by decide +kernel) rfl, fun h => absurd (show (mm_MT 387).2.2.2.2.1 = 1 from by decide +kernel) h, fun h => absurd h (by decide +kernel), by decide +kernel, by decide +kernel, by decide +kernel, rfl, fun h => absurd h (by decide +kernel), mm_cdF_of rfl mm_d387⟩
set_option maxRecDepth 100000 in
theorem mm_h388 : mm_hw 388 ∈ mm_TW := List.mem_filter.mpr ⟨mm_at6 (List.mem_of_getElem? (i := 157) rfl), rfl⟩
set_option maxRecDepth 100000 in
theorem mm_mf388 : mm_MFP 388 := ⟨mm_h388, mm_TW_of (i := 152) (by decide +kernel) rfl, fun _ => mm_TW_of (i := 1508) (by decide +kernel) rfl, fun h => absurd (show (mm_MT 388).2.2.2.2.1 = 1 from by decide +kernel) h, fun h => absurd h (by decide +kernel), by decide +kernel, by decide +kernel, by decide +kernel, rfl, fun h => absurd h (by decide +kernel), mm_cdF_of rfl mm_d388⟩
set_option maxRecDepth 100000 in
theorem mm_h389 : mm_hw 389 ∈ mm_TW := List.mem_filter.mpr ⟨mm_at6 (List.mem_of_getElem? (i := 193) rfl), rfl⟩
set_option maxRecDepth 100000 in
theorem mm_mf389 : mm_MFP 389 := ⟨mm_h389, mm_TW_of (i := 152) (by decide +kernel) rfl, fun _ => mm_TW_of (i := 1544) (by decide +kernel) rfl, fun h => absurd (show (mm_MT 389).2.2.2.2.1 = 1 from by decide +kernel) h, fun h => absurd h (by decide +kernel), by decide +kernel, by decide +kernel, by decide +kernel, rfl, fun h => absurd h (by decide +kernel), mm_cdF_of rfl mm_d389⟩
set_option maxRecDepth 100000 in
theorem mm_h390 : mm_hw 390 ∈ mm_TW := List.mem_filter.mpr ⟨mm_at6 (List.mem_of_getElem? (i := 200) rfl), rfl⟩
set_option maxRecDepth 100000 in
theorem mm_mf390 : mm_MFP 390 := ⟨mm_h390, mm_TW_of (i := 152) (by decide +kernel) rfl, fun _ => mm_TW_of (i := 1551) (by decide +kernel) rfl, fun h => absurd (show (mm_MT 390).2.2.2.2.1 = 1 from by decide +kernel) h, fun h => absurd h (by decide +kernel), by decide +kernel, by decide +kernel, by decide +kernel, rfl, fun h => absurd h (by decide +kernel), mm_cdF_of rfl mm_d390⟩
set_option maxRecDepth 100000 in
theorem mm_h391 : mm_hw 391 ∈ mm_TW := List.mem_filter.mpr ⟨mm_at7 (List.mem_of_getElem? (i := 37) rfl), rfl⟩
set_option maxRecDepth 100000 in
theorem mm_mf391 : mm_MFP 391 := ⟨mm_h391, mm_TW_of (i := 152) (by decide +kernel) rfl, fun _ => mm_TW_of (i := 1628) (by decide +kernel) rfl, fun h => absurd (show (mm_MT 391).2.2.2.2.1 = 1 from by decide +kernel) h, fun h => absurd h (by decide +kernel), by decide +kernel, by decide +kernel, by decide +kernel, rfl, fun h => absurd h (by decide +kernel), mm_cdF_of rfl mm_d391⟩
set_option maxRecDepth 100000 in
theorem mm_h392 : mm_hw 392 ∈ mm_TW := List.mem_filter.mpr ⟨mm_at7 (List.mem_of_getElem? (i := 59) rfl), rfl⟩
set_option maxRecDepth 100000 in
theorem mm_mf392 : mm_MFP 392 := ⟨mm_h392, mm_TW_of (i := 152) (by decide +kernel) rfl, fun _ => mm_TW_of (i := 1650) (by decide +kernel) rfl, fun h => absurd (show (mm_MT 392).2.2.2.2.1 = 1 from by decide +kernel) h, fun h => absurd h (by decide +kernel), by decide +kernel, by decide +kernel, by decide +kernel, rfl, fun h => absurd h (by decide +kernel), mm_cdF_of rfl mm_d392⟩
set_option maxRecDepth 100000 in
theorem mm_h393 : mm_hw 393 ∈ mm_TW := List.mem_filter.mpr ⟨mm_at7 (List.mem_of_getElem? (i := 73) rfl), rfl⟩
set_option maxRecDepth 100000 in
theorem mm_mf393 : mm_MFP 393 := ⟨mm_h393, mm_TW_of (i := 152) (by decide +kernel) rfl, fun _ => mm_TW_of (i := 1664) (by decide +kernel) rfl, fun h => absurd (show (mm_MT 393).2.2.2.2.1 = 1 from by decide +kernel) h, fun h => absurd h (by decide +kernel), by decide +kernel, by decide +kernel, by decide +kernel, rfl, fun h => absurd h (by decide +kernel), mm_cdF_of rfl mm_d393⟩
set_option maxRecDepth 100000 in
theorem mm_h394 : mm_hw 394 ∈ mm_TW := List.mem_filter.mpr ⟨mm_at7 (List.mem_of_getElem? (i := 84) rfl), rfl⟩
set_option maxRecDepth 100000 in
theorem mm_mf394 : mm_MFP 394 := ⟨mm_h394, mm_TW_of (i := 152) (by decide +kernel) rfl, fun _ => mm_TW_of (i := 1675) (by decide +kernel) rfl, fun h => absurd (show (mm_MT 394).2.2.2.2.1 = 1 from by decide +kernel) h, fun h => absurd h (by decide +kernel), by decide +kernel, by decide +kernel, by decide +kernel, rfl, fun h => absurd h (by decide +kernel), mm_cdF_of rfl mm_d394⟩
set_option maxRecDepth 100000 in
theorem mm_h395 : mm_hw 395 ∈ mm_TW := List.mem_filter.mpr ⟨mm_at7 (List.mem_of_getElem? (i := 91) rfl), rfl⟩
set_option maxRecDepth 100000 in
theorem mm_mf395 : mm_MFP 395 := ⟨mm_h395, mm_TW_of (i := 152) (by decide +kernel) rfl, fun _ => mm_TW_of (i := 1682) (by decide +kernel) rfl, fun h => absurd (show (mm_MT 395).2.2.2.2.1 = 1 from by decide +kernel) h, fun h => absurd h (by decide +kernel), by decide +kernel, by decide +kernel, by decide +kernel, rfl, fun h => absurd h (by decide +kernel), mm_cdF_of rfl mm_d395⟩
set_option maxRecDepth 100000 in
theorem mm_h396 : mm_hw 396 ∈ mm_TW := List.mem_filter.mpr ⟨mm_at7 (List.mem_of_getElem? (i := 109) rfl), rfl⟩
set_option maxRecDepth 100000 in
theorem mm_mf396 : mm_MFP 396 := ⟨mm_h396, mm_TW_of (i := 152) (by decide +kernel) rfl, fun _ => mm_TW_of (i := 1700) (by decide +kernel) rfl, fun h => absurd (show (mm_MT 396).2.2.2.2.1 = 1 from by decide +kernel) h, fun h => absurd h (by decide +kernel), by decide +kernel, by decide +kernel, by decide +kernel, rfl, fun h => absurd h (by decide +kernel), mm_cdF_of rfl mm_d396⟩
set_option maxRecDepth 100000 in
theorem mm_h397 : mm_hw 397 ∈ mm_TW := List.mem_filter.mpr ⟨mm_at7 (List.mem_of_getElem? (i := 128) rfl), rfl⟩
set_option maxRecDepth 100000 in
theorem mm_mf397 : mm_MFP 397 := ⟨mm_h397, mm_TW_of (i := 152) (by decide +kernel) rfl, fun _ => mm_TW_of (i := 1719) (by decide +kernel) rfl, fun h => absurd (show (mm_MT 397).2.2.2.2.1 = 1 from by decide +kernel) h, fun h => absurd h (by decide +kernel), by decide +kernel, by decide +kernel, by decide +kernel, rfl, fun h => absurd h (by decide +kernel), mm_cdF_of rfl mm_d397⟩
set_option maxRecDepth 100000 in
theorem mm_h398 : mm_hw 398 ∈ mm_TW := List.mem_filter.mpr ⟨mm_at7 (List.mem_of_getElem? (i := 162) rfl), rfl⟩
set_option maxRecDepth 100000 in
theorem mm_mf398 : mm_MFP 398 := ⟨mm_h398, mm_TW_of (i := 152) (by decide +kernel) rfl, fun _ => mm_TW_of (i := 1753) (by decide +kernel) rfl, fun h => absurd (show (mm_MT 398).2.2.2.2.1 = 1 from by decide +kernel) h, fun h => absurd h (by decide +kernel), by decide +kernel, by decide +kernel, by decide +kernel, rfl, fun h => absurd h (by decide +kernel), mm_cdF_of rfl mm_d398⟩
set_option maxRecDepth 100000 in
theorem mm_h399 : mm_hw 399 ∈ mm_TW := List.mem_filter.mpr ⟨mm_at7 (List.mem_of_getElem? (i := 169) rfl), rfl⟩
set_option maxRecDepth 100000 in
theorem mm_mf399 : mm_MFP 399 := ⟨mm_h399, mm_TW_of (i := 152) (by decide +kernel) rfl, fun _ => mm_TW_of (i := 1760) (by decide +kernel) rfl, fun h => absurd (show (mm_MT 399).2.2.2.2.1 = 1 from by decide +kernel) h, fun h => absurd h (by decide +kernel), by decide +kernel, by decide +kernel, by decide +kernel, rfl, fun h => absurd h (by decide +kernel), mm_cdF_of rfl mm_d399⟩
set_option maxRecDepth 100000 in
theorem mm_h400 : mm_hw 400 ∈ mm_TW := List.mem_filter.mpr ⟨mm_at7 (List.mem_of_getElem? (i := 181) rfl), rfl⟩
set_option maxRecDepth 100000 in
theorem mm_mf400 : mm_MFP 400 := ⟨mm_h400, mm_TW_of (i := 152) (by decide +kernel) rfl, fun _ => mm_TW_of (i := 1772) (by decide +kernel) rfl, fun h => absurd (show (mm_MT 400).2.2.2.2.1 = 1 from by decide +kernel) h, fun h => absurd h (by decide +kernel), by decide +kernel, by decide +kernel, by decide +kernel, rfl, fun h => absurd h (by decide +kernel), mm_cdF_of rfl mm_d400⟩
set_option maxRecDepth 100000 in
theorem mm_h401 : mm_hw 401 ∈ mm_TW := List.mem_filter.mpr ⟨mm_at7 (List.mem_of_getElem? (i := 188) rfl), rfl⟩
set_option maxRecDepth 100000 in
theorem mm_mf401 : mm_MFP 401 := ⟨mm_h401, mm_TW_of (i := 152) (by decide +kernel) rfl, fun _ => mm_TW_of (i := 1779) (by decide +kernel) rfl, fun h => absurd (show (mm_MT 401).2.2.2.2.1 = 1 from by decide +kernel) h, fun h => absurd h (by decide +kernel), by decide +kernel, by decide +kernel, by decide +kernel, rfl, fun h => absurd h (by decide +kernel), mm_cdF_of rfl mm_d401⟩
set_option maxRecDepth 100000 in
theorem mm_h402 : mm_hw 402 ∈ mm_TW := List.mem_filter.mpr ⟨mm_at7 (List.mem_of_getElem? (i := 196) rfl), rfl⟩
set_option maxRecDepth 100000 in
theorem mm_mf402 : mm_MFP 402 := ⟨mm_h402, mm_TW_of (i := 152) (by decide +kernel) rfl, fun _ => mm_TW_of (i := 1787) (by decide +kernel) rfl, fun h => absurd (show (mm_MT 402).2.2.2.2.1 = 1 from by decide +kernel) h, fun h => absurd h (by decide +kernel), by decide +kernel, by decide +kernel, by decide +kernel, rfl, fun h => absurd h (by decide +kernel), mm_cdF_of rfl mm_d402⟩
