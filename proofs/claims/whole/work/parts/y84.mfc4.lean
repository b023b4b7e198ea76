set_option maxRecDepth 100000 in
theorem mm_h305 : mm_hw 305 ∈ mm_TW := List.mem_filter.mpr ⟨mm_at10 (List.mem_of_getElem? (i := 181) rfl), rfl⟩
set_option maxRecDepth 100000 in
theorem mm_mf305 : mm_MFP 305 := ⟨mm_h305, mm_TW_of (i := 163) (by decide +kernel) rfl, fun h => absurd h (by decide +kernel), fun _ => mm_TW_of (i := 2492) (by decide +kernel) rfl, fun _ => mm_TW_of (i := 107) (by decide +kernel) rfl, by decide +kernel, by decide +kernel, by decide +kernel, rfl, fun h => absurd h (by decide +kernel), mm_cdF_of rfl mm_d305⟩
set_option maxRecDepth 100000 in
theorem mm_h306 : mm_hw 306 ∈ mm_TW := List.mem_filter.mpr ⟨mm_at10 (List.mem_of_getElem? (i := 177) rfl), rfl⟩
set_option maxRecDepth 100000 in
theorem mm_mf306 : mm_MFP 306 := ⟨mm_h306, mm_TW_of (i := 163) (by decide +kernel) rfl, fun h => absurd h (by decide +kernel), fun _ => mm_TW_of (i := 2488) (by decide +kernel) rfl, fun _ => mm_TW_of (i := 106) (by decide +kernel) rfl, by decide +kernel, by decide +kernel, by decide +kernel, rfl, fun h => absurd h (by decide +kernel), mm_cdF_of rfl mm_d306⟩
set_option maxRecDepth 100000 in
theorem mm_h307 : mm_hw 307 ∈ mm_TW := List.mem_filter.mpr ⟨mm_at10 (List.mem_of_getElem? (i := 173) rfl), rfl⟩
set_option maxRecDepth 100000 in
theorem mm_mf307 : mm_MFP 307 := ⟨mm_h307, mm_TW_of (i := 163) (by decide +kernel) rfl, fun h => absurd h (by decide +kernel), fun _ => mm_TW_of (i := 2484) (by decide +kernel) rfl, fun _ => mm_TW_of (i := 105) (by decide +kernel) rfl, by decide +kernel, by decide +kernel, by decide +kernel, rfl, fun h => absurd h (by decide +kernel), mm_cdF_of rfl mm_d307⟩
set_option maxRecDepth 100000 in
theorem mm_h308 : mm_hw 308 ∈ mm_TW := List.mem_filter.mpr ⟨mm_at10 (List.mem_of_getElem? (i := 189) rfl), rfl⟩
set_option maxRecDepth 100000 in
theorem mm_mf308 : mm_MFP 308 := ⟨mm_h308, mm_TW_of (i := 163) (by decide +kernel) rfl, fun h => absurd h (by decide +kernel), fun _ => mm_TW_of (i := 2500) (by decide +kernel) rfl, fun _ => mm_TW_of (i := 109) (by decide +kernel) rfl, by decide +kernel, by decide +kernel, by decide +kernel, rfl, fun h => absurd h (by decide +kernel), mm_cdF_of rfl mm_d308⟩
set_option maxRecDepth 100000 in
theorem mm_h309 : mm_hw 309 ∈ mm_TW := List.mem_filter.mpr ⟨mm_at11 (List.mem_of_getElem? (i := 222) rfl), rfl⟩
set_option maxRecDepth 100000 in
theorem mm_mf309 : mm_MFP 309 := ⟨mm_h309, mm_TW_of (i := 163) (by decide +kernel) rfl, fun h => absurd h (by decide +kernel), fun _ => mm_TW_of (i := 2773) (by decide +kernel) rfl, fun _ => mm_TW_of (i := 150) (by decide +kernel) rfl, by decide +kernel, by decide +kernel, by decide +kernel, rfl, fun h => absurd h (by decide +kernel), mm_cdF_of rfl mm_d309⟩
set_option maxRecDepth 100000 in
theorem mm_h310 : mm_hw 310 ∈ mm_TW := List.mem_filter.mpr ⟨mm_at11 (List.mem_of_getElem? (i := 27) rfl), rfl⟩
set_option maxRecDepth 100000 in
theorem mm_mf310 : mm_MFP 310 := ⟨mm_h310, mm_TW_of (i := 163) (by decide +kernel) rfl, fun h => absurd h (by decide +kernel), fun _ => mm_TW_of (i := 2577) (by decide +kernel) rfl, fun _ => mm_TW_of (i := 2578) (by decide +kernel) rfl, by decide +kernel, by decide +kernel, by decide +kernel, rfl, fun h => absurd h (by decide +kernel), mm_cdF_of rfl mm_d310⟩
set_option maxRecDepth 100000 in
theorem mm_h311 : mm_hw 311 ∈ mm_TW := List.mem_filter.mpr ⟨mm_at11 (List.mem_of_getElem? (i := 35) rfl), rfl⟩
set_option maxRecDepth 100000 in
theorem mm_mf311 : mm_MFP 311 := ⟨mm_h311, mm_TW_of (i := 163) (by decide +kernel) rfl, fun h => absurd h (by decide +kernel), fun _ => mm_TW_of (i := 2586) (by decide +kernel) rfl, fun _ => mm_TW_of (i := 128) (by decide +kernel) rfl, by decide +kernel, by decide +kernel, by decide +kernel, rfl, fun h => absurd h (by decide +kernel), mm_cdF_of rfl mm_d311⟩
set_option maxRecDepth 100000 in
theorem mm_h312 : mm_hw 312 ∈ mm_TW := List.mem_filter.mpr ⟨mm_at11 (List.mem_of_getElem? (i := 31) rfl), rfl⟩
set_option maxRecDepth 100000 in
theorem mm_mf312 : mm_MFP 312 := ⟨mm_h312, mm_TW_of (i := 163) (by decide +kernel) rfl, fun h => absurd h (by decide +kernel), fun _ => mm_TW_of (i := 2581) (by decide +kernel) rfl, fun _ => mm_TW_of (i := 2582) (by decide +kernel) rfl, by decide +kernel, by decide +kernel, by decide +kernel, rfl, fun h => absurd h (by decide +kernel), mm_cdF_of rfl mm_d312⟩
set_option maxRecDepth 100000 in
theorem mm_h313 : mm_hw 313 ∈ mm_TW := List.mem_filter.mpr ⟨mm_at11 (List.mem_of_getElem? (i := 39) rfl), rfl⟩
set_option maxRecDepth 100000 in
theorem mm_mf313 : mm_MFP 313 := ⟨mm_h313, mm_TW_of (i := 163) (by decide +kernel) rfl, fun h => absurd h (by decide +kernel), fun _ => mm_TW_of (i := 2589) (by decide +kernel) rfl, fun _ => mm_TW_of (i := 2590) (by decide +kernel) rfl, by decide +kernel, by decide +kernel, by decide +kernel, rfl, fun h => absurd h (by decide +kernel), mm_cdF_of rfl mm_d313⟩
set_option maxRecDepth 100000 in
theorem mm_h314 : mm_hw 314 ∈ mm_TW := List.mem_filter.mpr ⟨mm_at11 (List.mem_of_getElem? (i := 48) rfl), rfl⟩
set_option maxRecDepth 100000 in
theorem mm_mf314 : mm_MFP 314 := ⟨mm_h314, mm_TW_of (i := 163) (by decide +kernel) rfl, fun h => absurd h (by decide +kernel), fun _ => mm_TW_of (i := 2599) (by decide +kernel) rfl, fun _ => mm_TW_of (i := 129) (by decide +kernel) rfl, by decide +kernel, by decide +kernel, by decide +kernel, rfl, fun h => absurd h (by decide +kernel), mm_cdF_of rfl mm_d314⟩
set_option maxRecDepth 100000 in
theorem mm_h315 : mm_hw 315 ∈ mm_TW := List.mem_filter.mpr ⟨mm_at11 (List.mem_of_getElem? (i := 44) rfl), rfl⟩
set_option maxRecDepth 100000 in
theorem mm_mf315 : mm_MFP 315 := ⟨mm_h315, mm_TW_of (i := 163) (by decide +kernel) rfl, fun h => absurd h (by decide +kernel), fun _ => mm_TW_of (i := 2594) (by decide +kernel) rfl, fun _ => mm_TW_of (i := 2595) (by decide +kernel) rfl, by decide +kernel, by decide +kernel, by decide +kernel, rfl, fun h => absurd h (by decide +kernel), mm_cdF_of rfl mm_d315⟩
set_option maxRecDepth 100000 in
theorem mm_h316 : mm_hw 316 ∈ mm_TW := List.mem_filter.mpr ⟨mm_at11 (List.mem_of_getElem? (i := 56) rfl), rfl⟩
set_option maxRecDepth 100000 in
theorem mm_mf316 : mm_MFP 316 := ⟨mm_h316, mm_TW_of (i := 163) (by decide +kernel) rfl, fun h => absurd h (by decide +kernel), fun _ => mm_TW_of (i := 2607) (by decide +kernel) rfl, fun _ => mm_TW_of (i := 130) (by decide +kernel) rfl, by decide +kernel, by decide +kernel, by decide +kernel, rfl, fun h => absurd h (by decide +kernel), mm_cdF_of rfl mm_d316⟩
set_option maxRecDepth 100000 in
theorem mm_h317 : mm_hw 317 ∈ mm_TW := List.mem_filter.mpr ⟨mm_at11 (List.mem_of_getElem? (i := 52) rfl), rfl⟩
set_option maxRecDepth 100000 in
theorem mm_mf317 : mm_MFP 317 := ⟨mm_h317, mm_TW_of (i := 163) (by decide +kernel) rfl, fun h => absurd h (by decide +kernel), fun _ => mm_TW_of (i := 2602) (by decide +kernel) rfl, fun _ => mm_TW_of (i := 2603) (by decide +kernel) rfl, by decide +kernel, by decide +kernel, by decide +kernel, rfl, fun h => absurd h (by decide +kernel), mm_cdF_of rfl mm_d317⟩
set_option maxRecDepth 100000 in
theorem mm_h318 : mm_hw 318 ∈ mm_TW := List.mem_filter.mpr ⟨mm_at11 (List.mem_of_getElem? (i := 73) rfl), rfl⟩
set_option maxRecDepth 100000 in
theorem mm_mf318 : mm_MFP 318 := ⟨mm_h318, mm_TW_of (i := 163) (by decide +kernel) rfl, fun h => absurd h (by decide +kernel), fun _ => mm_TW_of (i := 2624) (by decide +kernel) rfl, fun _ => mm_TW_of (i := 133) (by decide +kernel) rfl, by decide +kernel, by decide +kernel, by decide +kernel, rfl, fun h => absurd h (by decide +kernel), mm_cdF_of rfl mm_d318⟩
set_option maxRecDepth 100000 in
theorem mm_h319 : mm_hw 319 ∈ mm_TW := List.mem_filter.mpr ⟨mm_at11 (List.mem_of_getElem? (i := 69) rfl), rfl⟩
set_option maxRecDepth 100000 in
theorem mm_mf319 : mm_MFP 319 := ⟨mm_h319, mm_TW_of (i := 163) (by decide +kernel) rfl, fun h => absurd h (by decide +kernel), fun _ => mm_TW_of (i := 2620) (by decide +kernel) rfl, fun _ => mm_TW_of (i := 132) (by decide +kernel) rfl, by decide +kernel, by decide +kernel, by decide +kernel, rfl, fun h => absurd h (by decide +kernel), mm_cdF_of rfl mm_d319⟩
set_option maxRecDepth 100000 in
theorem mm_h320 : mm_hw 320 ∈ mm_TW := List.mem_filter.mpr ⟨mm_at11 (List.mem_of_getElem? (i := 65) rfl), rfl⟩
set_option maxRecDepth 100000 in
theorem mm_mf320 : mm_MFP 320 := ⟨mm_h320, mm_TW_of (i := 163) (by decide +kernel) rfl, fun h => absurd h (by decide +kernel), fun _ => mm_TW_of (i := 2616) (by decide +kernel) rfl, fun _ => mm_TW_of (i := 131) (by decide +kernel) rfl, by decide +kernel, by decide +kernel, by decide +kernel, rfl, fun h => absurd h (by decide +kernel), mm_cdF_of rfl mm_d320⟩
set_option maxRecDepth 100000 in
theorem mm_h321 : mm_hw 321 ∈ mm_TW := List.mem_filter.mpr ⟨mm_at11 (List.mem_of_getElem? (i := 61) rfl), rfl⟩
set_option maxRecDepth 100000 in
theorem mm_mf321 : mm_MFP 321 := ⟨mm_h321, mm_TW_of (i := 163) (by decide +kernel) rfl, fun h => absurd h (by decide +kernel), fun _ => mm_TW_of (i := 2611) (by decide +kernel) rfl, fun _ => mm_TW_of (i := 2612) (by decide +kernel) rfl, by decide +kernel, by decide +kernel, by decide +kernel, rfl, fun h => absurd h (by decide +kernel), mm_cdF_of rfl mm_d321⟩
set_option maxRecDepth 100000 in
theorem mm_h322 : mm_hw 322 ∈ mm_TW := List.mem_filter.mpr ⟨mm_at11 (List.mem_of_getElem? (i := 77) rfl), rfl⟩
set_option maxRecDepth 100000 in
theorem mm_mf322 : mm_MFP 322 := ⟨mm_h322, mm_TW_of (i := 163) (by decide +kernel) rfl, fun h => absurd h (by decide +kernel), fun _ => mm_TW_of (i := 2627) (by decide +kernel) rfl, fun _ => mm_TW_of (i := 2628) (by decide +kernel) rfl, by decide +kernel, by decide +kernel, by decide +kernel, rfl, fun h => absurd h (by decide +kernel), mm_cdF_of rfl mm_d322⟩
set_option maxRecDepth 100000 in
theorem mm_h323 : mm_hw 323 ∈ mm_TW := List.mem_filter.mpr ⟨mm_at11 (List.mem_of_getElem? (i := 81) rfl), rfl⟩
set_option maxRecDepth 100000 in
theorem mm_mf323 : mm_MFP 323 := ⟨mm_h323, mm_TW_of (i := 163) (by decide +kernel) rfl, fun h => absurd h (by decide +kernel), fun _ => mm_TW_of (i := 2631) (by decide +kernel) rfl, fun _ => mm_TW_of (i := 2632) (by decide +kernel) rfl, by decide +kernel, by decide +kernel, by decide +kernel, rfl, fun h => absurd h (by decide +kernel), mm_cdF_of rfl mm_d323⟩
set_option maxRecDepth 100000 in
theorem mm_h324 : mm_hw 324 ∈ mm_TW := List.mem_filter.mpr ⟨mm_at11 (List.mem_of_getElem? (i := 85) rfl), rfl⟩
set_option maxRecDepth 100000 in
theorem mm_mf324 : mm_MFP 324 := ⟨mm_h324, mm_TW_of (i := 163) (by decide +kernel) rfl, fun h => absurd h (by decide +kernel), fun _ => mm_TW_of (i := 2635) (by decide +kernel) rfl, fun _ => mm_TW_of (i := 2636) (by decide +kernel) rfl, by decide +kernel, by decide +kernel, by decide +kernel, rfl, fun h => absurd h (by decide +kernel), mm_cdF_of rfl mm_d324⟩
set_option maxRecDepth 100000 in
theorem mm_h325 : mm_hw 325 ∈ mm_TW := List.mem_filter.mpr ⟨mm_at11 (List.mem_of_getElem? (i := 89) rfl), rfl⟩
set_option maxRecDepth 100000 in
theorem mm_mf325 : mm_MFP 325 := ⟨mm_h325, mm_TW_of (i := 163) (by decide +kernel) rfl, fun h => absurd h (by decide +kernel), fun _ => mm_TW_of (i := 2639) (by decide +kernel) rfl, fun _ => mm_TW_of (i := 2640) (by decide +kernel) rfl, by decide +kernel, by decide +kernel, by decide +kernel, rfl, fun h => absurd h (by decide +kernel), mm_cdF_of rfl mm_d325⟩
set_option maxRecDepth 100000 in
theorem mm_h326 : mm_hw 326 ∈ mm_TW := List.mem_filter.mpr ⟨mm_at11 (List.mem_of_getElem? (i := 101) rfl), rfl⟩
set_option maxRecDepth 100000 in
theorem mm_mf326 : mm_MFP 326 := ⟨mm_h326, mm_TW_of (i := 163) (by decide +kernel) rfl, fun h => absurd h (by decide +kernel), fun _ => mm_TW_of (i := 2652) (by decide +kernel) rfl, fun _ => mm_TW_of (i := 135) (by decide +kernel) rfl, by decide +kernel, by decide +kernel, by decide +kernel, rfl, fun h => absurd h (by decide +kernel), mm_cdF_of rfl mm_d326⟩
set_option maxRecDepth 100000 in
theorem mm_h327 : mm_hw 327 ∈ mm_TW := List.mem_filter.mpr ⟨mm_at11 (List.mem_of_getElem? (i := 97) rfl), rfl⟩
set_option maxRecDepth 100000 in
theorem mm_mf327 : mm_MFP 327 := ⟨mm_h327, mm_TW_of (i := 163) (by decide +kernel) rfl, fun h => absurd h (by decide +kernel), fun _ => mm_TW_of (i := 2648) (by decide +kernel) rfl, fun _ => mm_TW_of (i := 134) (by decide +kernel) rfl, by decide +kernel, by decide +kernel, by decide +kernel, rfl, fun h => absurd h (by decide +kernel), mm_cdF_of rfl mm_d327⟩
set_option maxRecDepth 100000 in
theorem mm_h328 : mm_hw 328 ∈ mm_TW := List.mem_filter.mpr ⟨mm_at11 (List.mem_of_getElem? (i := 105) rfl), rfl⟩
set_option maxRecDepth 100000 in
theorem mm_mf328 : mm_MFP 328 := ⟨mm_h328, mm_TW_of (i := 163) (by decide +kernel) rfl, fun h => absurd h (by decide +kernel), fun _ => mm_TW_of (i := 2656) (by decide +kernel) rfl, fun _ => mm_TW_of (i := 136) (by decide +kernel) rfl, by decide +kernel, by decide +kernel, by decide +kernel, rfl, fun h => absurd h (by decide +kernel), mm_cdF_of rfl mm_d328⟩
set_option maxRecDepth 100000 in
theorem mm_h329 : mm_hw 329 ∈ mm_TW := List.mem_filter.mpr ⟨mm_at11 (List.mem_of_getElem? (i := 109) rfl), rfl⟩
set_option maxRecDepth 100000 in
theorem mm_mf329 : mm_MFP 329 := ⟨mm_h329, mm_TW_of (i := 163) (by decide +kernel) rfl, fun h => absurd h (by decide +kernel), fun _ => mm_TW_of (i := 2660) (by decide +kernel) rfl, fun _ => mm_TW_of (i := 137) (by decide +kernel) rfl, by decide +kernel, by decide +kernel, by decide +kernel, rfl, fun h => absurd h (by decide +kernel), mm_cdF_of rfl mm_d329⟩
set_option maxRecDepth 100000 in
theorem mm_h330 : mm_hw 330 ∈ mm_TW := List.mem_filter.mpr ⟨mm_at11 (List.mem_of_getElem? (i := 93) rfl), rfl⟩
set_option maxRecDepth 100000 in
theorem mm_mf330 : mm_MFP 330 := ⟨mm_h330, mm_TW_of (i := 163) (by decide +kernel) rfl, fun h => absurd h (by decide +kernel), fun _ => mm_TW_of (i := 2643) (by decide +kernel) rfl, fun _ => mm_TW_of (i := 2644) (by decide +kernel) rfl, by decide +kernel, by decide +kernel, by decide +kernel, rfl, fun h => absurd h (by decide +kernel), mm_cdF_of rfl mm_d330⟩
set_option maxRecDepth 100000 in
theorem mm_h331 : mm_hw 331 ∈ mm_TW := List.mem_filter.mpr ⟨mm_at11 (List.mem_of_getElem? (i := 113) rfl), rfl⟩
set_option maxRecDepth 100000 in
theorem mm_mf331 : mm_MFP 331 := ⟨mm_h331, mm_TW_of (i := 163) (by decide +kernel) rfl, fun h => absurd h (by decide +kernel), fun _ => mm_TW_of (i := 2663) (by decide +kernel) rfl, fun _ => mm_TW_of (i := 2664) (by decide +kernel) rfl, by decide +kernel, by decide +kernel, by decide +kernel, rfl, fun h => absurd h (by decide +kernel), mm_cdF_of rfl mm_d331⟩
set_option maxRecDepth 100000 in
theorem mm_h332 : mm_hw 332 ∈ mm_TW := List.mem_filter.mpr ⟨mm_at11 (List.mem_of_getElem? (i := 117) rfl), rfl⟩
set_option maxRecDepth 100000 in
theorem mm_mf332 : mm_MFP 332 := ⟨mm_h332, mm_TW_of (i := 163) (by decide +kernel) rfl, fun h => absurd h (by decide +kernel), fun _ => mm_TW_of (i := 2667) (by decide +kernel) rfl, fun _ => mm_TW_of (i := 2668) (by decide +kernel) rfl, by decide +kernel, by decide +kernel, by decide +kernel, rfl, fun h => absurd h (by decide +kernel), mm_cdF_of rfl mm_d332⟩
set_option maxRecDepth 100000 in
theorem mm_h333 : mm_hw 333 ∈ mm_TW := List.mem_filter.mpr ⟨mm_at11 (List.mem_of_getElem? (i := 129) rfl), rfl⟩
set_option maxRecDepth 100000 in
theorem mm_mf333 : mm_MFP 333 := ⟨mm_h333, mm_TW_of (i := 163) (by decide +kernel) rfl, fun h => absurd h (by decide +kernel), fun _ => mm_TW_of (i := 2680) (by decide +kernel) rfl, fun _ => mm_TW_of (i := 139) (by decide +kernel) rfl, by decide +kernel, by decide +kernel, by decide +kernel, rfl, fun h => absurd h (by decide +kernel), mm_cdF_of rfl mm_d333⟩
set_option maxRecDepth 100000 in
theorem mm_h334 : mm_hw 334 ∈ mm_TW := List.mem_filter.mpr ⟨mm_at11 (List.mem_of_getElem? (i := 138) rfl), rfl⟩
set_option maxRecDepth 100000 in
theorem mm_mf334 : mm_MFP 334 := ⟨mm_h334, mm_TW_of (i := 163) (by decide +kernel) rfl, fun h => absurd h (by decide +kernel), fun _ => mm_TW_of (i := 2689) (by decide +kernel) rfl, fun _ => mm_TW_of (i := 140) (by decide +kernel) rfl, by decide +kernel, by decide +kernel, by decide +kernel, rfl, fun h => absurd h (by decide +kernel), mm_cdF_of rfl mm_d334⟩
set_option maxRecDepth 100000 in
theorem mm_h335 : mm_hw 335 ∈ mm_TW := List.mem_filter.mpr ⟨mm_at11 (List.mem_of_getElem? (i := 142) rfl), rfl⟩
set_option maxRecDepth 100000 in
theorem mm_mf335 : mm_MFP 335 := ⟨mm_h335, mm_TW_of (i := 163) (by decide +kernel) rfl, fun h => absurd h (by decide +kernel), fun _ => mm_TW_of (i := 2693) (by decide +kernel) rfl, fun _ => mm_TW_of (i := 141) (by decide +kernel) rfl, by decide +kernel, by decide +kernel, by decide +kernel, rfl, fun h => absurd h (by decide +kernel), mm_cdF_of rfl mm_d335⟩
set_option maxRecDepth 100000 in
theorem mm_h336 : mm_hw 336 ∈ mm_TW := List.mem_filter.mpr ⟨mm_at11 (List.mem_of_getElem? (i := 164) rfl), rfl⟩
set_option maxRecDepth 100000 in
theorem mm_mf336 : mm_MFP 336 := ⟨mm_h336, mm_TW_of (i := 163) (by decide +kernel) rfl, fun _ => mm_TW_of (i := 2715) (by decide +kernel) rfl, fun h => absurd (show (mm_MT 336).2.2.2.2.1 = 1 from by decide +kernel) h, fun h => absurd h (by decide +kernel), by decide +kernel, by decide +kernel, by decide +kernel, rfl, fun h => absurd h (by decide +kernel), mm_cdF_of rfl mm_d336⟩
set_option maxRecDepth 100000 in
theorem mm_h337 : mm_hw 337 ∈ mm_TW := List.mem_filter.mpr ⟨mm_at11 (List.mem_of_getElem? (i := 161) rfl), rfl⟩
set_option maxRecDepth 100000 in
theorem mm_mf337 : mm_MFP 337 := ⟨mm_h337, mm_TW_of (i := 163) (by decide +kernel) rfl, fun h => absurd h (by decide +kernel), fun _ => mm_TW_of (i := 2712) (by decide +kernel) rfl, fun _ => mm_TW_of (i := 145) (by decide +kernel) rfl, by decide +kernel, by decide +kernel, by decide +kernel, rfl, fun h => absurd h (by decide +kernel), mm_cdF_of rfl mm_d337⟩
set_option maxRecDepth 100000 in
theorem mm_h338 : mm_hw 338 ∈ mm_TW := List.mem_filter.mpr ⟨mm_at11 (List.mem_of_getElem? (i := 150) rfl), rfl⟩
set_option maxRecDepth 100000 in
theorem mm_mf338 : mm_MFP 338 := ⟨mm_h338, mm_TW_of (i := 163) (by decide +kernel) rfl, fun h => absurd h (by decide +kernel), fun _ => mm_TW_of (i := 2701) (by decide +kernel) rfl, fun _ => mm_TW_of (i := 143) (by decide +kernel) rfl, by decide +kernel, by decide +kernel, by decide +kernel, rfl, fun h => absurd h (by decide +kernel), mm_cdF_of rfl mm_d338⟩
