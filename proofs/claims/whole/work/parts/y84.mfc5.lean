set_option maxRecDepth 100000 in
theorem mm_h339 : mm_hw 339 ∈ mm_TW := List.mem_filter.mpr ⟨mm_at11 (List.mem_of_getElem? (i := 132) rfl), rfl⟩
set_option maxRecDepth 100000 in
theorem mm_mf339 : mm_MFP 339 := ⟨mm_h339, mm_TW_of (i := 163) (by decide +kernel) rfl, fun _ => mm_TW_of (i := 2683) (by decide +kernel) rfl, fun h => absurd (show (mm_MT 339).2.2.2.2.1 = 1 from by decide +kernel) h, fun h => absurd h (by decide +kernel), by decide +kernel, by decide +kernel, by decide +kernel, rfl, fun h => absurd h (by decide +kernel), mm_cdF_of rfl mm_d339⟩
set_option maxRecDepth 100000 in
theorem mm_h340 : mm_hw 340 ∈ mm_TW := List.mem_filter.mpr ⟨mm_at11 (List.mem_of_getElem? (i := 153) rfl), rfl⟩
set_option maxRecDepth 100000 in
theorem mm_mf340 : mm_MFP 340 := ⟨mm_h340, mm_TW_of (i := 163) (by decide +kernel) rfl, fun _ => mm_TW_of (i := 2704) (by decide +kernel) rfl, fun h => absurd (show (mm_MT 340).2.2.2.2.1 = 1 from by decide +kernel) h, fun h => absurd h (by decide +kernel), by decide +kernel, by decide +kernel, by decide +kernel, rfl, fun h => absurd h (by decide +kernel), mm_cdF_of rfl mm_d340⟩
set_option maxRecDepth 100000 in
theorem mm_h341 : mm_hw 341 ∈ mm_TW := List.mem_filter.mpr ⟨mm_at11 (List.mem_of_getElem? (i := 146) rfl), rfl⟩
set_option maxRecDepth 100000 in
theorem mm_mf341 : mm_MFP 341 := ⟨mm_h341, mm_TW_of (i := 163) (by decide +kernel) rfl, fun h => absurd h (by decide +kernel), fun _ => mm_TW_of (i := 2697) (by decide +kernel) rfl, fun _ => mm_TW_of (i := 142) (by decide +kernel) rfl, by decide +kernel, by decide +kernel, by decide +kernel, rfl, fun h => absurd h (by decide +kernel), mm_cdF_of rfl mm_d341⟩
set_option maxRecDepth 100000 in
theorem mm_h342 : mm_hw 342 ∈ mm_TW := List.mem_filter.mpr ⟨mm_at11 (List.mem_of_getElem? (i := 125) rfl), rfl⟩
set_option maxRecDepth 100000 in
theorem mm_mf342 : mm_MFP 342 := ⟨mm_h342, mm_TW_of (i := 163) (by decide +kernel) rfl, fun h => absurd h (by decide +kernel), fun _ => mm_TW_of (i := 2676) (by decide +kernel) rfl, fun _ => mm_TW_of (i := 138) (by decide +kernel) rfl, by decide +kernel, by decide +kernel, by decide +kernel, rfl, fun h => absurd h (by decide +kernel), mm_cdF_of rfl mm_d342⟩
set_option maxRecDepth 100000 in
theorem mm_h343 : mm_hw 343 ∈ mm_TW := List.mem_filter.mpr ⟨mm_at11 (List.mem_of_getElem? (i := 157) rfl), rfl⟩
set_option maxRecDepth 100000 in
theorem mm_mf343 : mm_MFP 343 := ⟨mm_h343, mm_TW_of (i := 163) (by decide +kernel) rfl, fun h => absurd h (by decide +kernel), fun _ => mm_TW_of (i := 2708) (by decide +kernel) rfl, fun _ => mm_TW_of (i := 144) (by decide +kernel) rfl, by decide +kernel, by decide +kernel, by decide +kernel, rfl, fun h => absurd h (by decide +kernel), mm_cdF_of rfl mm_d343⟩
set_option maxRecDepth 100000 in
theorem mm_h344 : mm_hw 344 ∈ mm_TW := List.mem_filter.mpr ⟨mm_at11 (List.mem_of_getElem? (i := 121) rfl), rfl⟩
set_option maxRecDepth 100000 in
theorem mm_mf344 : mm_MFP 344 := ⟨mm_h344, mm_TW_of (i := 163) (by decide +kernel) rfl, fun h => absurd h (by decide +kernel), fun _ => mm_TW_of (i := 2671) (by decide +kernel) rfl, fun _ => mm_TW_of (i := 2672) (by decide +kernel) rfl, by decide +kernel, by decide +kernel, by decide +kernel, rfl, fun h => absurd h (by decide +kernel), mm_cdF_of rfl mm_d344⟩
set_option maxRecDepth 100000 in
theorem mm_h345 : mm_hw 345 ∈ mm_TW := List.mem_filter.mpr ⟨mm_at11 (List.mem_of_getElem? (i := 172) rfl), rfl⟩
set_option maxRecDepth 100000 in
theorem mm_mf345 : mm_MFP 345 := ⟨mm_h345, mm_TW_of (i := 163) (by decide +kernel) rfl, fun h => absurd h (by decide +kernel), fun _ => mm_TW_of (i := 2723) (by decide +kernel) rfl, fun _ => mm_TW_of (i := 146) (by decide +kernel) rfl, by decide +kernel, by decide +kernel, by decide +kernel, rfl, fun h => absurd h (by decide +kernel), mm_cdF_of rfl mm_d345⟩
set_option maxRecDepth 100000 in
theorem mm_h346 : mm_hw 346 ∈ mm_TW := List.mem_filter.mpr ⟨mm_at11 (List.mem_of_getElem? (i := 175) rfl), rfl⟩
set_option maxRecDepth 100000 in
theorem mm_mf346 : mm_MFP 346 := ⟨mm_h346, mm_TW_of (i := 163) (by decide +kernel) rfl, fun _ => mm_TW_of (i := 2726) (by decide +kernel) rfl, fun h => absurd (show (mm_MT 346).2.2.2.2.1 = 1 from by decide +kernel) h, fun h => absurd h (by decide +kernel), by decide +kernel, by decide +kernel, by decide +kernel, rfl, fun h => absurd h (by decide +kernel), mm_cdF_of rfl mm_d346⟩
set_option maxRecDepth 100000 in
theorem mm_h347 : mm_hw 347 ∈ mm_TW := List.mem_filter.mpr ⟨mm_at11 (List.mem_of_getElem? (i := 168) rfl), rfl⟩
set_option maxRecDepth 100000 in
theorem mm_mf347 : mm_MFP 347 := ⟨mm_h347, mm_TW_of (i := 163) (by decide +kernel) rfl, fun h => absurd h (by decide +kernel), fun _ => mm_TW_of (i := 2718) (by decide +kernel) rfl, fun _ => mm_TW_of (i := 2719) (by decide +kernel) rfl, by decide +kernel, by decide +kernel, by decide +kernel, rfl, fun h => absurd h (by decide +kernel), mm_cdF_of rfl mm_d347⟩
set_option maxRecDepth 100000 in
theorem mm_h348 : mm_hw 348 ∈ mm_TW := List.mem_filter.mpr ⟨mm_at11 (List.mem_of_getElem? (i := 179) rfl), rfl⟩
set_option maxRecDepth 100000 in
theorem mm_mf348 : mm_MFP 348 := ⟨mm_h348, mm_TW_of (i := 163) (by decide +kernel) rfl, fun h => absurd h (by decide +kernel), fun _ => mm_TW_of (i := 2729) (by decide +kernel) rfl, fun _ => mm_TW_of (i := 2730) (by decide +kernel) rfl, by decide +kernel, by decide +kernel, by decide +kernel, rfl, fun h => absurd h (by decide +kernel), mm_cdF_of rfl mm_d348⟩
set_option maxRecDepth 100000 in
theorem mm_h349 : mm_hw 349 ∈ mm_TW := List.mem_filter.mpr ⟨mm_at11 (List.mem_of_getElem? (i := 187) rfl), rfl⟩
set_option maxRecDepth 100000 in
theorem mm_mf349 : mm_MFP 349 := ⟨mm_h349, mm_TW_of (i := 163) (by decide +kernel) rfl, fun h => absurd h (by decide +kernel), fun _ => mm_TW_of (i := 2738) (by decide +kernel) rfl, fun _ => mm_TW_of (i := 147) (by decide +kernel) rfl, by decide +kernel, by decide +kernel, by decide +kernel, rfl, fun h => absurd h (by decide +kernel), mm_cdF_of rfl mm_d349⟩
set_option maxRecDepth 100000 in
theorem mm_h350 : mm_hw 350 ∈ mm_TW := List.mem_filter.mpr ⟨mm_at11 (List.mem_of_getElem? (i := 183) rfl), rfl⟩
set_option maxRecDepth 100000 in
theorem mm_mf350 : mm_MFP 350 := ⟨mm_h350, mm_TW_of (i := 163) (by decide +kernel) rfl, fun h => absurd h (by decide +kernel), fun _ => mm_TW_of (i := 2733) (by decide +kernel) rfl, fun _ => mm_TW_of (i := 2734) (by decide +kernel) rfl, by decide +kernel, by decide +kernel, by decide +kernel, rfl, fun h => absurd h (by decide +kernel), mm_cdF_of rfl mm_d350⟩
set_option maxRecDepth 100000 in
theorem mm_h351 : mm_hw 351 ∈ mm_TW := List.mem_filter.mpr ⟨mm_at11 (List.mem_of_getElem? (i := 195) rfl), rfl⟩
set_option maxRecDepth 100000 in
theorem mm_mf351 : mm_MFP 351 := ⟨mm_h351, mm_TW_of (i := 163) (by decide +kernel) rfl, fun h => absurd h (by decide +kernel), fun _ => mm_TW_of (i := 2746) (by decide +kernel) rfl, fun _ => mm_TW_of (i := 148) (by decide +kernel) rfl, by decide +kernel, by decide +kernel, by decide +kernel, rfl, fun h => absurd h (by decide +kernel), mm_cdF_of rfl mm_d351⟩
set_option maxRecDepth 100000 in
theorem mm_h352 : mm_hw 352 ∈ mm_TW := List.mem_filter.mpr ⟨mm_at11 (List.mem_of_getElem? (i := 191) rfl), rfl⟩
set_option maxRecDepth 100000 in
theorem mm_mf352 : mm_MFP 352 := ⟨mm_h352, mm_TW_of (i := 163) (by decide +kernel) rfl, fun h => absurd h (by decide +kernel), fun _ => mm_TW_of (i := 2741) (by decide +kernel) rfl, fun _ => mm_TW_of (i := 2742) (by decide +kernel) rfl, by decide +kernel, by decide +kernel, by decide +kernel, rfl, fun h => absurd h (by decide +kernel), mm_cdF_of rfl mm_d352⟩
set_option maxRecDepth 100000 in
theorem mm_h353 : mm_hw 353 ∈ mm_TW := List.mem_filter.mpr ⟨mm_at11 (List.mem_of_getElem? (i := 202) rfl), rfl⟩
set_option maxRecDepth 100000 in
theorem mm_mf353 : mm_MFP 353 := ⟨mm_h353, mm_TW_of (i := 163) (by decide +kernel) rfl, fun _ => mm_TW_of (i := 2753) (by decide +kernel) rfl, fun h => absurd (show (mm_MT 353).2.2.2.2.1 = 1 from by decide +kernel) h, fun h => absurd h (by decide +kernel), by decide +kernel, by decide +kernel, by decide +kernel, rfl, fun h => absurd h (by decide +kernel), mm_cdF_of rfl mm_d353⟩
set_option maxRecDepth 100000 in
theorem mm_h354 : mm_hw 354 ∈ mm_TW := List.mem_filter.mpr ⟨mm_at11 (List.mem_of_getElem? (i := 199) rfl), rfl⟩
set_option maxRecDepth 100000 in
theorem mm_mf354 : mm_MFP 354 := ⟨mm_h354, mm_TW_of (i := 163) (by decide +kernel) rfl, fun h => absurd h (by decide +kernel), fun _ => mm_TW_of (i := 2749) (by decide +kernel) rfl, fun _ => mm_TW_of (i := 2750) (by decide +kernel) rfl, by decide +kernel, by decide +kernel, by decide +kernel, rfl, fun h => absurd h (by decide +kernel), mm_cdF_of rfl mm_d354⟩
set_option maxRecDepth 100000 in
theorem mm_h355 : mm_hw 355 ∈ mm_TW := List.mem_filter.mpr ⟨mm_at11 (List.mem_of_getElem? (i := 209) rfl), rfl⟩
set_option maxRecDepth 100000 in
theorem mm_mf355 : mm_MFP 355 := ⟨mm_h355, mm_TW_of (i := 163) (by decide +kernel) rfl, fun _ => mm_TW_of (i := 2760) (by decide +kernel) rfl, fun h => absurd (show (mm_MT 355).2.2.2.2.1 = 1 from by decide +kernel) h, fun h => absurd h (by decide +kernel), by decide +kernel, by decide +kernel, by decide +kernel, rfl, fun h => absurd h (by decide +kernel), mm_cdF_of rfl mm_d355⟩
set_option maxRecDepth 100000 in
theorem mm_h356 : mm_hw 356 ∈ mm_TW := List.mem_filter.mpr ⟨mm_at11 (List.mem_of_getElem? (i := 206) rfl), rfl⟩
set_option maxRecDepth 100000 in
theorem mm_mf356 : mm_MFP 356 := ⟨mm_h356, mm_TW_of (i := 163) (by decide +kernel) rfl, fun h => absurd h (by decide +kernel), fun _ => mm_TW_of (i := 2756) (by decide +kernel) rfl, fun _ => mm_TW_of (i := 2757) (by decide +kernel) rfl, by decide +kernel, by decide +kernel, by decide +kernel, rfl, fun h => absurd h (by decide +kernel), mm_cdF_of rfl mm_d356⟩
set_option maxRecDepth 100000 in
theorem mm_h357 : mm_hw 357 ∈ mm_TW := List.mem_filter.mpr ⟨mm_at11 (List.mem_of_getElem? (i := 218) rfl), rfl⟩
set_option maxRecDepth 100000 in
theorem mm_mf357 : mm_MFP 357 := ⟨mm_h357, mm_TW_of (i := 163) (by decide +kernel) rfl, fun h => absurd h (by decide +kernel), fun _ => mm_TW_of (i := 2769) (by decide +kernel) rfl, fun _ => mm_TW_of (i := 149) (by decide +kernel) rfl, by decide +kernel, by decide +kernel, by decide +kernel, rfl, fun h => absurd h (by decide +kernel), mm_cdF_of rfl mm_d357⟩
set_option maxRecDepth 100000 in
theorem mm_h358 : mm_hw 358 ∈ mm_TW := List.mem_filter.mpr ⟨mm_at11 (List.mem_of_getElem? (i := 226) rfl), rfl⟩
set_option maxRecDepth 100000 in
theorem mm_mf358 : mm_MFP 358 := ⟨mm_h358, mm_TW_of (i := 163) (by decide +kernel) rfl, fun h => absurd h (by decide +kernel), fun _ => mm_TW_of (i := 2777) (by decide +kernel) rfl, fun _ => mm_TW_of (i := 151) (by decide +kernel) rfl, by decide +kernel, by decide +kernel, by decide +kernel, rfl, fun h => absurd h (by decide +kernel), mm_cdF_of rfl mm_d358⟩
set_option maxRecDepth 100000 in
theorem mm_h359 : mm_hw 359 ∈ mm_TW := List.mem_filter.mpr ⟨mm_at11 (List.mem_of_getElem? (i := 214) rfl), rfl⟩
set_option maxRecDepth 100000 in
theorem mm_mf359 : mm_MFP 359 := ⟨mm_h359, mm_TW_of (i := 163) (by decide +kernel) rfl, fun h => absurd h (by decide +kernel), fun _ => mm_TW_of (i := 2764) (by decide +kernel) rfl, fun _ => mm_TW_of (i := 2765) (by decide +kernel) rfl, by decide +kernel, by decide +kernel, by decide +kernel, rfl, fun h => absurd h (by decide +kernel), mm_cdF_of rfl mm_d359⟩
set_option maxRecDepth 100000 in
theorem mm_h360 : mm_hw 360 ∈ mm_TW := List.mem_filter.mpr ⟨mm_at11 (List.mem_of_getElem? (i := 230) rfl), rfl⟩
set_option maxRecDepth 100000 in
theorem mm_mf360 : mm_MFP 360 := ⟨mm_h360, mm_TW_of (i := 163) (by decide +kernel) rfl, fun h => absurd h (by decide +kernel), fun _ => mm_TW_of (i := 2780) (by decide +kernel) rfl, fun _ => mm_TW_of (i := 2781) (by decide +kernel) rfl, by decide +kernel, by decide +kernel, by decide +kernel, rfl, fun h => absurd h (by decide +kernel), mm_cdF_of rfl mm_d360⟩
set_option maxRecDepth 100000 in
theorem mm_h361 : mm_hw 361 ∈ mm_TW := List.mem_filter.mpr ⟨mm_at11 (List.mem_of_getElem? (i := 234) rfl), rfl⟩
set_option maxRecDepth 100000 in
theorem mm_mf361 : mm_MFP 361 := ⟨mm_h361, mm_TW_of (i := 163) (by decide +kernel) rfl, fun h => absurd h (by decide +kernel), fun _ => mm_TW_of (i := 2784) (by decide +kernel) rfl, fun _ => mm_TW_of (i := 2785) (by decide +kernel) rfl, by decide +kernel, by decide +kernel, by decide +kernel, rfl, fun h => absurd h (by decide +kernel), mm_cdF_of rfl mm_d361⟩
set_option maxRecDepth 100000 in
theorem mm_h362 : mm_hw 362 ∈ mm_TW := List.mem_filter.mpr ⟨mm_at11 (List.mem_of_getElem? (i := 238) rfl), rfl⟩
set_option maxRecDepth 100000 in
theorem mm_mf362 : mm_MFP 362 := ⟨mm_h362, mm_TW_of (i := 163) (by decide +kernel) rfl, fun h => absurd h (by decide +kernel), fun _ => mm_TW_of (i := 2788) (by decide +kernel) rfl, fun _ => mm_TW_of (i := 2789) (by decide +kernel) rfl, by decide +kernel, by decide +kernel, by decide +kernel, rfl, fun h => absurd h (by decide +kernel), mm_cdF_of rfl mm_d362⟩
set_option maxRecDepth 100000 in
theorem mm_h363 : mm_hw 363 ∈ mm_TW := List.mem_filter.mpr ⟨mm_at12 (List.mem_of_getElem? (i := 3) rfl), rfl⟩
set_option maxRecDepth 100000 in
theorem mm_mf363 : mm_MFP 363 := ⟨mm_h363, mm_TW_of (i := 163) (by decide +kernel) rfl, fun h => absurd h (by decide +kernel), fun _ => mm_TW_of (i := 2793) (by decide +kernel) rfl, fun _ => mm_TW_of (i := 2794) (by decide +kernel) rfl, by decide +kernel, by decide +kernel, by decide +kernel, rfl, fun h => absurd h (by decide +kernel), mm_cdF_of rfl mm_d363⟩
set_option maxRecDepth 100000 in
theorem mm_h364 : mm_hw 364 ∈ mm_TW := List.mem_filter.mpr ⟨mm_at12 (List.mem_of_getElem? (i := 7) rfl), rfl⟩
set_option maxRecDepth 100000 in
theorem mm_mf364 : mm_MFP 364 := ⟨mm_h364, mm_TW_of (i := 163) (by decide +kernel) rfl, fun h => absurd h (by decide +kernel), fun _ => mm_TW_of (i := 2797) (by decide +kernel) rfl, fun _ => mm_TW_of (i := 2798) (by decide +kernel) rfl, by decide +kernel, by decide +kernel, by decide +kernel, rfl, fun h => absurd h (by decide +kernel), mm_cdF_of rfl mm_d364⟩
set_option maxRecDepth 100000 in
theorem mm_h365 : mm_hw 365 ∈ mm_TW := List.mem_filter.mpr ⟨mm_at3 (List.mem_of_getElem? (i := 34) rfl), rfl⟩
set_option maxRecDepth 100000 in
theorem mm_mf365 : mm_MFP 365 := ⟨mm_h365, mm_TW_of (i := 152) (by decide +kernel) rfl, fun _ => mm_TW_of (i := 665) (by decide +kernel) rfl, fun h => absurd (show (mm_MT 365).2.2.2.2.1 = 1 from by decide +kernel) h, fun h => absurd h (by decide +kernel), by decide +kernel, by decide +kernel, by decide +kernel, rfl, fun h => absurd h (by decide +kernel), mm_cdF_of rfl mm_d365⟩
set_option maxRecDepth 100000 in
theorem mm_h366 : mm_hw 366 ∈ mm_TW := List.mem_filter.mpr ⟨mm_at3 (List.mem_of_getElem? (i := 189) rfl), rfl⟩
set_option maxRecDepth 100000 in
theorem mm_mf366 : mm_MFP 366 := ⟨mm_h366, mm_TW_of (i := 152) (by decide +kernel) rfl, fun _ => mm_TW_of (i := 820) (by decide +kernel) rfl, fun h => absurd (show (mm_MT 366).2.2.2.2.1 = 1 from by decide +kernel) h, fun h => absurd h (by decide +kernel), by decide +kernel, by decide +kernel, by decide +kernel, rfl, fun h => absurd h (by decide +kernel), mm_cdF_of rfl mm_d366⟩
set_option maxRecDepth 100000 in
theorem mm_h367 : mm_hw 367 ∈ mm_TW := List.mem_filter.mpr ⟨mm_at3 (List.mem_of_getElem? (i := 231) rfl), rfl⟩
set_option maxRecDepth 100000 in
theorem mm_mf367 : mm_MFP 367 := ⟨mm_h367, mm_TW_of (i := 152) (by decide +kernel) rfl, fun _ => mm_TW_of (i := 862) (by decide +kernel) rfl, fun h => absurd (show (mm_MT 367).2.2.2.2.1 = 1 from by decide +kernel) h, fun h => absurd h (by decide +kernel), by decide +kernel, by decide +kernel, by decide +kernel, rfl, fun h => absurd h (by decide +kernel), mm_cdF_of rfl mm_d367⟩
set_option maxRecDepth 100000 in
theorem mm_h368 : mm_hw 368 ∈ mm_TW := List.mem_filter.mpr ⟨mm_at4 (List.mem_of_getElem? (i := 4) rfl), rfl⟩
set_option maxRecDepth 100000 in
theorem mm_mf368 : mm_MFP 368 := ⟨mm_h368, mm_TW_of (i := 152) (by decide +kernel) rfl, fun _ => mm_TW_of (i := 875) (by decide +kernel) rfl, fun h => absurd (show (mm_MT 368).2.2.2.2.1 = 1 from by decide +kernel) h, fun h => absurd h (by decide +kernel), by decide +kernel, by decide +kernel, by decide +kernel, rfl, fun h => absurd h (by decide +kernel), mm_cdF_of rfl mm_d368⟩
set_option maxRecDepth 100000 in
theorem mm_h369 : mm_hw 369 ∈ mm_TW := List.mem_filter.mpr ⟨mm_at4 (List.mem_of_getElem? (i := 16) rfl), rfl⟩
set_option maxRecDepth 100000 in
theorem mm_mf369 : mm_MFP 369 := ⟨mm_h369, mm_TW_of (i := 152) (by decide +kernel) rfl, fun _ => mm_TW_of (i := 887) (by decide +kernel) rfl, fun h => absurd (show (mm_MT 369).2.2.2.2.1 = 1 from by decide +kernel) h, fun h => absurd h (by decide +kernel), by decide +kernel, by decide +kernel, by decide +kernel, rfl, fun h => absurd h (by decide +kernel), mm_cdF_of rfl mm_d369⟩
set_option maxRecDepth 100000 in
theorem mm_h370 : mm_hw 370 ∈ mm_TW := List.mem_filter.mpr ⟨mm_at4 (List.mem_of_getElem? (i := 27) rfl), rfl⟩
set_option maxRecDepth 100000 in
theorem mm_mf370 : mm_MFP 370 := ⟨mm_h370, mm_TW_of (i := 152) (by decide +kernel) rfl, fun _ => mm_TW_of (i := 898) (by decide +kernel) rfl, fun h => absurd (show (mm_MT 370).2.2.2.2.1 = 1 from by decide +kernel) h, fun h => absurd h (by decide +kernel), by decide +kernel, by decide +kernel, by decide +kernel, rfl, fun h => absurd h (by decide +kernel), mm_cdF_of rfl mm_d370⟩
set_option maxRecDepth 100000 in
theorem mm_h371 : mm_hw 371 ∈ mm_TW := List.mem_filter.mpr ⟨mm_at4 (List.mem_of_getElem? (i := 34) rfl), rfl⟩
set_option maxRecDepth 100000 in
theorem mm_mf371 : mm_MFP 371 := ⟨mm_h371, mm_TW_of (i := 152) (by decide +kernel) rfl, fun _ => mm_TW_of (i := 905) (by decide +kernel) rfl, fun h => absurd (show (mm_MT 371).2.2.2.2.1 = 1 from by decide +kernel) h, fun h => absurd h (by decide +kernel), by decide +kernel, by decide +kernel, by decide +kernel, rfl, fun h => absurd h (by decide +kernel), mm_cdF_of rfl mm_d371⟩
set_option maxRecDepth 100000 in
theorem mm_h372 : mm_hw 372 ∈ mm_TW := List.mem_filter.mpr ⟨mm_at4 (List.mem_of_getElem? (i := 45) rfl), rfl⟩
set_option maxRecDepth 100000 in
theorem mm_mf372 : mm_MFP 372 := ⟨mm_h372, mm_TW_of (i := 152) (by decide +kernel) rfl, fun _ => mm_TW_of (i := 916) (by decide +kernel) rfl, fun h => absurd (show (mm_MT 372).2.2.2.2.1 = 1 from by decide +kernel) h, fun h => absurd h (by decide +kernel), by decide +kernel, by decide +kernel, by decide +kernel, rfl, fun h => absurd h (by decide +kernel), mm_cdF_of rfl mm_d372⟩
