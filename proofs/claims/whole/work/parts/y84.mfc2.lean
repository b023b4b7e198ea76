set_option maxRecDepth 100000 in
theorem mm_h237 : mm_hw 237 ∈ mm_TW := List.mem_filter.mpr ⟨mm_at10 (List.mem_of_getElem? (i := 32) rfl), rfl⟩
set_option maxRecDepth 100000 in
theorem mm_mf237 : mm_MFP 237 := ⟨mm_h237, mm_TW_of (i := 163) (by decide +kernel) rfl, fun h => absurd h (by decide +kernel), fun _ => mm_TW_of (i := 2343) (by decide +kernel) rfl, fun _ => mm_TW_of (i := 76) (by decide +kernel) rfl, by decide +kernel, by decide +kernel, by decide +kernel, rfl, fun h => absurd h (by decide +kernel), mm_cdF_of rfl mm_d237⟩
set_option maxRecDepth 100000 in
theorem mm_h238 : mm_hw 238 ∈ mm_TW := List.mem_filter.mpr ⟨mm_at9 (List.mem_of_getElem? (i := 219) rfl), rfl⟩
set_option maxRecDepth 100000 in
theorem mm_mf238 : mm_MFP 238 := ⟨mm_h238, mm_TW_of (i := 163) (by decide +kernel) rfl, fun h => absurd h (by decide +kernel), fun _ => mm_TW_of (i := 2290) (by decide +kernel) rfl, fun _ => mm_TW_of (i := 66) (by decide +kernel) rfl, by decide +kernel, by decide +kernel, by decide +kernel, rfl, fun h => absurd h (by decide +kernel), mm_cdF_of rfl mm_d238⟩
set_option maxRecDepth 100000 in
theorem mm_h239 : mm_hw 239 ∈ mm_TW := List.mem_filter.mpr ⟨mm_at9 (List.mem_of_getElem? (i := 228) rfl), rfl⟩
set_option maxRecDepth 100000 in
theorem mm_mf239 : mm_MFP 239 := ⟨mm_h239, mm_TW_of (i := 163) (by decide +kernel) rfl, fun h => absurd h (by decide +kernel), fun _ => mm_TW_of (i := 2299) (by decide +kernel) rfl, fun _ => mm_TW_of (i := 68) (by decide +kernel) rfl, by decide +kernel, by decide +kernel, by decide +kernel, rfl, fun h => absurd h (by decide +kernel), mm_cdF_of rfl mm_d239⟩
set_option maxRecDepth 100000 in
theorem mm_h240 : mm_hw 240 ∈ mm_TW := List.mem_filter.mpr ⟨mm_at10 (List.mem_of_getElem? (i := 235) rfl), rfl⟩
set_option maxRecDepth 100000 in
theorem mm_mf240 : mm_MFP 240 := ⟨mm_h240, mm_TW_of (i := 163) (by decide +kernel) rfl, fun h => absurd h (by decide +kernel), fun _ => mm_TW_of (i := 2546) (by decide +kernel) rfl, fun _ => mm_TW_of (i := 120) (by decide +kernel) rfl, by decide +kernel, by decide +kernel, by decide +kernel, rfl, fun h => absurd h (by decide +kernel), mm_cdF_of rfl mm_d240⟩
set_option maxRecDepth 100000 in
theorem mm_h241 : mm_hw 241 ∈ mm_TW := List.mem_filter.mpr ⟨mm_at10 (List.mem_of_getElem? (i := 239) rfl), rfl⟩
set_option maxRecDepth 100000 in
theorem mm_mf241 : mm_MFP 241 := ⟨mm_h241, mm_TW_of (i := 163) (by decide +kernel) rfl, fun h => absurd h (by decide +kernel), fun _ => mm_TW_of (i := 2550) (by decide +kernel) rfl, fun _ => mm_TW_of (i := 121) (by decide +kernel) rfl, by decide +kernel, by decide +kernel, by decide +kernel, rfl, fun h => absurd h (by decide +kernel), mm_cdF_of rfl mm_d241⟩
set_option maxRecDepth 100000 in
theorem mm_h242 : mm_hw 242 ∈ mm_TW := List.mem_filter.mpr ⟨mm_at9 (List.mem_of_getElem? (i := 215) rfl), rfl⟩
set_option maxRecDepth 100000 in
theorem mm_mf242 : mm_MFP 242 := ⟨mm_h242, mm_TW_of (i := 163) (by decide +kernel) rfl, fun h => absurd h (by decide +kernel), fun _ => mm_TW_of (i := 2286) (by decide +kernel) rfl, fun _ => mm_TW_of (i := 65) (by decide +kernel) rfl, by decide +kernel, by decide +kernel, by decide +kernel, rfl, fun h => absurd h (by decide +kernel), mm_cdF_of rfl mm_d242⟩
set_option maxRecDepth 100000 in
theorem mm_h243 : mm_hw 243 ∈ mm_TW := List.mem_filter.mpr ⟨mm_at10 (List.mem_of_getElem? (i := 65) rfl), rfl⟩
set_option maxRecDepth 100000 in
theorem mm_mf243 : mm_MFP 243 := ⟨mm_h243, mm_TW_of (i := 163) (by decide +kernel) rfl, fun _ => mm_TW_of (i := 2376) (by decide +kernel) rfl, fun h => absurd (show (mm_MT 243).2.2.2.2.1 = 1 from by decide +kernel) h, fun h => absurd h (by decide +kernel), by decide +kernel, by decide +kernel, by decide +kernel, rfl, fun h => absurd h (by decide +kernel), mm_cdF_of rfl mm_d243⟩
set_option maxRecDepth 100000 in
theorem mm_h244 : mm_hw 244 ∈ mm_TW := List.mem_filter.mpr ⟨mm_at10 (List.mem_of_getElem? (i := 76) rfl), rfl⟩
set_option maxRecDepth 100000 in
theorem mm_mf244 : mm_MFP 244 := ⟨mm_h244, mm_TW_of (i := 163) (by decide +kernel) rfl, fun _ => mm_TW_of (i := 2387) (by decide +kernel) rfl, fun h => absurd (show (mm_MT 244).2.2.2.2.1 = 1 from by decide +kernel) h, fun h => absurd h (by decide +kernel), by decide +kernel, by decide +kernel, by decide +kernel, rfl, fun h => absurd h (by decide +kernel), mm_cdF_of rfl mm_d244⟩
set_option maxRecDepth 100000 in
theorem mm_h245 : mm_hw 245 ∈ mm_TW := List.mem_filter.mpr ⟨mm_at9 (List.mem_of_getElem? (i := 236) rfl), rfl⟩
set_option maxRecDepth 100000 in
theorem mm_mf245 : mm_MFP 245 := ⟨mm_h245, mm_TW_of (i := 163) (by decide +kernel) rfl, fun h => absurd h (by decide +kernel), fun _ => mm_TW_of (i := 2307) (by decide +kernel) rfl, fun _ => mm_TW_of (i := 70) (by decide +kernel) rfl, by decide +kernel, by decide +kernel, by decide +kernel, rfl, fun h => absurd h (by decide +kernel), mm_cdF_of rfl mm_d245⟩
set_option maxRecDepth 100000 in
theorem mm_h246 : mm_hw 246 ∈ mm_TW := List.mem_filter.mpr ⟨mm_at10 (List.mem_of_getElem? (i := 17) rfl), rfl⟩
set_option maxRecDepth 100000 in
theorem mm_mf246 : mm_MFP 246 := ⟨mm_h246, mm_TW_of (i := 163) (by decide +kernel) rfl, fun h => absurd h (by decide +kernel), fun _ => mm_TW_of (i := 2328) (by decide +kernel) rfl, fun _ => mm_TW_of (i := 73) (by decide +kernel) rfl, by decide +kernel, by decide +kernel, by decide +kernel, rfl, fun h => absurd h (by decide +kernel), mm_cdF_of rfl mm_d246⟩
set_option maxRecDepth 100000 in
theorem mm_h247 : mm_hw 247 ∈ mm_TW := List.mem_filter.mpr ⟨mm_at10 (List.mem_of_getElem? (i := 62) rfl), rfl⟩
set_option maxRecDepth 100000 in
theorem mm_mf247 : mm_MFP 247 := ⟨mm_h247, mm_TW_of (i := 163) (by decide +kernel) rfl, fun h => absurd h (by decide +kernel), fun _ => mm_TW_of (i := 2373) (by decide +kernel) rfl, fun _ => mm_TW_of (i := 82) (by decide +kernel) rfl, by decide +kernel, by decide +kernel, by decide +kernel, rfl, fun h => absurd h (by decide +kernel), mm_cdF_of rfl mm_d247⟩
set_option maxRecDepth 100000 in
theorem mm_h248 : mm_hw 248 ∈ mm_TW := List.mem_filter.mpr ⟨mm_at10 (List.mem_of_getElem? (i := 69) rfl), rfl⟩
set_option maxRecDepth 100000 in
theorem mm_mf248 : mm_MFP 248 := ⟨mm_h248, mm_TW_of (i := 163) (by decide +kernel) rfl, fun h => absurd h (by decide +kernel), fun _ => mm_TW_of (i := 2380) (by decide +kernel) rfl, fun _ => mm_TW_of (i := 83) (by decide +kernel) rfl, by decide +kernel, by decide +kernel, by decide +kernel, rfl, fun h => absurd h (by decide +kernel), mm_cdF_of rfl mm_d248⟩
set_option maxRecDepth 100000 in
theorem mm_h249 : mm_hw 249 ∈ mm_TW := List.mem_filter.mpr ⟨mm_at10 (List.mem_of_getElem? (i := 73) rfl), rfl⟩
set_option maxRecDepth 100000 in
theorem mm_mf249 : mm_MFP 249 := ⟨mm_h249, mm_TW_of (i := 163) (by decide +kernel) rfl, fun h => absurd h (by decide +kernel), fun _ => mm_TW_of (i := 2384) (by decide +kernel) rfl, fun _ => mm_TW_of (i := 84) (by decide +kernel) rfl, by decide +kernel, by decide +kernel, by decide +kernel, rfl, fun h => absurd h (by decide +kernel), mm_cdF_of rfl mm_d249⟩
set_option maxRecDepth 100000 in
theorem mm_h250 : mm_hw 250 ∈ mm_TW := List.mem_filter.mpr ⟨mm_at10 (List.mem_of_getElem? (i := 28) rfl), rfl⟩
set_option maxRecDepth 100000 in
theorem mm_mf250 : mm_MFP 250 := ⟨mm_h250, mm_TW_of (i := 163) (by decide +kernel) rfl, fun h => absurd h (by decide +kernel), fun _ => mm_TW_of (i := 2339) (by decide +kernel) rfl, fun _ => mm_TW_of (i := 75) (by decide +kernel) rfl, by decide +kernel, by decide +kernel, by decide +kernel, rfl, fun h => absurd h (by decide +kernel), mm_cdF_of rfl mm_d250⟩
set_option maxRecDepth 100000 in
theorem mm_h251 : mm_hw 251 ∈ mm_TW := List.mem_filter.mpr ⟨mm_at10 (List.mem_of_getElem? (i := 21) rfl), rfl⟩
set_option maxRecDepth 100000 in
theorem mm_mf251 : mm_MFP 251 := ⟨mm_h251, mm_TW_of (i := 163) (by decide +kernel) rfl, fun h => absurd h (by decide +kernel), fun _ => mm_TW_of (i := 2332) (by decide +kernel) rfl, fun _ => mm_TW_of (i := 74) (by decide +kernel) rfl, by decide +kernel, by decide +kernel, by decide +kernel, rfl, fun h => absurd h (by decide +kernel), mm_cdF_of rfl mm_d251⟩
set_option maxRecDepth 100000 in
theorem mm_h252 : mm_hw 252 ∈ mm_TW := List.mem_filter.mpr ⟨mm_at10 (List.mem_of_getElem? (i := 87) rfl), rfl⟩
set_option maxRecDepth 100000 in
theorem mm_mf252 : mm_MFP 252 := ⟨mm_h252, mm_TW_of (i := 163) (by decide +kernel) rfl, fun _ => mm_TW_of (i := 2398) (by decide +kernel) rfl, fun h => absurd (show (mm_MT 252).2.2.2.2.1 = 1 from by decide +kernel) h, fun h => absurd h (by decide +kernel), by decide +kernel, by decide +kernel, by decide +kernel, rfl, fun h => absurd h (by decide +kernel), mm_cdF_of rfl mm_d252⟩
set_option maxRecDepth 100000 in
theorem mm_h253 : mm_hw 253 ∈ mm_TW := List.mem_filter.mpr ⟨mm_at10 (List.mem_of_getElem? (i := 90) rfl), rfl⟩
set_option maxRecDepth 100000 in
theorem mm_mf253 : mm_MFP 253 := ⟨mm_h253, mm_TW_of (i := 163) (by decide +kernel) rfl, fun _ => mm_TW_of (i := 2401) (by decide +kernel) rfl, fun h => absurd (show (mm_MT 253).2.2.2.2.1 = 1 from by decide +kernel) h, fun h => absurd h (by decide +kernel), by decide +kernel, by decide +kernel, by decide +kernel, rfl, fun h => absurd h (by decide +kernel), mm_cdF_of rfl mm_d253⟩
set_option maxRecDepth 100000 in
theorem mm_h254 : mm_hw 254 ∈ mm_TW := List.mem_filter.mpr ⟨mm_at10 (List.mem_of_getElem? (i := 104) rfl), rfl⟩
set_option maxRecDepth 100000 in
theorem mm_mf254 : mm_MFP 254 := ⟨mm_h254, mm_TW_of (i := 163) (by decide +kernel) rfl, fun _ => mm_TW_of (i := 2415) (by decide +kernel) rfl, fun h => absurd (show (mm_MT 254).2.2.2.2.1 = 1 from by decide +kernel) h, fun h => absurd h (by decide +kernel), by decide +kernel, by decide +kernel, by decide +kernel, rfl, fun h => absurd h (by decide +kernel), mm_cdF_of rfl mm_d254⟩
set_option maxRecDepth 100000 in
theorem mm_h255 : mm_hw 255 ∈ mm_TW := List.mem_filter.mpr ⟨mm_at10 (List.mem_of_getElem? (i := 101) rfl), rfl⟩
set_option maxRecDepth 100000 in
theorem mm_mf255 : mm_MFP 255 := ⟨mm_h255, mm_TW_of (i := 163) (by decide +kernel) rfl, fun _ => mm_TW_of (i := 2412) (by decide +kernel) rfl, fun h => absurd (show (mm_MT 255).2.2.2.2.1 = 1 from by decide +kernel) h, fun h => absurd h (by decide +kernel), by decide +kernel, by decide +kernel, by decide +kernel, rfl, fun h => absurd h (by decide +kernel), mm_cdF_of rfl mm_d255⟩
set_option maxRecDepth 100000 in
theorem mm_h256 : mm_hw 256 ∈ mm_TW := List.mem_filter.mpr ⟨mm_at10 (List.mem_of_getElem? (i := 98) rfl), rfl⟩
set_option maxRecDepth 100000 in
theorem mm_mf256 : mm_MFP 256 := ⟨mm_h256, mm_TW_of (i := 163) (by decide +kernel) rfl, fun h => absurd h (by decide +kernel), fun _ => mm_TW_of (i := 2409) (by decide +kernel) rfl, fun _ => mm_TW_of (i := 88) (by decide +kernel) rfl, by decide +kernel, by decide +kernel, by decide +kernel, rfl, fun h => absurd h (by decide +kernel), mm_cdF_of rfl mm_d256⟩
set_option maxRecDepth 100000 in
theorem mm_h257 : mm_hw 257 ∈ mm_TW := List.mem_filter.mpr ⟨mm_at10 (List.mem_of_getElem? (i := 108) rfl), rfl⟩
set_option maxRecDepth 100000 in
theorem mm_mf257 : mm_MFP 257 := ⟨mm_h257, mm_TW_of (i := 163) (by decide +kernel) rfl, fun h => absurd h (by decide +kernel), fun _ => mm_TW_of (i := 2419) (by decide +kernel) rfl, fun _ => mm_TW_of (i := 89) (by decide +kernel) rfl, by decide +kernel, by decide +kernel, by decide +kernel, rfl, fun h => absurd h (by decide +kernel), mm_cdF_of rfl mm_d257⟩
set_option maxRecDepth 100000 in
theorem mm_h258 : mm_hw 258 ∈ mm_TW := List.mem_filter.mpr ⟨mm_at10 (List.mem_of_getElem? (i := 227) rfl), rfl⟩
set_option maxRecDepth 100000 in
theorem mm_mf258 : mm_MFP 258 := ⟨mm_h258, mm_TW_of (i := 163) (by decide +kernel) rfl, fun h => absurd h (by decide +kernel), fun _ => mm_TW_of (i := 2538) (by decide +kernel) rfl, fun _ => mm_TW_of (i := 118) (by decide +kernel) rfl, by decide +kernel, by decide +kernel, by decide +kernel, rfl, fun h => absurd h (by decide +kernel), mm_cdF_of rfl mm_d258⟩
set_option maxRecDepth 100000 in
theorem mm_h259 : mm_hw 259 ∈ mm_TW := List.mem_filter.mpr ⟨mm_at10 (List.mem_of_getElem? (i := 0) rfl), rfl⟩
set_option maxRecDepth 100000 in
theorem mm_mf259 : mm_MFP 259 := ⟨mm_h259, mm_TW_of (i := 163) (by decide +kernel) rfl, fun h => absurd h (by decide +kernel), fun _ => mm_TW_of (i := 2311) (by decide +kernel) rfl, fun _ => mm_TW_of (i := 71) (by decide +kernel) rfl, by decide +kernel, by decide +kernel, by decide +kernel, rfl, fun h => absurd h (by decide +kernel), mm_cdF_of rfl mm_d259⟩
set_option maxRecDepth 100000 in
theorem mm_h260 : mm_hw 260 ∈ mm_TW := List.mem_filter.mpr ⟨mm_at9 (List.mem_of_getElem? (i := 232) rfl), rfl⟩
set_option maxRecDepth 100000 in
theorem mm_mf260 : mm_MFP 260 := ⟨mm_h260, mm_TW_of (i := 163) (by decide +kernel) rfl, fun h => absurd h (by decide +kernel), fun _ => mm_TW_of (i := 2303) (by decide +kernel) rfl, fun _ => mm_TW_of (i := 69) (by decide +kernel) rfl, by decide +kernel, by decide +kernel, by decide +kernel, rfl, fun h => absurd h (by decide +kernel), mm_cdF_of rfl mm_d260⟩
set_option maxRecDepth 100000 in
theorem mm_h261 : mm_hw 261 ∈ mm_TW := List.mem_filter.mpr ⟨mm_at10 (List.mem_of_getElem? (i := 46) rfl), rfl⟩
set_option maxRecDepth 100000 in
theorem mm_mf261 : mm_MFP 261 := ⟨mm_h261, mm_TW_of (i := 163) (by decide +kernel) rfl, fun _ => mm_TW_of (i := 2357) (by decide +kernel) rfl, fun h => absurd (show (mm_MT 261).2.2.2.2.1 = 1 from by decide +kernel) h, fun h => absurd h (by decide +kernel), by decide +kernel, by decide +kernel, by decide +kernel, rfl, fun h => absurd h (by decide +kernel), mm_cdF_of rfl mm_d261⟩
set_option maxRecDepth 100000 in
theorem mm_h262 : mm_hw 262 ∈ mm_TW := List.mem_filter.mpr ⟨mm_at10 (List.mem_of_getElem? (i := 39) rfl), rfl⟩
set_option maxRecDepth 100000 in
theorem mm_mf262 : mm_MFP 262 := ⟨mm_h262, mm_TW_of (i := 163) (by decide +kernel) rfl, fun _ => mm_TW_of (i := 2350) (by decide +kernel) rfl, fun h => absurd (show (mm_MT 262).2.2.2.2.1 = 1 from by decide +kernel) h, fun h => absurd h (by decide +kernel), by decide +kernel, by decide +kernel, by decide +kernel, rfl, fun h => absurd h (by decide +kernel), mm_cdF_of rfl mm_d262⟩
set_option maxRecDepth 100000 in
theorem mm_h263 : mm_hw 263 ∈ mm_TW := List.mem_filter.mpr ⟨mm_at10 (List.mem_of_getElem? (i := 217) rfl), rfl⟩
set_option maxRecDepth 100000 in
theorem mm_mf263 : mm_MFP 263 := ⟨mm_h263, mm_TW_of (i := 163) (by decide +kernel) rfl, fun h => absurd h (by decide +kernel), fun _ => mm_TW_of (i := 2528) (by decide +kernel) rfl, fun _ => mm_TW_of (i := 116) (by decide +kernel) rfl, by decide +kernel, by decide +kernel, by decide +kernel, rfl, fun h => absurd h (by decide +kernel), mm_cdF_of rfl mm_d263⟩
set_option maxRecDepth 100000 in
theorem mm_h264 : mm_hw 264 ∈ mm_TW := List.mem_filter.mpr ⟨mm_at10 (List.mem_of_getElem? (i := 58) rfl), rfl⟩
set_option maxRecDepth 100000 in
theorem mm_mf264 : mm_MFP 264 := ⟨mm_h264, mm_TW_of (i := 163) (by decide +kernel) rfl, fun h => absurd h (by decide +kernel), fun _ => mm_TW_of (i := 2369) (by decide +kernel) rfl, fun _ => mm_TW_of (i := 81) (by decide +kernel) rfl, by decide +kernel, by decide +kernel, by decide +kernel, rfl, fun h => absurd h (by decide +kernel), mm_cdF_of rfl mm_d264⟩
set_option maxRecDepth 100000 in
theorem mm_h265 : mm_hw 265 ∈ mm_TW := List.mem_filter.mpr ⟨mm_at10 (List.mem_of_getElem? (i := 201) rfl), rfl⟩
set_option maxRecDepth 100000 in
theorem mm_mf265 : mm_MFP 265 := ⟨mm_h265, mm_TW_of (i := 163) (by decide +kernel) rfl, fun h => absurd h (by decide +kernel), fun _ => mm_TW_of (i := 2512) (by decide +kernel) rfl, fun _ => mm_TW_of (i := 112) (by decide +kernel) rfl, by decide +kernel, by decide +kernel, by decide +kernel, rfl, fun h => absurd h (by decide +kernel), mm_cdF_of rfl mm_d265⟩
set_option maxRecDepth 100000 in
theorem mm_h266 : mm_hw 266 ∈ mm_TW := List.mem_filter.mpr ⟨mm_at10 (List.mem_of_getElem? (i := 112) rfl), rfl⟩
set_option maxRecDepth 100000 in
theorem mm_mf266 : mm_MFP 266 := ⟨mm_h266, mm_TW_of (i := 163) (by decide +kernel) rfl, fun h => absurd h (by decide +kernel), fun _ => mm_TW_of (i := 2423) (by decide +kernel) rfl, fun _ => mm_TW_of (i := 90) (by decide +kernel) rfl, by decide +kernel, by decide +kernel, by decide +kernel, rfl, fun h => absurd h (by decide +kernel), mm_cdF_of rfl mm_d266⟩
set_option maxRecDepth 100000 in
theorem mm_h267 : mm_hw 267 ∈ mm_TW := List.mem_filter.mpr ⟨mm_at10 (List.mem_of_getElem? (i := 116) rfl), rfl⟩
set_option maxRecDepth 100000 in
theorem mm_mf267 : mm_MFP 267 := ⟨mm_h267, mm_TW_of (i := 163) (by decide +kernel) rfl, fun h => absurd h (by decide +kernel), fun _ => mm_TW_of (i := 2427) (by decide +kernel) rfl, fun _ => mm_TW_of (i := 91) (by decide +kernel) rfl, by decide +kernel, by decide +kernel, by decide +kernel, rfl, fun h => absurd h (by decide +kernel), mm_cdF_of rfl mm_d267⟩
set_option maxRecDepth 100000 in
theorem mm_h268 : mm_hw 268 ∈ mm_TW := List.mem_filter.mpr ⟨mm_at10 (List.mem_of_getElem? (i := 231) rfl), rfl⟩
set_option maxRecDepth 100000 in
theorem mm_mf268 : mm_MFP 268 := ⟨mm_h268, mm_TW_of (i := 163) (by decide +kernel) rfl, fun h => absurd h (by decide +kernel), fun _ => mm_TW_of (i := 2542) (by decide +kernel) rfl, fun _ => mm_TW_of (i := 119) (by decide +kernel) rfl, by decide +kernel, by decide +kernel, by decide +kernel, rfl, fun h => absurd h (by decide +kernel), mm_cdF_of rfl mm_d268⟩
set_option maxRecDepth 100000 in
theorem mm_h269 : mm_hw 269 ∈ mm_TW := List.mem_filter.mpr ⟨mm_at11 (List.mem_of_getElem? (i := 3) rfl), rfl⟩
set_option maxRecDepth 100000 in
theorem mm_mf269 : mm_MFP 269 := ⟨mm_h269, mm_TW_of (i := 163) (by decide +kernel) rfl, fun h => absurd h (by decide +kernel), fun _ => mm_TW_of (i := 2554) (by decide +kernel) rfl, fun _ => mm_TW_of (i := 122) (by decide +kernel) rfl, by decide +kernel, by decide +kernel, by decide +kernel, rfl, fun h => absurd h (by decide +kernel), mm_cdF_of rfl mm_d269⟩
set_option maxRecDepth 100000 in
theorem mm_h270 : mm_hw 270 ∈ mm_TW := List.mem_filter.mpr ⟨mm_at10 (List.mem_of_getElem? (i := 197) rfl), rfl⟩
set_option maxRecDepth 100000 in
theorem mm_mf270 : mm_MFP 270 := ⟨mm_h270, mm_TW_of (i := 163) (by decide +kernel) rfl, fun h => absurd h (by decide +kernel), fun _ => mm_TW_of (i := 2508) (by decide +kernel) rfl, fun _ => mm_TW_of (i := 111) (by decide +kernel) rfl, by decide +kernel, by decide +kernel, by decide +kernel, rfl, fun h => absurd h (by decide +kernel), mm_cdF_of rfl mm_d270⟩
