set_option maxRecDepth 100000 in
theorem mm_h271 : mm_hw 271 ∈ mm_TW := List.mem_filter.mpr ⟨mm_at10 (List.mem_of_getElem? (i := 128) rfl), rfl⟩
set_option maxRecDepth 100000 in
theorem mm_mf271 : mm_MFP 271 := ⟨mm_h271, mm_TW_of (i := 163) (by decide +kernel) rfl, fun h => absurd h (by decide +kernel), fun _ => mm_TW_of (i := 2439) (by decide +kernel) rfl, fun _ => mm_TW_of (i := 94) (by decide +kernel) rfl, by decide +kernel, by decide +kernel, by decide +kernel, rfl, fun h => absurd h (by decide +kernel), mm_cdF_of rfl mm_d271⟩
set_option maxRecDepth 100000 in
theorem mm_h272 : mm_hw 272 ∈ mm_TW := List.mem_filter.mpr ⟨mm_at10 (List.mem_of_getElem? (i := 132) rfl), rfl⟩
set_option maxRecDepth 100000 in
theorem mm_mf272 : mm_MFP 272 := ⟨mm_h272, mm_TW_of (i := 163) (by decide +kernel) rfl, fun h => absurd h (by decide +kernel), fun _ => mm_TW_of (i := 2443) (by decide +kernel) rfl, fun _ => mm_TW_of (i := 95) (by decide +kernel) rfl, by decide +kernel, by decide +kernel, by decide +kernel, rfl, fun h => absurd h (by decide +kernel), mm_cdF_of rfl mm_d272⟩
set_option maxRecDepth 100000 in
theorem mm_h273 : mm_hw 273 ∈ mm_TW := List.mem_filter.mpr ⟨mm_at10 (List.mem_of_getElem? (i := 124) rfl), rfl⟩
set_option maxRecDepth 100000 in
theorem mm_mf273 : mm_MFP 273 := ⟨mm_h273, mm_TW_of (i := 163) (by decide +kernel) rfl, fun h => absurd h (by decide +kernel), fun _ => mm_TW_of (i := 2435) (by decide +kernel) rfl, fun _ => mm_TW_of (i := 93) (by decide +kernel) rfl, by decide +kernel, by decide +kernel, by decide +kernel, rfl, fun h => absurd h (by decide +kernel), mm_cdF_of rfl mm_d273⟩
set_option maxRecDepth 100000 in
theorem mm_h274 : mm_hw 274 ∈ mm_TW := List.mem_filter.mpr ⟨mm_at11 (List.mem_of_getElem? (i := 11) rfl), rfl⟩
set_option maxRecDepth 100000 in
theorem mm_mf274 : mm_MFP 274 := ⟨mm_h274, mm_TW_of (i := 163) (by decide +kernel) rfl, fun h => absurd h (by decide +kernel), fun _ => mm_TW_of (i := 2562) (by decide +kernel) rfl, fun _ => mm_TW_of (i := 124) (by decide +kernel) rfl, by decide +kernel, by decide +kernel, by decide +kernel, rfl, fun h => absurd h (by decide +kernel), mm_cdF_of rfl mm_d274⟩
set_option maxRecDepth 100000 in
theorem mm_h275 : mm_hw 275 ∈ mm_TW := List.mem_filter.mpr ⟨mm_at11 (List.mem_of_getElem? (i := 7) rfl), rfl⟩
set_option maxRecDepth 100000 in
theorem mm_mf275 : mm_MFP 275 := ⟨mm_h275, mm_TW_of (i := 163) (by decide +kernel) rfl, fun h => absurd h (by decide +kernel), fun _ => mm_TW_of (i := 2558) (by decide +kernel) rfl, fun _ => mm_TW_of (i := 123) (by decide +kernel) rfl, by decide +kernel, by decide +kernel, by decide +kernel, rfl, fun h => absurd h (by decide +kernel), mm_cdF_of rfl mm_d275⟩
set_option maxRecDepth 100000 in
theorem mm_h276 : mm_hw 276 ∈ mm_TW := List.mem_filter.mpr ⟨mm_at11 (List.mem_of_getElem? (i := 19) rfl), rfl⟩
set_option maxRecDepth 100000 in
theorem mm_mf276 : mm_MFP 276 := ⟨mm_h276, mm_TW_of (i := 163) (by decide +kernel) rfl, fun h => absurd h (by decide +kernel), fun _ => mm_TW_of (i := 2570) (by decide +kernel) rfl, fun _ => mm_TW_of (i := 126) (by decide +kernel) rfl, by decide +kernel, by decide +kernel, by decide +kernel, rfl, fun h => absurd h (by decide +kernel), mm_cdF_of rfl mm_d276⟩
set_option maxRecDepth 100000 in
theorem mm_h277 : mm_hw 277 ∈ mm_TW := List.mem_filter.mpr ⟨mm_at11 (List.mem_of_getElem? (i := 15) rfl), rfl⟩
set_option maxRecDepth 100000 in
theorem mm_mf277 : mm_MFP 277 := ⟨mm_h277, mm_TW_of (i := 163) (by decide +kernel) rfl, fun h => absurd h (by decide +kernel), fun _ => mm_TW_of (i := 2566) (by decide +kernel) rfl, fun _ => mm_TW_of (i := 125) (by decide +kernel) rfl, by decide +kernel, by decide +kernel, by decide +kernel, rfl, fun h => absurd h (by decide +kernel), mm_cdF_of rfl mm_d277⟩
set_option maxRecDepth 100000 in
theorem mm_h278 : mm_hw 278 ∈ mm_TW := List.mem_filter.mpr ⟨mm_at10 (List.mem_of_getElem? (i := 193) rfl), rfl⟩
set_option maxRecDepth 100000 in
theorem mm_mf278 : mm_MFP 278 := ⟨mm_h278, mm_TW_of (i := 163) (by decide +kernel) rfl, fun h => absurd h (by decide +kernel), fun _ => mm_TW_of (i := 2504) (by decide +kernel) rfl, fun _ => mm_TW_of (i := 110) (by decide +kernel) rfl, by decide +kernel, by decide +kernel, by decide +kernel, rfl, fun h => absurd h (by decide +kernel), mm_cdF_of rfl mm_d278⟩
set_option maxRecDepth 100000 in
theorem mm_h279 : mm_hw 279 ∈ mm_TW := List.mem_filter.mpr ⟨mm_at10 (List.mem_of_getElem? (i := 36) rfl), rfl⟩
set_option maxRecDepth 100000 in
theorem mm_mf279 : mm_MFP 279 := ⟨mm_h279, mm_TW_of (i := 163) (by decide +kernel) rfl, fun h => absurd h (by decide +kernel), fun _ => mm_TW_of (i := 2347) (by decide +kernel) rfl, fun _ => mm_TW_of (i := 77) (by decide +kernel) rfl, by decide +kernel, by decide +kernel, by decide +kernel, rfl, fun h => absurd h (by decide +kernel), mm_cdF_of rfl mm_d279⟩
set_option maxRecDepth 100000 in
theorem mm_h280 : mm_hw 280 ∈ mm_TW := List.mem_filter.mpr ⟨mm_at10 (List.mem_of_getElem? (i := 94) rfl), rfl⟩
set_option maxRecDepth 100000 in
theorem mm_mf280 : mm_MFP 280 := ⟨mm_h280, mm_TW_of (i := 163) (by decide +kernel) rfl, fun h => absurd h (by decide +kernel), fun _ => mm_TW_of (i := 2405) (by decide +kernel) rfl, fun _ => mm_TW_of (i := 87) (by decide +kernel) rfl, by decide +kernel, by decide +kernel, by decide +kernel, rfl, fun h => absurd h (by decide +kernel), mm_cdF_of rfl mm_d280⟩
set_option maxRecDepth 100000 in
theorem mm_h281 : mm_hw 281 ∈ mm_TW := List.mem_filter.mpr ⟨mm_at10 (List.mem_of_getElem? (i := 84) rfl), rfl⟩
set_option maxRecDepth 100000 in
theorem mm_mf281 : mm_MFP 281 := ⟨mm_h281, mm_TW_of (i := 163) (by decide +kernel) rfl, fun h => absurd h (by decide +kernel), fun _ => mm_TW_of (i := 2395) (by decide +kernel) rfl, fun _ => mm_TW_of (i := 86) (by decide +kernel) rfl, by decide +kernel, by decide +kernel, by decide +kernel, rfl, fun h => absurd h (by decide +kernel), mm_cdF_of rfl mm_d281⟩
set_option maxRecDepth 100000 in
theorem mm_h282 : mm_hw 282 ∈ mm_TW := List.mem_filter.mpr ⟨mm_at10 (List.mem_of_getElem? (i := 80) rfl), rfl⟩
set_option maxRecDepth 100000 in
theorem mm_mf282 : mm_MFP 282 := ⟨mm_h282, mm_TW_of (i := 163) (by decide +kernel) rfl, fun h => absurd h (by decide +kernel), fun _ => mm_TW_of (i := 2391) (by decide +kernel) rfl, fun _ => mm_TW_of (i := 85) (by decide +kernel) rfl, by decide +kernel, by decide +kernel, by decide +kernel, rfl, fun h => absurd h (by decide +kernel), mm_cdF_of rfl mm_d282⟩
set_option maxRecDepth 100000 in
theorem mm_h283 : mm_hw 283 ∈ mm_TW := List.mem_filter.mpr ⟨mm_at10 (List.mem_of_getElem? (i := 4) rfl), rfl⟩
set_option maxRecDepth 100000 in
theorem mm_mf283 : mm_MFP 283 := ⟨mm_h283, mm_TW_of (i := 163) (by decide +kernel) rfl, fun h => absurd h (by decide +kernel), fun _ => mm_TW_of (i := 2315) (by decide +kernel) rfl, fun _ => mm_TW_of (i := 72) (by decide +kernel) rfl, by decide +kernel, by decide +kernel, by decide +kernel, rfl, fun h => absurd h (by decide +kernel), mm_cdF_of rfl mm_d283⟩
set_option maxRecDepth 100000 in
theorem mm_h284 : mm_hw 284 ∈ mm_TW := List.mem_filter.mpr ⟨mm_at10 (List.mem_of_getElem? (i := 43) rfl), rfl⟩
set_option maxRecDepth 100000 in
theorem mm_mf284 : mm_MFP 284 := ⟨mm_h284, mm_TW_of (i := 163) (by decide +kernel) rfl, fun h => absurd h (by decide +kernel), fun _ => mm_TW_of (i := 2354) (by decide +kernel) rfl, fun _ => mm_TW_of (i := 78) (by decide +kernel) rfl, by decide +kernel, by decide +kernel, by decide +kernel, rfl, fun h => absurd h (by decide +kernel), mm_cdF_of rfl mm_d284⟩
set_option maxRecDepth 100000 in
theorem mm_h285 : mm_hw 285 ∈ mm_TW := List.mem_filter.mpr ⟨mm_at9 (List.mem_of_getElem? (i := 223) rfl), rfl⟩
set_option maxRecDepth 100000 in
theorem mm_mf285 : mm_MFP 285 := ⟨mm_h285, mm_TW_of (i := 163) (by decide +kernel) rfl, fun h => absurd h (by decide +kernel), fun _ => mm_TW_of (i := 2294) (by decide +kernel) rfl, fun _ => mm_TW_of (i := 67) (by decide +kernel) rfl, by decide +kernel, by decide +kernel, by decide +kernel, rfl, fun h => absurd h (by decide +kernel), mm_cdF_of rfl mm_d285⟩
set_option maxRecDepth 100000 in
theorem mm_h286 : mm_hw 286 ∈ mm_TW := List.mem_filter.mpr ⟨mm_at10 (List.mem_of_getElem? (i := 120) rfl), rfl⟩
set_option maxRecDepth 100000 in
theorem mm_mf286 : mm_MFP 286 := ⟨mm_h286, mm_TW_of (i := 163) (by decide +kernel) rfl, fun h => absurd h (by decide +kernel), fun _ => mm_TW_of (i := 2431) (by decide +kernel) rfl, fun _ => mm_TW_of (i := 92) (by decide +kernel) rfl, by decide +kernel, by decide +kernel, by decide +kernel, rfl, fun h => absurd h (by decide +kernel), mm_cdF_of rfl mm_d286⟩
set_option maxRecDepth 100000 in
theorem mm_h287 : mm_hw 287 ∈ mm_TW := List.mem_filter.mpr ⟨mm_at10 (List.mem_of_getElem? (i := 144) rfl), rfl⟩
set_option maxRecDepth 100000 in
theorem mm_mf287 : mm_MFP 287 := ⟨mm_h287, mm_TW_of (i := 163) (by decide +kernel) rfl, fun h => absurd h (by decide +kernel), fun _ => mm_TW_of (i := 2455) (by decide +kernel) rfl, fun _ => mm_TW_of (i := 98) (by decide +kernel) rfl, by decide +kernel, by decide +kernel, by decide +kernel, rfl, fun h => absurd h (by decide +kernel), mm_cdF_of rfl mm_d287⟩
set_option maxRecDepth 100000 in
theorem mm_h288 : mm_hw 288 ∈ mm_TW := List.mem_filter.mpr ⟨mm_at10 (List.mem_of_getElem? (i := 148) rfl), rfl⟩
set_option maxRecDepth 100000 in
theorem mm_mf288 : mm_MFP 288 := ⟨mm_h288, mm_TW_of (i := 163) (by decide +kernel) rfl, fun h => absurd h (by decide +kernel), fun _ => mm_TW_of (i := 2459) (by decide +kernel) rfl, fun _ => mm_TW_of (i := 99) (by decide +kernel) rfl, by decide +kernel, by decide +kernel, by decide +kernel, rfl, fun h => absurd h (by decide +kernel), mm_cdF_of rfl mm_d288⟩
set_option maxRecDepth 100000 in
theorem mm_h289 : mm_hw 289 ∈ mm_TW := List.mem_filter.mpr ⟨mm_at10 (List.mem_of_getElem? (i := 136) rfl), rfl⟩
set_option maxRecDepth 100000 in
theorem mm_mf289 : mm_MFP 289 := ⟨mm_h289, mm_TW_of (i := 163) (by decide +kernel) rfl, fun h => absurd h (by decide +kernel), fun _ => mm_TW_of (i := 2447) (by decide +kernel) rfl, fun _ => mm_TW_of (i := 96) (by decide +kernel) rfl, by decide +kernel, by decide +kernel, by decide +kernel, rfl, fun h => absurd h (by decide +kernel), mm_cdF_of rfl mm_d289⟩
set_option maxRecDepth 100000 in
theorem mm_h290 : mm_hw 290 ∈ mm_TW := List.mem_filter.mpr ⟨mm_at10 (List.mem_of_getElem? (i := 140) rfl), rfl⟩
set_option maxRecDepth 100000 in
theorem mm_mf290 : mm_MFP 290 := ⟨mm_h290, mm_TW_of (i := 163) (by decide +kernel) rfl, fun h => absurd h (by decide +kernel), fun _ => mm_TW_of (i := 2451) (by decide +kernel) rfl, fun _ => mm_TW_of (i := 97) (by decide +kernel) rfl, by decide +kernel, by decide +kernel, by decide +kernel, rfl, fun h => absurd h (by decide +kernel), mm_cdF_of rfl mm_d290⟩
set_option maxRecDepth 100000 in
theorem mm_h291 : mm_hw 291 ∈ mm_TW := List.mem_filter.mpr ⟨mm_at9 (List.mem_of_getElem? (i := 211) rfl), rfl⟩
set_option maxRecDepth 100000 in
theorem mm_mf291 : mm_MFP 291 := ⟨mm_h291, mm_TW_of (i := 163) (by decide +kernel) rfl, fun h => absurd h (by decide +kernel), fun _ => mm_TW_of (i := 2282) (by decide +kernel) rfl, fun _ => mm_TW_of (i := 64) (by decide +kernel) rfl, by decide +kernel, by decide +kernel, by decide +kernel, rfl, fun h => absurd h (by decide +kernel), mm_cdF_of rfl mm_d291⟩
set_option maxRecDepth 100000 in
theorem mm_h292 : mm_hw 292 ∈ mm_TW := List.mem_filter.mpr ⟨mm_at10 (List.mem_of_getElem? (i := 152) rfl), rfl⟩
set_option maxRecDepth 100000 in
theorem mm_mf292 : mm_MFP 292 := ⟨mm_h292, mm_TW_of (i := 163) (by decide +kernel) rfl, fun h => absurd h (by decide +kernel), fun _ => mm_TW_of (i := 2463) (by decide +kernel) rfl, fun _ => mm_TW_of (i := 100) (by decide +kernel) rfl, by decide +kernel, by decide +kernel, by decide +kernel, rfl, fun h => absurd h (by decide +kernel), mm_cdF_of rfl mm_d292⟩
set_option maxRecDepth 100000 in
theorem mm_h293 : mm_hw 293 ∈ mm_TW := List.mem_filter.mpr ⟨mm_at9 (List.mem_of_getElem? (i := 207) rfl), rfl⟩
set_option maxRecDepth 100000 in
theorem mm_mf293 : mm_MFP 293 := ⟨mm_h293, mm_TW_of (i := 163) (by decide +kernel) rfl, fun h => absurd h (by decide +kernel), fun _ => mm_TW_of (i := 2278) (by decide +kernel) rfl, fun _ => mm_TW_of (i := 63) (by decide +kernel) rfl, by decide +kernel, by decide +kernel, by decide +kernel, rfl, fun h => absurd h (by decide +kernel), mm_cdF_of rfl mm_d293⟩
set_option maxRecDepth 100000 in
theorem mm_h294 : mm_hw 294 ∈ mm_TW := List.mem_filter.mpr ⟨mm_at9 (List.mem_of_getElem? (i := 203) rfl), rfl⟩
set_option maxRecDepth 100000 in
theorem mm_mf294 : mm_MFP 294 := ⟨mm_h294, mm_TW_of (i := 163) (by decide +kernel) rfl, fun h => absurd h (by decide +kernel), fun _ => mm_TW_of (i := 2274) (by decide +kernel) rfl, fun _ => mm_TW_of (i := 62) (by decide +kernel) rfl, by decide +kernel, by decide +kernel, by decide +kernel, rfl, fun h => absurd h (by decide +kernel), mm_cdF_of rfl mm_d294⟩
set_option maxRecDepth 100000 in
theorem mm_h295 : mm_hw 295 ∈ mm_TW := List.mem_filter.mpr ⟨mm_at10 (List.mem_of_getElem? (i := 156) rfl), rfl⟩
set_option maxRecDepth 100000 in
theorem mm_mf295 : mm_MFP 295 := ⟨mm_h295, mm_TW_of (i := 163) (by decide +kernel) rfl, fun h => absurd h (by decide +kernel), fun _ => mm_TW_of (i := 2467) (by decide +kernel) rfl, fun _ => mm_TW_of (i := 101) (by decide +kernel) rfl, by decide +kernel, by decide +kernel, by decide +kernel, rfl, fun h => absurd h (by decide +kernel), mm_cdF_of rfl mm_d295⟩
set_option maxRecDepth 100000 in
theorem mm_h296 : mm_hw 296 ∈ mm_TW := List.mem_filter.mpr ⟨mm_at9 (List.mem_of_getElem? (i := 176) rfl), rfl⟩
set_option maxRecDepth 100000 in
theorem mm_mf296 : mm_MFP 296 := ⟨mm_h296, mm_TW_of (i := 163) (by decide +kernel) rfl, fun h => absurd h (by decide +kernel), fun _ => mm_TW_of (i := 2246) (by decide +kernel) rfl, fun _ => mm_TW_of (i := 2247) (by decide +kernel) rfl, by decide +kernel, by decide +kernel, by decide +kernel, rfl, fun h => absurd h (by decide +kernel), mm_cdF_of rfl mm_d296⟩
set_option maxRecDepth 100000 in
theorem mm_h297 : mm_hw 297 ∈ mm_TW := List.mem_filter.mpr ⟨mm_at9 (List.mem_of_getElem? (i := 187) rfl), rfl⟩
set_option maxRecDepth 100000 in
theorem mm_mf297 : mm_MFP 297 := ⟨mm_h297, mm_TW_of (i := 163) (by decide +kernel) rfl, fun h => absurd h (by decide +kernel), fun _ => mm_TW_of (i := 2257) (by decide +kernel) rfl, fun _ => mm_TW_of (i := 2258) (by decide +kernel) rfl, by decide +kernel, by decide +kernel, by decide +kernel, rfl, fun h => absurd h (by decide +kernel), mm_cdF_of rfl mm_d297⟩
set_option maxRecDepth 100000 in
theorem mm_h298 : mm_hw 298 ∈ mm_TW := List.mem_filter.mpr ⟨mm_at9 (List.mem_of_getElem? (i := 191) rfl), rfl⟩
set_option maxRecDepth 100000 in
theorem mm_mf298 : mm_MFP 298 := ⟨mm_h298, mm_TW_of (i := 163) (by decide +kernel) rfl, fun h => absurd h (by decide +kernel), fun _ => mm_TW_of (i := 2261) (by decide +kernel) rfl, fun _ => mm_TW_of (i := 2262) (by decide +kernel) rfl, by decide +kernel, by decide +kernel, by decide +kernel, rfl, fun h => absurd h (by decide +kernel), mm_cdF_of rfl mm_d298⟩
set_option maxRecDepth 100000 in
theorem mm_h299 : mm_hw 299 ∈ mm_TW := List.mem_filter.mpr ⟨mm_at9 (List.mem_of_getElem? (i := 199) rfl), rfl⟩
set_option maxRecDepth 100000 in
theorem mm_mf299 : mm_MFP 299 := ⟨mm_h299, mm_TW_of (i := 163) (by decide +kernel) rfl, fun h => absurd h (by decide +kernel), fun _ => mm_TW_of (i := 2270) (by decide +kernel) rfl, fun _ => mm_TW_of (i := 61) (by decide +kernel) rfl, by decide +kernel, by decide +kernel, by decide +kernel, rfl, fun h => absurd h (by decide +kernel), mm_cdF_of rfl mm_d299⟩
set_option maxRecDepth 100000 in
theorem mm_h300 : mm_hw 300 ∈ mm_TW := List.mem_filter.mpr ⟨mm_at9 (List.mem_of_getElem? (i := 195) rfl), rfl⟩
set_option maxRecDepth 100000 in
theorem mm_mf300 : mm_MFP 300 := ⟨mm_h300, mm_TW_of (i := 163) (by decide +kernel) rfl, fun h => absurd h (by decide +kernel), fun _ => mm_TW_of (i := 2265) (by decide +kernel) rfl, fun _ => mm_TW_of (i := 2266) (by decide +kernel) rfl, by decide +kernel, by decide +kernel, by decide +kernel, rfl, fun h => absurd h (by decide +kernel), mm_cdF_of rfl mm_d300⟩
set_option maxRecDepth 100000 in
theorem mm_h301 : mm_hw 301 ∈ mm_TW := List.mem_filter.mpr ⟨mm_at10 (List.mem_of_getElem? (i := 160) rfl), rfl⟩
set_option maxRecDepth 100000 in
theorem mm_mf301 : mm_MFP 301 := ⟨mm_h301, mm_TW_of (i := 163) (by decide +kernel) rfl, fun h => absurd h (by decide +kernel), fun _ => mm_TW_of (i := 2471) (by decide +kernel) rfl, fun _ => mm_TW_of (i := 102) (by decide +kernel) rfl, by decide +kernel, by decide +kernel, by decide +kernel, rfl, fun h => absurd h (by decide +kernel), mm_cdF_of rfl mm_d301⟩
set_option maxRecDepth 100000 in
theorem mm_h302 : mm_hw 302 ∈ mm_TW := List.mem_filter.mpr ⟨mm_at10 (List.mem_of_getElem? (i := 168) rfl), rfl⟩
set_option maxRecDepth 100000 in
theorem mm_mf302 : mm_MFP 302 := ⟨mm_h302, mm_TW_of (i := 163) (by decide +kernel) rfl, fun h => absurd h (by decide +kernel), fun _ => mm_TW_of (i := 2479) (by decide +kernel) rfl, fun _ => mm_TW_of (i := 104) (by decide +kernel) rfl, by decide +kernel, by decide +kernel, by decide +kernel, rfl, fun h => absurd h (by decide +kernel), mm_cdF_of rfl mm_d302⟩
set_option maxRecDepth 100000 in
theorem mm_h303 : mm_hw 303 ∈ mm_TW := List.mem_filter.mpr ⟨mm_at10 (List.mem_of_getElem? (i := 164) rfl), rfl⟩
set_option maxRecDepth 100000 in
theorem mm_mf303 : mm_MFP 303 := ⟨mm_h303, mm_TW_of (i := 163) (by decide +kernel) rfl, fun h => absurd h (by decide +kernel), fun _ => mm_TW_of (i := 2475) (by decide +kernel) rfl, fun _ => mm_TW_of (i := 103) (by decide +kernel) rfl, by decide +kernel, by decide +kernel, by decide +kernel, rfl, fun h => absurd h (by decide +kernel), mm_cdF_of rfl mm_d303⟩
set_option maxRecDepth 100000 in
theorem mm_h304 : mm_hw 304 ∈ mm_TW := List.mem_filter.mpr ⟨mm_at10 (List.mem_of_getElem? (i := 185) rfl), rfl⟩
set_option maxRecDepth 100000 in
theorem mm_mf304 : mm_MFP 304 := ⟨mm_h304, mm_TW_of (i := 163) (by decide +kernel) rfl, fun h => absurd h (by decide +kernel), fun _ => mm_TW_of (i := 2496) (by decide +kernel) rfl, fun _ => mm_TW_of (i := 108) (by decide +kernel) rfl, by decide +kernel, by decide +kernel, by decide +kernel, rfl, fun h => absurd h (by decide +kernel), mm_cdF_of rfl mm_d304⟩
