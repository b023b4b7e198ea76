set_option maxRecDepth 100000 in
theorem mm_h203 : mm_hw 203 ∈ mm_TW := List.mem_filter.mpr ⟨mm_at9 (List.mem_of_getElem? (i := 83) rfl), rfl⟩
set_option maxRecDepth 100000 in
theorem mm_mf203 : mm_MFP 203 := ⟨mm_h203, mm_TW_of (i := 163) (by decide +kernel) rfl, fun h => absurd h (by decide +kernel), fun _ => mm_TW_of (i := 2153) (by decide +kernel) rfl, fun _ => mm_TW_of (i := 2154) (by decide +kernel) rfl, by decide +kernel, by decide +kernel, by decide +kernel, rfl, fun h => absurd h (by decide +kernel), mm_cdF_of rfl mm_d203⟩
set_option maxRecDepth 100000 in
theorem mm_h204 : mm_hw 204 ∈ mm_TW := List.mem_filter.mpr ⟨mm_at9 (List.mem_of_getElem? (i := 94) rfl), rfl⟩
set_option maxRecDepth 100000 in
theorem mm_mf204 : mm_MFP 204 := ⟨mm_h204, mm_TW_of (i := 163) (by decide +kernel) rfl, fun _ => mm_TW_of (i := 2165) (by decide +kernel) rfl, fun h => absurd (show (mm_MT 204).2.2.2.2.1 = 1 from by decide +kernel) h, fun h => absurd h (by decide +kernel), by decide +kernel, by decide +kernel, by decide +kernel, rfl, fun h => absurd h (by decide +kernel), mm_cdF_of rfl mm_d204⟩
set_option maxRecDepth 100000 in
theorem mm_h205 : mm_hw 205 ∈ mm_TW := List.mem_filter.mpr ⟨mm_at9 (List.mem_of_getElem? (i := 129) rfl), rfl⟩
set_option maxRecDepth 100000 in
theorem mm_mf205 : mm_MFP 205 := ⟨mm_h205, mm_TW_of (i := 163) (by decide +kernel) rfl, fun _ => mm_TW_of (i := 2200) (by decide +kernel) rfl, fun h => absurd (show (mm_MT 205).2.2.2.2.1 = 1 from by decide +kernel) h, fun h => absurd h (by decide +kernel), by decide +kernel, by decide +kernel, by decide +kernel, rfl, fun h => absurd h (by decide +kernel), mm_cdF_of rfl mm_d205⟩
set_option maxRecDepth 100000 in
theorem mm_h206 : mm_hw 206 ∈ mm_TW := List.mem_filter.mpr ⟨mm_at9 (List.mem_of_getElem? (i := 101) rfl), rfl⟩
set_option maxRecDepth 100000 in
theorem mm_mf206 : mm_MFP 206 := ⟨mm_h206, mm_TW_of (i := 163) (by decide +kernel) rfl, fun _ => mm_TW_of (i := 2172) (by decide +kernel) rfl, fun h => absurd (show (mm_MT 206).2.2.2.2.1 = 1 from by decide +kernel) h, fun h => absurd h (by decide +kernel), by decide +kernel, by decide +kernel, by decide +kernel, rfl, fun h => absurd h (by decide +kernel), mm_cdF_of rfl mm_d206⟩
set_option maxRecDepth 100000 in
theorem mm_h207 : mm_hw 207 ∈ mm_TW := List.mem_filter.mpr ⟨mm_at9 (List.mem_of_getElem? (i := 104) rfl), rfl⟩
set_option maxRecDepth 100000 in
theorem mm_mf207 : mm_MFP 207 := ⟨mm_h207, mm_TW_of (i := 163) (by decide +kernel) rfl, fun _ => mm_TW_of (i := 2175) (by decide +kernel) rfl, fun h => absurd (show (mm_MT 207).2.2.2.2.1 = 1 from by decide +kernel) h, fun h => absurd h (by decide +kernel), by decide +kernel, by decide +kernel, by decide +kernel, rfl, fun h => absurd h (by decide +kernel), mm_cdF_of rfl mm_d207⟩
set_option maxRecDepth 100000 in
theorem mm_h208 : mm_hw 208 ∈ mm_TW := List.mem_filter.mpr ⟨mm_at9 (List.mem_of_getElem? (i := 90) rfl), rfl⟩
set_option maxRecDepth 100000 in
theorem mm_mf208 : mm_MFP 208 := ⟨mm_h208, mm_TW_of (i := 163) (by decide +kernel) rfl, fun _ => mm_TW_of (i := 2161) (by decide +kernel) rfl, fun h => absurd (show (mm_MT 208).2.2.2.2.1 = 1 from by decide +kernel) h, fun h => absurd h (by decide +kernel), by decide +kernel, by decide +kernel, by decide +kernel, rfl, fun h => absurd h (by decide +kernel), mm_cdF_of rfl mm_d208⟩
set_option maxRecDepth 100000 in
theorem mm_h209 : mm_hw 209 ∈ mm_TW := List.mem_filter.mpr ⟨mm_at10 (List.mem_of_getElem? (i := 24) rfl), rfl⟩
set_option maxRecDepth 100000 in
theorem mm_mf209 : mm_MFP 209 := ⟨mm_h209, mm_TW_of (i := 163) (by decide +kernel) rfl, fun _ => mm_TW_of (i := 2335) (by decide +kernel) rfl, fun h => absurd (show (mm_MT 209).2.2.2.2.1 = 1 from by decide +kernel) h, fun h => absurd h (by decide +kernel), by decide +kernel, by decide +kernel, by decide +kernel, rfl, fun h => absurd h (by decide +kernel), mm_cdF_of rfl mm_d209⟩
set_option maxRecDepth 100000 in
theorem mm_h210 : mm_hw 210 ∈ mm_TW := List.mem_filter.mpr ⟨mm_at9 (List.mem_of_getElem? (i := 112) rfl), rfl⟩
set_option maxRecDepth 100000 in
theorem mm_mf210 : mm_MFP 210 := ⟨mm_h210, mm_TW_of (i := 163) (by decide +kernel) rfl, fun h => absurd h (by decide +kernel), fun _ => mm_TW_of (i := 2183) (by decide +kernel) rfl, fun _ => mm_TW_of (i := 58) (by decide +kernel) rfl, by decide +kernel, by decide +kernel, by decide +kernel, rfl, fun h => absurd h (by decide +kernel), mm_cdF_of rfl mm_d210⟩
set_option maxRecDepth 100000 in
theorem mm_h211 : mm_hw 211 ∈ mm_TW := List.mem_filter.mpr ⟨mm_at9 (List.mem_of_getElem? (i := 115) rfl), rfl⟩
set_option maxRecDepth 100000 in
theorem mm_mf211 : mm_MFP 211 := ⟨mm_h211, mm_TW_of (i := 163) (by decide +kernel) rfl, fun _ => mm_TW_of (i := 2186) (by decide +kernel) rfl, fun h => absurd (show (mm_MT 211).2.2.2.2.1 = 1 from by decide +kernel) h, fun h => absurd h (by decide +kernel), by decide +kernel, by decide +kernel, by decide +kernel, rfl, fun h => absurd h (by decide +kernel), mm_cdF_of rfl mm_d211⟩
set_option maxRecDepth 100000 in
theorem mm_h212 : mm_hw 212 ∈ mm_TW := List.mem_filter.mpr ⟨mm_at9 (List.mem_of_getElem? (i := 120) rfl), rfl⟩
set_option maxRecDepth 100000 in
theorem mm_mf212 : mm_MFP 212 := ⟨mm_h212, mm_TW_of (i := 163) (by decide +kernel) rfl, fun h => absurd h (by decide +kernel), fun _ => mm_TW_of (i := 2191) (by decide +kernel) rfl, fun _ => mm_TW_of (i := 59) (by decide +kernel) rfl, by decide +kernel, by decide +kernel, by decide +kernel, rfl, fun h => absurd h (by decide +kernel), mm_cdF_of rfl mm_d212⟩
set_option maxRecDepth 100000 in
theorem mm_h213 : mm_hw 213 ∈ mm_TW := List.mem_filter.mpr ⟨mm_at9 (List.mem_of_getElem? (i := 98) rfl), rfl⟩
set_option maxRecDepth 100000 in
theorem mm_mf213 : mm_MFP 213 := ⟨mm_h213, mm_TW_of (i := 163) (by decide +kernel) rfl, fun h => absurd h (by decide +kernel), fun _ => mm_TW_of (i := 2169) (by decide +kernel) rfl, fun _ => mm_TW_of (i := 57) (by decide +kernel) rfl, by decide +kernel, by decide +kernel, by decide +kernel, rfl, fun h => absurd h (by decide +kernel), mm_cdF_of rfl mm_d213⟩
set_option maxRecDepth 100000 in
theorem mm_h214 : mm_hw 214 ∈ mm_TW := List.mem_filter.mpr ⟨mm_at9 (List.mem_of_getElem? (i := 87) rfl), rfl⟩
set_option maxRecDepth 100000 in
theorem mm_mf214 : mm_MFP 214 := ⟨mm_h214, mm_TW_of (i := 163) (by decide +kernel) rfl, fun h => absurd h (by decide +kernel), fun _ => mm_TW_of (i := 2157) (by decide +kernel) rfl, fun _ => mm_TW_of (i := 2158) (by decide +kernel) rfl, by decide +kernel, by decide +kernel, by decide +kernel, rfl, fun h => absurd h (by decide +kernel), mm_cdF_of rfl mm_d214⟩
set_option maxRecDepth 100000 in
theorem mm_h215 : mm_hw 215 ∈ mm_TW := List.mem_filter.mpr ⟨mm_at9 (List.mem_of_getElem? (i := 108) rfl), rfl⟩
set_option maxRecDepth 100000 in
theorem mm_mf215 : mm_MFP 215 := ⟨mm_h215, mm_TW_of (i := 163) (by decide +kernel) rfl, fun h => absurd h (by decide +kernel), fun _ => mm_TW_of (i := 2178) (by decide +kernel) rfl, fun _ => mm_TW_of (i := 2179) (by decide +kernel) rfl, by decide +kernel, by decide +kernel, by decide +kernel, rfl, fun h => absurd h (by decide +kernel), mm_cdF_of rfl mm_d215⟩
set_option maxRecDepth 100000 in
theorem mm_h216 : mm_hw 216 ∈ mm_TW := List.mem_filter.mpr ⟨mm_at9 (List.mem_of_getElem? (i := 124) rfl), rfl⟩
set_option maxRecDepth 100000 in
theorem mm_mf216 : mm_MFP 216 := ⟨mm_h216, mm_TW_of (i := 163) (by decide +kernel) rfl, fun h => absurd h (by decide +kernel), fun _ => mm_TW_of (i := 2194) (by decide +kernel) rfl, fun _ => mm_TW_of (i := 2195) (by decide +kernel) rfl, by decide +kernel, by decide +kernel, by decide +kernel, rfl, fun h => absurd h (by decide +kernel), mm_cdF_of rfl mm_d216⟩
set_option maxRecDepth 100000 in
theorem mm_h217 : mm_hw 217 ∈ mm_TW := List.mem_filter.mpr ⟨mm_at9 (List.mem_of_getElem? (i := 133) rfl), rfl⟩
set_option maxRecDepth 100000 in
theorem mm_mf217 : mm_MFP 217 := ⟨mm_h217, mm_TW_of (i := 163) (by decide +kernel) rfl, fun h => absurd h (by decide +kernel), fun _ => mm_TW_of (i := 2203) (by decide +kernel) rfl, fun _ => mm_TW_of (i := 2204) (by decide +kernel) rfl, by decide +kernel, by decide +kernel, by decide +kernel, rfl, fun h => absurd h (by decide +kernel), mm_cdF_of rfl mm_d217⟩
set_option maxRecDepth 100000 in
theorem mm_h218 : mm_hw 218 ∈ mm_TW := List.mem_filter.mpr ⟨mm_at9 (List.mem_of_getElem? (i := 143) rfl), rfl⟩
set_option maxRecDepth 100000 in
theorem mm_mf218 : mm_MFP 218 := ⟨mm_h218, mm_TW_of (i := 163) (by decide +kernel) rfl, fun h => absurd h (by decide +kernel), fun _ => mm_TW_of (i := 2214) (by decide +kernel) rfl, fun _ => mm_TW_of (i := 60) (by decide +kernel) rfl, by decide +kernel, by decide +kernel, by decide +kernel, rfl, fun h => absurd h (by decide +kernel), mm_cdF_of rfl mm_d218⟩
set_option maxRecDepth 100000 in
theorem mm_h219 : mm_hw 219 ∈ mm_TW := List.mem_filter.mpr ⟨mm_at9 (List.mem_of_getElem? (i := 139) rfl), rfl⟩
set_option maxRecDepth 100000 in
theorem mm_mf219 : mm_MFP 219 := ⟨mm_h219, mm_TW_of (i := 163) (by decide +kernel) rfl, fun h => absurd h (by decide +kernel), fun _ => mm_TW_of (i := 2209) (by decide +kernel) rfl, fun _ => mm_TW_of (i := 2210) (by decide +kernel) rfl, by decide +kernel, by decide +kernel, by decide +kernel, rfl, fun h => absurd h (by decide +kernel), mm_cdF_of rfl mm_d219⟩
set_option maxRecDepth 100000 in
theorem mm_h220 : mm_hw 220 ∈ mm_TW := List.mem_filter.mpr ⟨mm_at9 (List.mem_of_getElem? (i := 147) rfl), rfl⟩
set_option maxRecDepth 100000 in
theorem mm_mf220 : mm_MFP 220 := ⟨mm_h220, mm_TW_of (i := 163) (by decide +kernel) rfl, fun h => absurd h (by decide +kernel), fun _ => mm_TW_of (i := 2217) (by decide +kernel) rfl, fun _ => mm_TW_of (i := 2218) (by decide +kernel) rfl, by decide +kernel, by decide +kernel, by decide +kernel, rfl, fun h => absurd h (by decide +kernel), mm_cdF_of rfl mm_d220⟩
set_option maxRecDepth 100000 in
theorem mm_h221 : mm_hw 221 ∈ mm_TW := List.mem_filter.mpr ⟨mm_at9 (List.mem_of_getElem? (i := 151) rfl), rfl⟩
set_option maxRecDepth 100000 in
theorem mm_mf221 : mm_MFP 221 := ⟨mm_h221, mm_TW_of (i := 163) (by decide +kernel) rfl, fun h => absurd h (by decide +kernel), fun _ => mm_TW_of (i := 2221) (by decide +kernel) rfl, fun _ => mm_TW_of (i := 2222) (by decide +kernel) rfl, by decide +kernel, by decide +kernel, by decide +kernel, rfl, fun h => absurd h (by decide +kernel), mm_cdF_of rfl mm_d221⟩
set_option maxRecDepth 100000 in
theorem mm_h222 : mm_hw 222 ∈ mm_TW := List.mem_filter.mpr ⟨mm_at9 (List.mem_of_getElem? (i := 155) rfl), rfl⟩
set_option maxRecDepth 100000 in
theorem mm_mf222 : mm_MFP 222 := ⟨mm_h222, mm_TW_of (i := 163) (by decide +kernel) rfl, fun h => absurd h (by decide +kernel), fun _ => mm_TW_of (i := 2225) (by decide +kernel) rfl, fun _ => mm_TW_of (i := 2226) (by decide +kernel) rfl, by decide +kernel, by decide +kernel, by decide +kernel, rfl, fun h => absurd h (by decide +kernel), mm_cdF_of rfl mm_d222⟩
set_option maxRecDepth 100000 in
theorem mm_h223 : mm_hw 223 ∈ mm_TW := List.mem_filter.mpr ⟨mm_at9 (List.mem_of_getElem? (i := 159) rfl), rfl⟩
set_option maxRecDepth 100000 in
theorem mm_mf223 : mm_MFP 223 := ⟨mm_h223, mm_TW_of (i := 163) (by decide +kernel) rfl, fun h => absurd h (by decide +kernel), fun _ => mm_TW_of (i := 2229) (by decide +kernel) rfl, fun _ => mm_TW_of (i := 2230) (by decide +kernel) rfl, by decide +kernel, by decide +kernel, by decide +kernel, rfl, fun h => absurd h (by decide +kernel), mm_cdF_of rfl mm_d223⟩
set_option maxRecDepth 100000 in
theorem mm_h224 : mm_hw 224 ∈ mm_TW := List.mem_filter.mpr ⟨mm_at9 (List.mem_of_getElem? (i := 164) rfl), rfl⟩
set_option maxRecDepth 100000 in
theorem mm_mf224 : mm_MFP 224 := ⟨mm_h224, mm_TW_of (i := 163) (by decide +kernel) rfl, fun h => absurd h (by decide +kernel), fun _ => mm_TW_of (i := 2234) (by decide +kernel) rfl, fun _ => mm_TW_of (i := 2235) (by decide +kernel) rfl, by decide +kernel, by decide +kernel, by decide +kernel, rfl, fun h => absurd h (by decide +kernel), mm_cdF_of rfl mm_d224⟩
set_option maxRecDepth 100000 in
theorem mm_h225 : mm_hw 225 ∈ mm_TW := List.mem_filter.mpr ⟨mm_at9 (List.mem_of_getElem? (i := 168) rfl), rfl⟩
set_option maxRecDepth 100000 in
theorem mm_mf225 : mm_MFP 225 := ⟨mm_h225, mm_TW_of (i := 163) (by decide +kernel) rfl, fun h => absurd h (by decide +kernel), fun _ => mm_TW_of (i := 2238) (by decide +kernel) rfl, fun _ => mm_TW_of (i := 2239) (by decide +kernel) rfl, by decide +kernel, by decide +kernel, by decide +kernel, rfl, fun h => absurd h (by decide +kernel), mm_cdF_of rfl mm_d225⟩
set_option maxRecDepth 100000 in
theorem mm_h226 : mm_hw 226 ∈ mm_TW := List.mem_filter.mpr ⟨mm_at9 (List.mem_of_getElem? (i := 172) rfl), rfl⟩
set_option maxRecDepth 100000 in
theorem mm_mf226 : mm_MFP 226 := ⟨mm_h226, mm_TW_of (i := 163) (by decide +kernel) rfl, fun h => absurd h (by decide +kernel), fun _ => mm_TW_of (i := 2242) (by decide +kernel) rfl, fun _ => mm_TW_of (i := 2243) (by decide +kernel) rfl, by decide +kernel, by decide +kernel, by decide +kernel, rfl, fun h => absurd h (by decide +kernel), mm_cdF_of rfl mm_d226⟩
set_option maxRecDepth 100000 in
theorem mm_h227 : mm_hw 227 ∈ mm_TW := List.mem_filter.mpr ⟨mm_at10 (List.mem_of_getElem? (i := 209) rfl), rfl⟩
set_option maxRecDepth 100000 in
theorem mm_mf227 : mm_MFP 227 := ⟨mm_h227, mm_TW_of (i := 163) (by decide +kernel) rfl, fun h => absurd h (by decide +kernel), fun _ => mm_TW_of (i := 2520) (by decide +kernel) rfl, fun _ => mm_TW_of (i := 114) (by decide +kernel) rfl, by decide +kernel, by decide +kernel, by decide +kernel, rfl, fun h => absurd h (by decide +kernel), mm_cdF_of rfl mm_d227⟩
set_option maxRecDepth 100000 in
theorem mm_h228 : mm_hw 228 ∈ mm_TW := List.mem_filter.mpr ⟨mm_at11 (List.mem_of_getElem? (i := 23) rfl), rfl⟩
set_option maxRecDepth 100000 in
theorem mm_mf228 : mm_MFP 228 := ⟨mm_h228, mm_TW_of (i := 163) (by decide +kernel) rfl, fun h => absurd h (by decide +kernel), fun _ => mm_TW_of (i := 2574) (by decide +kernel) rfl, fun _ => mm_TW_of (i := 127) (by decide +kernel) rfl, by decide +kernel, by decide +kernel, by decide +kernel, rfl, fun h => absurd h (by decide +kernel), mm_cdF_of rfl mm_d228⟩
set_option maxRecDepth 100000 in
theorem mm_h229 : mm_hw 229 ∈ mm_TW := List.mem_filter.mpr ⟨mm_at10 (List.mem_of_getElem? (i := 205) rfl), rfl⟩
set_option maxRecDepth 100000 in
theorem mm_mf229 : mm_MFP 229 := ⟨mm_h229, mm_TW_of (i := 163) (by decide +kernel) rfl, fun h => absurd h (by decide +kernel), fun _ => mm_TW_of (i := 2516) (by decide +kernel) rfl, fun _ => mm_TW_of (i := 113) (by decide +kernel) rfl, by decide +kernel, by decide +kernel, by decide +kernel, rfl, fun h => absurd h (by decide +kernel), mm_cdF_of rfl mm_d229⟩
set_option maxRecDepth 100000 in
theorem mm_h230 : mm_hw 230 ∈ mm_TW := List.mem_filter.mpr ⟨mm_at10 (List.mem_of_getElem? (i := 221) rfl), rfl⟩
set_option maxRecDepth 100000 in
theorem mm_mf230 : mm_MFP 230 := ⟨mm_h230, mm_TW_of (i := 163) (by decide +kernel) rfl, fun h => absurd h (by decide +kernel), fun _ => mm_TW_of (i := 2532) (by decide +kernel) rfl, fun _ => mm_TW_of (i := 117) (by decide +kernel) rfl, by decide +kernel, by decide +kernel, by decide +kernel, rfl, fun h => absurd h (by decide +kernel), mm_cdF_of rfl mm_d230⟩
set_option maxRecDepth 100000 in
theorem mm_h231 : mm_hw 231 ∈ mm_TW := List.mem_filter.mpr ⟨mm_at10 (List.mem_of_getElem? (i := 213) rfl), rfl⟩
set_option maxRecDepth 100000 in
theorem mm_mf231 : mm_MFP 231 := ⟨mm_h231, mm_TW_of (i := 163) (by decide +kernel) rfl, fun h => absurd h (by decide +kernel), fun _ => mm_TW_of (i := 2524) (by decide +kernel) rfl, fun _ => mm_TW_of (i := 115) (by decide +kernel) rfl, by decide +kernel, by decide +kernel, by decide +kernel, rfl, fun h => absurd h (by decide +kernel), mm_cdF_of rfl mm_d231⟩
set_option maxRecDepth 100000 in
theorem mm_h232 : mm_hw 232 ∈ mm_TW := List.mem_filter.mpr ⟨mm_at10 (List.mem_of_getElem? (i := 54) rfl), rfl⟩
set_option maxRecDepth 100000 in
theorem mm_mf232 : mm_MFP 232 := ⟨mm_h232, mm_TW_of (i := 163) (by decide +kernel) rfl, fun h => absurd h (by decide +kernel), fun _ => mm_TW_of (i := 2365) (by decide +kernel) rfl, fun _ => mm_TW_of (i := 80) (by decide +kernel) rfl, by decide +kernel, by decide +kernel, by decide +kernel, rfl, fun h => absurd h (by decide +kernel), mm_cdF_of rfl mm_d232⟩
set_option maxRecDepth 100000 in
theorem mm_h233 : mm_hw 233 ∈ mm_TW := List.mem_filter.mpr ⟨mm_at10 (List.mem_of_getElem? (i := 13) rfl), rfl⟩
set_option maxRecDepth 100000 in
theorem mm_mf233 : mm_MFP 233 := ⟨mm_h233, mm_TW_of (i := 163) (by decide +kernel) rfl, fun _ => mm_TW_of (i := 2324) (by decide +kernel) rfl, fun h => absurd (show (mm_MT 233).2.2.2.2.1 = 1 from by decide +kernel) h, fun h => absurd h (by decide +kernel), by decide +kernel, by decide +kernel, by decide +kernel, rfl, fun h => absurd h (by decide +kernel), mm_cdF_of rfl mm_d233⟩
set_option maxRecDepth 100000 in
theorem mm_h234 : mm_hw 234 ∈ mm_TW := List.mem_filter.mpr ⟨mm_at10 (List.mem_of_getElem? (i := 50) rfl), rfl⟩
set_option maxRecDepth 100000 in
theorem mm_mf234 : mm_MFP 234 := ⟨mm_h234, mm_TW_of (i := 163) (by decide +kernel) rfl, fun h => absurd h (by decide +kernel), fun _ => mm_TW_of (i := 2361) (by decide +kernel) rfl, fun _ => mm_TW_of (i := 79) (by decide +kernel) rfl, by decide +kernel, by decide +kernel, by decide +kernel, rfl, fun h => absurd h (by decide +kernel), mm_cdF_of rfl mm_d234⟩
set_option maxRecDepth 100000 in
theorem mm_h235 : mm_hw 235 ∈ mm_TW := List.mem_filter.mpr ⟨mm_at10 (List.mem_of_getElem? (i := 10) rfl), rfl⟩
set_option maxRecDepth 100000 in
theorem mm_mf235 : mm_MFP 235 := ⟨mm_h235, mm_TW_of (i := 163) (by decide +kernel) rfl, fun _ => mm_TW_of (i := 2321) (by decide +kernel) rfl, fun h => absurd (show (mm_MT 235).2.2.2.2.1 = 1 from by decide +kernel) h, fun h => absurd h (by decide +kernel), by decide +kernel, by decide +kernel, by decide +kernel, rfl, fun h => absurd h (by decide +kernel), mm_cdF_of rfl mm_d235⟩
set_option maxRecDepth 100000 in
theorem mm_h236 : mm_hw 236 ∈ mm_TW := List.mem_filter.mpr ⟨mm_at10 (List.mem_of_getElem? (i := 7) rfl), rfl⟩
set_option maxRecDepth 100000 in
theorem mm_mf236 : mm_MFP 236 := ⟨mm_h236, mm_TW_of (i := 163) (by decide +kernel) rfl, fun _ => mm_TW_of (i := 2318) (by decide +kernel) rfl, fun h => absurd (show (mm_MT 236).2.2.2.2.1 = 1 from by decide +kernel) h, fun h => absurd h (by decide +kernel), by decide +kernel, by decide +kernel, by decide +kernel, rfl, fun h => absurd h (by decide +kernel), mm_cdF_of rfl mm_d236⟩
