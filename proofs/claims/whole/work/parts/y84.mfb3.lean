set_option maxRecDepth 100000 in
theorem mm_mf202 : mm_MFP 202 := ⟨mm_TW_of (i := 1797) (by decide +kernel) rfl, mm_TW_of (i := 163) (by decide +kernel) rfl, fun h => absurd h (by decide +kernel), fun _ => mm_TW_of (i := 1796) (by decide +kernel) rfl, fun h => absurd h (by decide +kernel), by decide +kernel, by decide +kernel, by decide +kernel, rfl, fun _ => rfl, mm_cdF_of rfl mm_d202⟩
