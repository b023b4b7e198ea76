set_option maxRecDepth 100000 in
theorem mm_h202e : mm_hw 202 = Jvm.Cond.code yX12_init prog_14_method_1_code 2 none := rfl
set_option maxRecDepth 100000 in
theorem mm_h202m : Jvm.Cond.code yX12_init prog_14_method_1_code 2 none ∈ tables_1_7 := List.mem_of_getElem? (i := 205) rfl
theorem mm_h202t : Jvm.Cond.code yX12_init prog_14_method_1_code 2 none ∈ lw_tbl := List.mem_append_right _ (List.mem_append_right _ (List.mem_append_right _ (List.mem_append_right _ (List.mem_append_right _ (List.mem_append_right _ (List.mem_append_right _ (List.mem_append_left _ mm_h202m)))))))
theorem mm_h202 : mm_hw 202 ∈ mm_TW := by
  rw [mm_h202e]
  exact List.mem_filter.mpr ⟨mm_h202t, rfl⟩
set_option maxRecDepth 100000 in
theorem mm_mf202 : mm_MFP 202 := ⟨mm_h202, mm_TW_of (i := 163) (by decide +kernel) rfl, fun h => absurd h (by decide +kernel), fun _ => mm_TW_of (i := 1796) (by decide +kernel) rfl, fun h => absurd h (by decide +kernel), by decide +kernel, by decide +kernel, by decide +kernel, rfl, fun _ => rfl, mm_cdF_of rfl mm_d202⟩
