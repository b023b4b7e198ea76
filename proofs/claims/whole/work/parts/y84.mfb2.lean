set_option maxRecDepth 100000 in
theorem mm_h175 : mm_hw 175 ∈ mm_TW := List.mem_filter.mpr ⟨mm_at7 (List.mem_of_getElem? (i := 113) rfl), rfl⟩
set_option maxRecDepth 100000 in
theorem mm_mf175 : mm_MFP 175 := ⟨mm_h175, mm_TW_of (i := 153) (by decide +kernel) rfl, fun h => absurd h (by decide +kernel), fun _ => mm_TW_of (i := 1703) (by decide +kernel) rfl, fun _ => mm_TW_of (i := 1704) (by decide +kernel) rfl, by decide +kernel, by decide +kernel, by decide +kernel, rfl, fun h => absurd h (by decide +kernel), mm_cdF_of rfl mm_d175⟩
set_option maxRecDepth 100000 in
theorem mm_h176 : mm_hw 176 ∈ mm_TW := List.mem_filter.mpr ⟨mm_at7 (List.mem_of_getElem? (i := 132) rfl), rfl⟩
set_option maxRecDepth 100000 in
theorem mm_mf176 : mm_MFP 176 := ⟨mm_h176, mm_TW_of (i := 153) (by decide +kernel) rfl, fun h => absurd h (by decide +kernel), fun _ => mm_TW_of (i := 1722) (by decide +kernel) rfl, fun _ => mm_TW_of (i := 1723) (by decide +kernel) rfl, by decide +kernel, by decide +kernel, by decide +kernel, rfl, fun h => absurd h (by decide +kernel), mm_cdF_of rfl mm_d176⟩
set_option maxRecDepth 100000 in
theorem mm_h177 : mm_hw 177 ∈ mm_TW := List.mem_filter.mpr ⟨mm_at7 (List.mem_of_getElem? (i := 166) rfl), rfl⟩
set_option maxRecDepth 100000 in
theorem mm_mf177 : mm_MFP 177 := ⟨mm_h177, mm_TW_of (i := 153) (by decide +kernel) rfl, fun h => absurd h (by decide +kernel), fun _ => mm_TW_of (i := 1756) (by decide +kernel) rfl, fun _ => mm_TW_of (i := 1757) (by decide +kernel) rfl, by decide +kernel, by decide +kernel, by decide +kernel, rfl, fun h => absurd h (by decide +kernel), mm_cdF_of rfl mm_d177⟩
set_option maxRecDepth 100000 in
theorem mm_h178 : mm_hw 178 ∈ mm_TW := List.mem_filter.mpr ⟨mm_at7 (List.mem_of_getElem? (i := 173) rfl), rfl⟩
set_option maxRecDepth 100000 in
theorem mm_mf178 : mm_MFP 178 := ⟨mm_h178, mm_TW_of (i := 153) (by decide +kernel) rfl, fun h => absurd h (by decide +kernel), fun _ => mm_TW_of (i := 1763) (by decide +kernel) rfl, fun _ => mm_TW_of (i := 1764) (by decide +kernel) rfl, by decide +kernel, by decide +kernel, by decide +kernel, rfl, fun h => absurd h (by decide +kernel), mm_cdF_of rfl mm_d178⟩
set_option maxRecDepth 100000 in
theorem mm_h179 : mm_hw 179 ∈ mm_TW := List.mem_filter.mpr ⟨mm_at7 (List.mem_of_getElem? (i := 185) rfl), rfl⟩
set_option maxRecDepth 100000 in
theorem mm_mf179 : mm_MFP 179 := ⟨mm_h179, mm_TW_of (i := 153) (by decide +kernel) rfl, fun h => absurd h (by decide +kernel), fun _ => mm_TW_of (i := 1775) (by decide +kernel) rfl, fun _ => mm_TW_of (i := 1776) (by decide +kernel) rfl, by decide +kernel, by decide +kernel, by decide +kernel, rfl, fun h => absurd h (by decide +kernel), mm_cdF_of rfl mm_d179⟩
set_option maxRecDepth 100000 in
theorem mm_h180 : mm_hw 180 ∈ mm_TW := List.mem_filter.mpr ⟨mm_at7 (List.mem_of_getElem? (i := 192) rfl), rfl⟩
set_option maxRecDepth 100000 in
theorem mm_mf180 : mm_MFP 180 := ⟨mm_h180, mm_TW_of (i := 153) (by decide +kernel) rfl, fun h => absurd h (by decide +kernel), fun _ => mm_TW_of (i := 1782) (by decide +kernel) rfl, fun _ => mm_TW_of (i := 1783) (by decide +kernel) rfl, by decide +kernel, by decide +kernel, by decide +kernel, rfl, fun h => absurd h (by decide +kernel), mm_cdF_of rfl mm_d180⟩
set_option maxRecDepth 100000 in
theorem mm_h181 : mm_hw 181 ∈ mm_TW := List.mem_filter.mpr ⟨mm_at7 (List.mem_of_getElem? (i := 200) rfl), rfl⟩
set_option maxRecDepth 100000 in
theorem mm_mf181 : mm_MFP 181 := ⟨mm_h181, mm_TW_of (i := 153) (by decide +kernel) rfl, fun h => absurd h (by decide +kernel), fun _ => mm_TW_of (i := 1790) (by decide +kernel) rfl, fun _ => mm_TW_of (i := 1791) (by decide +kernel) rfl, by decide +kernel, by decide +kernel, by decide +kernel, rfl, fun h => absurd h (by decide +kernel), mm_cdF_of rfl mm_d181⟩
set_option maxRecDepth 100000 in
theorem mm_h182 : mm_hw 182 ∈ mm_TW := List.mem_filter.mpr ⟨mm_at3 (List.mem_of_getElem? (i := 43) rfl), rfl⟩
set_option maxRecDepth 100000 in
theorem mm_mf182 : mm_MFP 182 := ⟨mm_h182, mm_TW_of (i := 153) (by decide +kernel) rfl, fun _ => mm_TW_of (i := 674) (by decide +kernel) rfl, fun h => absurd (show (mm_MT 182).2.2.2.2.1 = 1 from by decide +kernel) h, fun h => absurd h (by decide +kernel), by decide +kernel, by decide +kernel, by decide +kernel, rfl, fun h => absurd h (by decide +kernel), mm_cdF_of rfl mm_d182⟩
set_option maxRecDepth 100000 in
theorem mm_h183 : mm_hw 183 ∈ mm_TW := List.mem_filter.mpr ⟨mm_at4 (List.mem_of_getElem? (i := 1) rfl), rfl⟩
set_option maxRecDepth 100000 in
theorem mm_mf183 : mm_MFP 183 := ⟨mm_h183, mm_TW_of (i := 153) (by decide +kernel) rfl, fun _ => mm_TW_of (i := 872) (by decide +kernel) rfl, fun h => absurd (show (mm_MT 183).2.2.2.2.1 = 1 from by decide +kernel) h, fun h => absurd h (by decide +kernel), by decide +kernel, by decide +kernel, by decide +kernel, rfl, fun h => absurd h (by decide +kernel), mm_cdF_of rfl mm_d183⟩
set_option maxRecDepth 100000 in
theorem mm_h184 : mm_hw 184 ∈ mm_TW := List.mem_filter.mpr ⟨mm_at3 (List.mem_of_getElem? (i := 113) rfl), rfl⟩
set_option maxRecDepth 100000 in
theorem mm_mf184 : mm_MFP 184 := ⟨mm_h184, mm_TW_of (i := 153) (by decide +kernel) rfl, fun _ => mm_TW_of (i := 744) (by decide +kernel) rfl, fun h => absurd (show (mm_MT 184).2.2.2.2.1 = 1 from by decide +kernel) h, fun h => absurd h (by decide +kernel), by decide +kernel, by decide +kernel, by decide +kernel, rfl, fun h => absurd h (by decide +kernel), mm_cdF_of rfl mm_d184⟩
set_option maxRecDepth 100000 in
theorem mm_h185 : mm_hw 185 ∈ mm_TW := List.mem_filter.mpr ⟨mm_at4 (List.mem_of_getElem? (i := 41) rfl), rfl⟩
set_option maxRecDepth 100000 in
theorem mm_mf185 : mm_MFP 185 := ⟨mm_h185, mm_TW_of (i := 153) (by decide +kernel) rfl, fun _ => mm_TW_of (i := 912) (by decide +kernel) rfl, fun h => absurd (show (mm_MT 185).2.2.2.2.1 = 1 from by decide +kernel) h, fun h => absurd h (by decide +kernel), by decide +kernel, by decide +kernel, by decide +kernel, rfl, fun h => absurd h (by decide +kernel), mm_cdF_of rfl mm_d185⟩
set_option maxRecDepth 100000 in
theorem mm_h186 : mm_hw 186 ∈ mm_TW := List.mem_filter.mpr ⟨mm_at3 (List.mem_of_getElem? (i := 217) rfl), rfl⟩
set_option maxRecDepth 100000 in
theorem mm_mf186 : mm_MFP 186 := ⟨mm_h186, mm_TW_of (i := 153) (by decide +kernel) rfl, fun _ => mm_TW_of (i := 848) (by decide +kernel) rfl, fun h => absurd (show (mm_MT 186).2.2.2.2.1 = 1 from by decide +kernel) h, fun h => absurd h (by decide +kernel), by decide +kernel, by decide +kernel, by decide +kernel, rfl, fun h => absurd h (by decide +kernel), mm_cdF_of rfl mm_d186⟩
set_option maxRecDepth 100000 in
theorem mm_h187 : mm_hw 187 ∈ mm_TW := List.mem_filter.mpr ⟨mm_at6 (List.mem_of_getElem? (i := 92) rfl), rfl⟩
set_option maxRecDepth 100000 in
theorem mm_mf187 : mm_MFP 187 := ⟨mm_h187, mm_TW_of (i := 153) (by decide +kernel) rfl, fun _ => mm_TW_of (i := 1443) (by decide +kernel) rfl, fun h => absurd (show (mm_MT 187).2.2.2.2.1 = 1 from by decide +kernel) h, fun h => absurd h (by decide +kernel), by decide +kernel, by decide +kernel, by decide +kernel, rfl, fun h => absurd h (by decide +kernel), mm_cdF_of rfl mm_d187⟩
set_option maxRecDepth 100000 in
theorem mm_h188 : mm_hw 188 ∈ mm_TW := List.mem_filter.mpr ⟨mm_at6 (List.mem_of_getElem? (i := 121) rfl), rfl⟩
set_option maxRecDepth 100000 in
theorem mm_mf188 : mm_MFP 188 := ⟨mm_h188, mm_TW_of (i := 153) (by decide +kernel) rfl, fun _ => mm_TW_of (i := 1472) (by decide +kernel) rfl, fun h => absurd (show (mm_MT 188).2.2.2.2.1 = 1 from by decide +kernel) h, fun h => absurd h (by decide +kernel), by decide +kernel, by decide +kernel, by decide +kernel, rfl, fun h => absurd h (by decide +kernel), mm_cdF_of rfl mm_d188⟩
set_option maxRecDepth 100000 in
theorem mm_h189 : mm_hw 189 ∈ mm_TW := List.mem_filter.mpr ⟨mm_at6 (List.mem_of_getElem? (i := 103) rfl), rfl⟩
set_option maxRecDepth 100000 in
theorem mm_mf189 : mm_MFP 189 := ⟨mm_h189, mm_TW_of (i := 153) (by decide +kernel) rfl, fun _ => mm_TW_of (i := 1454) (by decide +kernel) rfl, fun h => absurd (show (mm_MT 189).2.2.2.2.1 = 1 from by decide +kernel) h, fun h => absurd h (by decide +kernel), by decide +kernel, by decide +kernel, by decide +kernel, rfl, fun h => absurd h (by decide +kernel), mm_cdF_of rfl mm_d189⟩
set_option maxRecDepth 100000 in
theorem mm_h190 : mm_hw 190 ∈ mm_TW := List.mem_filter.mpr ⟨mm_at7 (List.mem_of_getElem? (i := 139) rfl), rfl⟩
set_option maxRecDepth 100000 in
theorem mm_mf190 : mm_MFP 190 := ⟨mm_h190, mm_TW_of (i := 153) (by decide +kernel) rfl, fun _ => mm_TW_of (i := 1730) (by decide +kernel) rfl, fun h => absurd (show (mm_MT 190).2.2.2.2.1 = 1 from by decide +kernel) h, fun h => absurd h (by decide +kernel), by decide +kernel, by decide +kernel, by decide +kernel, rfl, fun h => absurd h (by decide +kernel), mm_cdF_of rfl mm_d190⟩
set_option maxRecDepth 100000 in
theorem mm_h191 : mm_hw 191 ∈ mm_TW := List.mem_filter.mpr ⟨mm_at4 (List.mem_of_getElem? (i := 23) rfl), rfl⟩
set_option maxRecDepth 100000 in
theorem mm_mf191 : mm_MFP 191 := ⟨mm_h191, mm_TW_of (i := 153) (by decide +kernel) rfl, fun _ => mm_TW_of (i := 894) (by decide +kernel) rfl, fun h => absurd (show (mm_MT 191).2.2.2.2.1 = 1 from by decide +kernel) h, fun h => absurd h (by decide +kernel), by decide +kernel, by decide +kernel, by decide +kernel, rfl, fun h => absurd h (by decide +kernel), mm_cdF_of rfl mm_d191⟩
set_option maxRecDepth 100000 in
theorem mm_h192 : mm_hw 192 ∈ mm_TW := List.mem_filter.mpr ⟨mm_at6 (List.mem_of_getElem? (i := 118) rfl), rfl⟩
set_option maxRecDepth 100000 in
theorem mm_mf192 : mm_MFP 192 := ⟨mm_h192, mm_TW_of (i := 153) (by decide +kernel) rfl, fun _ => mm_TW_of (i := 1469) (by decide +kernel) rfl, fun h => absurd (show (mm_MT 192).2.2.2.2.1 = 1 from by decide +kernel) h, fun h => absurd h (by decide +kernel), by decide +kernel, by decide +kernel, by decide +kernel, rfl, fun h => absurd h (by decide +kernel), mm_cdF_of rfl mm_d192⟩
set_option maxRecDepth 100000 in
theorem mm_h193 : mm_hw 193 ∈ mm_TW := List.mem_filter.mpr ⟨mm_at3 (List.mem_of_getElem? (i := 198) rfl), rfl⟩
set_option maxRecDepth 100000 in
theorem mm_mf193 : mm_MFP 193 := ⟨mm_h193, mm_TW_of (i := 153) (by decide +kernel) rfl, fun h => absurd h (by decide +kernel), fun _ => mm_TW_of (i := 829) (by decide +kernel) rfl, fun _ => mm_TW_of (i := 2) (by decide +kernel) rfl, by decide +kernel, by decide +kernel, by decide +kernel, rfl, fun h => absurd h (by decide +kernel), mm_cdF_of rfl mm_d193⟩
set_option maxRecDepth 100000 in
theorem mm_h194 : mm_hw 194 ∈ mm_TW := List.mem_filter.mpr ⟨mm_at3 (List.mem_of_getElem? (i := 118) rfl), rfl⟩
set_option maxRecDepth 100000 in
theorem mm_mf194 : mm_MFP 194 := ⟨mm_h194, mm_TW_of (i := 153) (by decide +kernel) rfl, fun h => absurd h (by decide +kernel), fun _ => mm_TW_of (i := 749) (by decide +kernel) rfl, fun _ => mm_TW_of (i := 1) (by decide +kernel) rfl, by decide +kernel, by decide +kernel, by decide +kernel, rfl, fun h => absurd h (by decide +kernel), mm_cdF_of rfl mm_d194⟩
set_option maxRecDepth 100000 in
theorem mm_h195 : mm_hw 195 ∈ mm_TW := List.mem_filter.mpr ⟨mm_at6 (List.mem_of_getElem? (i := 65) rfl), rfl⟩
set_option maxRecDepth 100000 in
theorem mm_mf195 : mm_MFP 195 := ⟨mm_h195, mm_TW_of (i := 153) (by decide +kernel) rfl, fun h => absurd h (by decide +kernel), fun _ => mm_TW_of (i := 1416) (by decide +kernel) rfl, fun _ => mm_TW_of (i := 39) (by decide +kernel) rfl, by decide +kernel, by decide +kernel, by decide +kernel, rfl, fun h => absurd h (by decide +kernel), mm_cdF_of rfl mm_d195⟩
set_option maxRecDepth 100000 in
theorem mm_h196 : mm_hw 196 ∈ mm_TW := List.mem_filter.mpr ⟨mm_at4 (List.mem_of_getElem? (i := 119) rfl), rfl⟩
set_option maxRecDepth 100000 in
theorem mm_mf196 : mm_MFP 196 := ⟨mm_h196, mm_TW_of (i := 153) (by decide +kernel) rfl, fun h => absurd h (by decide +kernel), fun _ => mm_TW_of (i := 990) (by decide +kernel) rfl, fun _ => mm_TW_of (i := 3) (by decide +kernel) rfl, by decide +kernel, by decide +kernel, by decide +kernel, rfl, fun h => absurd h (by decide +kernel), mm_cdF_of rfl mm_d196⟩
set_option maxRecDepth 100000 in
theorem mm_h197 : mm_hw 197 ∈ mm_TW := List.mem_filter.mpr ⟨mm_at5 (List.mem_of_getElem? (i := 147) rfl), rfl⟩
set_option maxRecDepth 100000 in
theorem mm_mf197 : mm_MFP 197 := ⟨mm_h197, mm_TW_of (i := 153) (by decide +kernel) rfl, fun h => absurd h (by decide +kernel), fun _ => mm_TW_of (i := 1258) (by decide +kernel) rfl, fun _ => mm_TW_of (i := 22) (by decide +kernel) rfl, by decide +kernel, by decide +kernel, by decide +kernel, rfl, fun h => absurd h (by decide +kernel), mm_cdF_of rfl mm_d197⟩
set_option maxRecDepth 100000 in
theorem mm_h198 : mm_hw 198 ∈ mm_TW := List.mem_filter.mpr ⟨mm_at6 (List.mem_of_getElem? (i := 169) rfl), rfl⟩
set_option maxRecDepth 100000 in
theorem mm_mf198 : mm_MFP 198 := ⟨mm_h198, mm_TW_of (i := 153) (by decide +kernel) rfl, fun h => absurd h (by decide +kernel), fun _ => mm_TW_of (i := 1520) (by decide +kernel) rfl, fun _ => mm_TW_of (i := 41) (by decide +kernel) rfl, by decide +kernel, by decide +kernel, by decide +kernel, rfl, fun h => absurd h (by decide +kernel), mm_cdF_of rfl mm_d198⟩
set_option maxRecDepth 100000 in
theorem mm_h199 : mm_hw 199 ∈ mm_TW := List.mem_filter.mpr ⟨mm_at6 (List.mem_of_getElem? (i := 165) rfl), rfl⟩
set_option maxRecDepth 100000 in
theorem mm_mf199 : mm_MFP 199 := ⟨mm_h199, mm_TW_of (i := 153) (by decide +kernel) rfl, fun h => absurd h (by decide +kernel), fun _ => mm_TW_of (i := 1516) (by decide +kernel) rfl, fun _ => mm_TW_of (i := 40) (by decide +kernel) rfl, by decide +kernel, by decide +kernel, by decide +kernel, rfl, fun h => absurd h (by decide +kernel), mm_cdF_of rfl mm_d199⟩
set_option maxRecDepth 100000 in
theorem mm_h200 : mm_hw 200 ∈ mm_TW := List.mem_filter.mpr ⟨mm_at7 (List.mem_of_getElem? (i := 117) rfl), rfl⟩
set_option maxRecDepth 100000 in
theorem mm_mf200 : mm_MFP 200 := ⟨mm_h200, mm_TW_of (i := 153) (by decide +kernel) rfl, fun h => absurd h (by decide +kernel), fun _ => mm_TW_of (i := 1708) (by decide +kernel) rfl, fun _ => mm_TW_of (i := 55) (by decide +kernel) rfl, by decide +kernel, by decide +kernel, by decide +kernel, rfl, fun h => absurd h (by decide +kernel), mm_cdF_of rfl mm_d200⟩
set_option maxRecDepth 100000 in
theorem mm_h201 : mm_hw 201 ∈ mm_TW := List.mem_filter.mpr ⟨mm_at7 (List.mem_of_getElem? (i := 136) rfl), rfl⟩
set_option maxRecDepth 100000 in
theorem mm_mf201 : mm_MFP 201 := ⟨mm_h201, mm_TW_of (i := 153) (by decide +kernel) rfl, fun h => absurd h (by decide +kernel), fun _ => mm_TW_of (i := 1727) (by decide +kernel) rfl, fun _ => mm_TW_of (i := 56) (by decide +kernel) rfl, by decide +kernel, by decide +kernel, by decide +kernel, rfl, fun h => absurd h (by decide +kernel), mm_cdF_of rfl mm_d201⟩
