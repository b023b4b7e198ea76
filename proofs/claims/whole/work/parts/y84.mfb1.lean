set_option maxRecDepth 100000 in
theorem mm_h140 : mm_hw 140 ∈ mm_TW := List.mem_filter.mpr ⟨mm_at3 (List.mem_of_getElem? (i := 40) rfl), rfl⟩
set_option maxRecDepth 100000 in
theorem mm_mf140 : mm_MFP 140 := ⟨mm_h140, mm_TW_of (i := 153) (by decide +kernel) rfl, fun h => absurd h (by decide +kernel), fun _ => mm_TW_of (i := 670) (by decide +kernel) rfl, fun _ => mm_TW_of (i := 671) (by decide +kernel) rfl, by decide +kernel, by decide +kernel, by decide +kernel, rfl, fun h => absurd h (by decide +kernel), mm_cdF_of rfl mm_d140⟩
set_option maxRecDepth 100000 in
theorem mm_h141 : mm_hw 141 ∈ mm_TW := List.mem_filter.mpr ⟨mm_at3 (List.mem_of_getElem? (i := 194) rfl), rfl⟩
set_option maxRecDepth 100000 in
theorem mm_mf141 : mm_MFP 141 := ⟨mm_h141, mm_TW_of (i := 153) (by decide +kernel) rfl, fun h => absurd h (by decide +kernel), fun _ => mm_TW_of (i := 824) (by decide +kernel) rfl, fun _ => mm_TW_of (i := 825) (by decide +kernel) rfl, by decide +kernel, by decide +kernel, by decide +kernel, rfl, fun h => absurd h (by decide +kernel), mm_cdF_of rfl mm_d141⟩
set_option maxRecDepth 100000 in
theorem mm_h142 : mm_hw 142 ∈ mm_TW := List.mem_filter.mpr ⟨mm_at3 (List.mem_of_getElem? (i := 235) rfl), rfl⟩
set_option maxRecDepth 100000 in
theorem mm_mf142 : mm_MFP 142 := ⟨mm_h142, mm_TW_of (i := 153) (by decide +kernel) rfl, fun h => absurd h (by decide +kernel), fun _ => mm_TW_of (i := 865) (by decide +kernel) rfl, fun _ => mm_TW_of (i := 866) (by decide +kernel) rfl, by decide +kernel, by decide +kernel, by decide +kernel, rfl, fun h => absurd h (by decide +kernel), mm_cdF_of rfl mm_d142⟩
set_option maxRecDepth 100000 in
theorem mm_h143 : mm_hw 143 ∈ mm_TW := List.mem_filter.mpr ⟨mm_at4 (List.mem_of_getElem? (i := 8) rfl), rfl⟩
set_option maxRecDepth 100000 in
theorem mm_mf143 : mm_MFP 143 := ⟨mm_h143, mm_TW_of (i := 153) (by decide +kernel) rfl, fun h => absurd h (by decide +kernel), fun _ => mm_TW_of (i := 878) (by decide +kernel) rfl, fun _ => mm_TW_of (i := 879) (by decide +kernel) rfl, by decide +kernel, by decide +kernel, by decide +kernel, rfl, fun h => absurd h (by decide +kernel), mm_cdF_of rfl mm_d143⟩
set_option maxRecDepth 100000 in
theorem mm_h144 : mm_hw 144 ∈ mm_TW := List.mem_filter.mpr ⟨mm_at4 (List.mem_of_getElem? (i := 20) rfl), rfl⟩
set_option maxRecDepth 100000 in
theorem mm_mf144 : mm_MFP 144 := ⟨mm_h144, mm_TW_of (i := 153) (by decide +kernel) rfl, fun h => absurd h (by decide +kernel), fun _ => mm_TW_of (i := 890) (by decide +kernel) rfl, fun _ => mm_TW_of (i := 891) (by decide +kernel) rfl, by decide +kernel, by decide +kernel, by decide +kernel, rfl, fun h => absurd h (by decide +kernel), mm_cdF_of rfl mm_d144⟩
set_option maxRecDepth 100000 in
theorem mm_h145 : mm_hw 145 ∈ mm_TW := List.mem_filter.mpr ⟨mm_at4 (List.mem_of_getElem? (i := 31) rfl), rfl⟩
set_option maxRecDepth 100000 in
theorem mm_mf145 : mm_MFP 145 := ⟨mm_h145, mm_TW_of (i := 153) (by decide +kernel) rfl, fun h => absurd h (by decide +kernel), fun _ => mm_TW_of (i := 901) (by decide +kernel) rfl, fun _ => mm_TW_of (i := 902) (by decide +kernel) rfl, by decide +kernel, by decide +kernel, by decide +kernel, rfl, fun h => absurd h (by decide +kernel), mm_cdF_of rfl mm_d145⟩
set_option maxRecDepth 100000 in
theorem mm_h146 : mm_hw 146 ∈ mm_TW := List.mem_filter.mpr ⟨mm_at4 (List.mem_of_getElem? (i := 38) rfl), rfl⟩
set_option maxRecDepth 100000 in
theorem mm_mf146 : mm_MFP 146 := ⟨mm_h146, mm_TW_of (i := 153) (by decide +kernel) rfl, fun h => absurd h (by decide +kernel), fun _ => mm_TW_of (i := 908) (by decide +kernel) rfl, fun _ => mm_TW_of (i := 909) (by decide +kernel) rfl, by decide +kernel, by decide +kernel, by decide +kernel, rfl, fun h => absurd h (by decide +kernel), mm_cdF_of rfl mm_d146⟩
set_option maxRecDepth 100000 in
theorem mm_h147 : mm_hw 147 ∈ mm_TW := List.mem_filter.mpr ⟨mm_at4 (List.mem_of_getElem? (i := 49) rfl), rfl⟩
set_option maxRecDepth 100000 in
theorem mm_mf147 : mm_MFP 147 := ⟨mm_h147, mm_TW_of (i := 153) (by decide +kernel) rfl, fun h => absurd h (by decide +kernel), fun _ => mm_TW_of (i := 919) (by decide +kernel) rfl, fun _ => mm_TW_of (i := 920) (by decide +kernel) rfl, by decide +kernel, by decide +kernel, by decide +kernel, rfl, fun h => absurd h (by decide +kernel), mm_cdF_of rfl mm_d147⟩
set_option maxRecDepth 100000 in
theorem mm_h148 : mm_hw 148 ∈ mm_TW := List.mem_filter.mpr ⟨mm_at4 (List.mem_of_getElem? (i := 60) rfl), rfl⟩
set_option maxRecDepth 100000 in
theorem mm_mf148 : mm_MFP 148 := ⟨mm_h148, mm_TW_of (i := 153) (by decide +kernel) rfl, fun h => absurd h (by decide +kernel), fun _ => mm_TW_of (i := 930) (by decide +kernel) rfl, fun _ => mm_TW_of (i := 931) (by decide +kernel) rfl, by decide +kernel, by decide +kernel, by decide +kernel, rfl, fun h => absurd h (by decide +kernel), mm_cdF_of rfl mm_d148⟩
set_option maxRecDepth 100000 in
theorem mm_h149 : mm_hw 149 ∈ mm_TW := List.mem_filter.mpr ⟨mm_at4 (List.mem_of_getElem? (i := 69) rfl), rfl⟩
set_option maxRecDepth 100000 in
theorem mm_mf149 : mm_MFP 149 := ⟨mm_h149, mm_TW_of (i := 153) (by decide +kernel) rfl, fun h => absurd h (by decide +kernel), fun _ => mm_TW_of (i := 939) (by decide +kernel) rfl, fun _ => mm_TW_of (i := 940) (by decide +kernel) rfl, by decide +kernel, by decide +kernel, by decide +kernel, rfl, fun h => absurd h (by decide +kernel), mm_cdF_of rfl mm_d149⟩
set_option maxRecDepth 100000 in
theorem mm_h150 : mm_hw 150 ∈ mm_TW := List.mem_filter.mpr ⟨mm_at3 (List.mem_of_getElem? (i := 19) rfl), rfl⟩
set_option maxRecDepth 100000 in
theorem mm_mf150 : mm_MFP 150 := ⟨mm_h150, mm_TW_of (i := 153) (by decide +kernel) rfl, fun h => absurd h (by decide +kernel), fun _ => mm_TW_of (i := 649) (by decide +kernel) rfl, fun _ => mm_TW_of (i := 650) (by decide +kernel) rfl, by decide +kernel, by decide +kernel, by decide +kernel, rfl, fun h => absurd h (by decide +kernel), mm_cdF_of rfl mm_d150⟩
set_option maxRecDepth 100000 in
theorem mm_h151 : mm_hw 151 ∈ mm_TW := List.mem_filter.mpr ⟨mm_at3 (List.mem_of_getElem? (i := 23) rfl), rfl⟩
set_option maxRecDepth 100000 in
theorem mm_mf151 : mm_MFP 151 := ⟨mm_h151, mm_TW_of (i := 153) (by decide +kernel) rfl, fun h => absurd h (by decide +kernel), fun _ => mm_TW_of (i := 653) (by decide +kernel) rfl, fun _ => mm_TW_of (i := 654) (by decide +kernel) rfl, by decide +kernel, by decide +kernel, by decide +kernel, rfl, fun h => absurd h (by decide +kernel), mm_cdF_of rfl mm_d151⟩
set_option maxRecDepth 100000 in
theorem mm_h152 : mm_hw 152 ∈ mm_TW := List.mem_filter.mpr ⟨mm_at4 (List.mem_of_getElem? (i := 77) rfl), rfl⟩
set_option maxRecDepth 100000 in
theorem mm_mf152 : mm_MFP 152 := ⟨mm_h152, mm_TW_of (i := 153) (by decide +kernel) rfl, fun h => absurd h (by decide +kernel), fun _ => mm_TW_of (i := 947) (by decide +kernel) rfl, fun _ => mm_TW_of (i := 948) (by decide +kernel) rfl, by decide +kernel, by decide +kernel, by decide +kernel, rfl, fun h => absurd h (by decide +kernel), mm_cdF_of rfl mm_d152⟩
set_option maxRecDepth 100000 in
theorem mm_h153 : mm_hw 153 ∈ mm_TW := List.mem_filter.mpr ⟨mm_at4 (List.mem_of_getElem? (i := 89) rfl), rfl⟩
set_option maxRecDepth 100000 in
theorem mm_mf153 : mm_MFP 153 := ⟨mm_h153, mm_TW_of (i := 153) (by decide +kernel) rfl, fun h => absurd h (by decide +kernel), fun _ => mm_TW_of (i := 959) (by decide +kernel) rfl, fun _ => mm_TW_of (i := 960) (by decide +kernel) rfl, by decide +kernel, by decide +kernel, by decide +kernel, rfl, fun h => absurd h (by decide +kernel), mm_cdF_of rfl mm_d153⟩
set_option maxRecDepth 100000 in
theorem mm_h154 : mm_hw 154 ∈ mm_TW := List.mem_filter.mpr ⟨mm_at3 (List.mem_of_getElem? (i := 27) rfl), rfl⟩
set_option maxRecDepth 100000 in
theorem mm_mf154 : mm_MFP 154 := ⟨mm_h154, mm_TW_of (i := 153) (by decide +kernel) rfl, fun h => absurd h (by decide +kernel), fun _ => mm_TW_of (i := 657) (by decide +kernel) rfl, fun _ => mm_TW_of (i := 658) (by decide +kernel) rfl, by decide +kernel, by decide +kernel, by decide +kernel, rfl, fun h => absurd h (by decide +kernel), mm_cdF_of rfl mm_d154⟩
set_option maxRecDepth 100000 in
theorem mm_h155 : mm_hw 155 ∈ mm_TW := List.mem_filter.mpr ⟨mm_at4 (List.mem_of_getElem? (i := 114) rfl), rfl⟩
set_option maxRecDepth 100000 in
theorem mm_mf155 : mm_MFP 155 := ⟨mm_h155, mm_TW_of (i := 153) (by decide +kernel) rfl, fun h => absurd h (by decide +kernel), fun _ => mm_TW_of (i := 984) (by decide +kernel) rfl, fun _ => mm_TW_of (i := 985) (by decide +kernel) rfl, by decide +kernel, by decide +kernel, by decide +kernel, rfl, fun h => absurd h (by decide +kernel), mm_cdF_of rfl mm_d155⟩
set_option maxRecDepth 100000 in
theorem mm_h156 : mm_hw 156 ∈ mm_TW := List.mem_filter.mpr ⟨mm_at6 (List.mem_of_getElem? (i := 52) rfl), rfl⟩
set_option maxRecDepth 100000 in
theorem mm_mf156 : mm_MFP 156 := ⟨mm_h156, mm_TW_of (i := 153) (by decide +kernel) rfl, fun h => absurd h (by decide +kernel), fun _ => mm_TW_of (i := 1402) (by decide +kernel) rfl, fun _ => mm_TW_of (i := 1403) (by decide +kernel) rfl, by decide +kernel, by decide +kernel, by decide +kernel, rfl, fun h => absurd h (by decide +kernel), mm_cdF_of rfl mm_d156⟩
set_option maxRecDepth 100000 in
theorem mm_h157 : mm_hw 157 ∈ mm_TW := List.mem_filter.mpr ⟨mm_at6 (List.mem_of_getElem? (i := 61) rfl), rfl⟩
set_option maxRecDepth 100000 in
theorem mm_mf157 : mm_MFP 157 := ⟨mm_h157, mm_TW_of (i := 153) (by decide +kernel) rfl, fun h => absurd h (by decide +kernel), fun _ => mm_TW_of (i := 1411) (by decide +kernel) rfl, fun _ => mm_TW_of (i := 1412) (by decide +kernel) rfl, by decide +kernel, by decide +kernel, by decide +kernel, rfl, fun h => absurd h (by decide +kernel), mm_cdF_of rfl mm_d157⟩
set_option maxRecDepth 100000 in
theorem mm_h158 : mm_hw 158 ∈ mm_TW := List.mem_filter.mpr ⟨mm_at6 (List.mem_of_getElem? (i := 74) rfl), rfl⟩
set_option maxRecDepth 100000 in
theorem mm_mf158 : mm_MFP 158 := ⟨mm_h158, mm_TW_of (i := 153) (by decide +kernel) rfl, fun h => absurd h (by decide +kernel), fun _ => mm_TW_of (i := 1424) (by decide +kernel) rfl, fun _ => mm_TW_of (i := 1425) (by decide +kernel) rfl, by decide +kernel, by decide +kernel, by decide +kernel, rfl, fun h => absurd h (by decide +kernel), mm_cdF_of rfl mm_d158⟩
set_option maxRecDepth 100000 in
theorem mm_h159 : mm_hw 159 ∈ mm_TW := List.mem_filter.mpr ⟨mm_at6 (List.mem_of_getElem? (i := 89) rfl), rfl⟩
set_option maxRecDepth 100000 in
theorem mm_mf159 : mm_MFP 159 := ⟨mm_h159, mm_TW_of (i := 153) (by decide +kernel) rfl, fun h => absurd h (by decide +kernel), fun _ => mm_TW_of (i := 1439) (by decide +kernel) rfl, fun _ => mm_TW_of (i := 1440) (by decide +kernel) rfl, by decide +kernel, by decide +kernel, by decide +kernel, rfl, fun h => absurd h (by decide +kernel), mm_cdF_of rfl mm_d159⟩
set_option maxRecDepth 100000 in
theorem mm_h160 : mm_hw 160 ∈ mm_TW := List.mem_filter.mpr ⟨mm_at6 (List.mem_of_getElem? (i := 99) rfl), rfl⟩
set_option maxRecDepth 100000 in
theorem mm_mf160 : mm_MFP 160 := ⟨mm_h160, mm_TW_of (i := 153) (by decide +kernel) rfl, fun h => absurd h (by decide +kernel), fun _ => mm_TW_of (i := 1449) (by decide +kernel) rfl, fun _ => mm_TW_of (i := 1450) (by decide +kernel) rfl, by decide +kernel, by decide +kernel, by decide +kernel, rfl, fun h => absurd h (by decide +kernel), mm_cdF_of rfl mm_d160⟩
set_option maxRecDepth 100000 in
theorem mm_h161 : mm_hw 161 ∈ mm_TW := List.mem_filter.mpr ⟨mm_at6 (List.mem_of_getElem? (i := 115) rfl), rfl⟩
set_option maxRecDepth 100000 in
theorem mm_mf161 : mm_MFP 161 := ⟨mm_h161, mm_TW_of (i := 153) (by decide +kernel) rfl, fun h => absurd h (by decide +kernel), fun _ => mm_TW_of (i := 1465) (by decide +kernel) rfl, fun _ => mm_TW_of (i := 1466) (by decide +kernel) rfl, by decide +kernel, by decide +kernel, by decide +kernel, rfl, fun h => absurd h (by decide +kernel), mm_cdF_of rfl mm_d161⟩
set_option maxRecDepth 100000 in
theorem mm_h162 : mm_hw 162 ∈ mm_TW := List.mem_filter.mpr ⟨mm_at6 (List.mem_of_getElem? (i := 129) rfl), rfl⟩
set_option maxRecDepth 100000 in
theorem mm_mf162 : mm_MFP 162 := ⟨mm_h162, mm_TW_of (i := 153) (by decide +kernel) rfl, fun h => absurd h (by decide +kernel), fun _ => mm_TW_of (i := 1479) (by decide +kernel) rfl, fun _ => mm_TW_of (i := 1480) (by decide +kernel) rfl, by decide +kernel, by decide +kernel, by decide +kernel, rfl, fun h => absurd h (by decide +kernel), mm_cdF_of rfl mm_d162⟩
set_option maxRecDepth 100000 in
theorem mm_h163 : mm_hw 163 ∈ mm_TW := List.mem_filter.mpr ⟨mm_at6 (List.mem_of_getElem? (i := 137) rfl), rfl⟩
set_option maxRecDepth 100000 in
theorem mm_mf163 : mm_MFP 163 := ⟨mm_h163, mm_TW_of (i := 153) (by decide +kernel) rfl, fun h => absurd h (by decide +kernel), fun _ => mm_TW_of (i := 1487) (by decide +kernel) rfl, fun _ => mm_TW_of (i := 1488) (by decide +kernel) rfl, by decide +kernel, by decide +kernel, by decide +kernel, rfl, fun h => absurd h (by decide +kernel), mm_cdF_of rfl mm_d163⟩
set_option maxRecDepth 100000 in
theorem mm_h164 : mm_hw 164 ∈ mm_TW := List.mem_filter.mpr ⟨mm_at6 (List.mem_of_getElem? (i := 144) rfl), rfl⟩
set_option maxRecDepth 100000 in
theorem mm_mf164 : mm_MFP 164 := ⟨mm_h164, mm_TW_of (i := 153) (by decide +kernel) rfl, fun h => absurd h (by decide +kernel), fun _ => mm_TW_of (i := 1494) (by decide +kernel) rfl, fun _ => mm_TW_of (i := 1495) (by decide +kernel) rfl, by decide +kernel, by decide +kernel, by decide +kernel, rfl, fun h => absurd h (by decide +kernel), mm_cdF_of rfl mm_d164⟩
set_option maxRecDepth 100000 in
theorem mm_h165 : mm_hw 165 ∈ mm_TW := List.mem_filter.mpr ⟨mm_at6 (List.mem_of_getElem? (i := 152) rfl), rfl⟩
set_option maxRecDepth 100000 in
theorem mm_mf165 : mm_MFP 165 := ⟨mm_h165, mm_TW_of (i := 153) (by decide +kernel) rfl, fun h => absurd h (by decide +kernel), fun _ => mm_TW_of (i := 1502) (by decide +kernel) rfl, fun _ => mm_TW_of (i := 1503) (by decide +kernel) rfl, by decide +kernel, by decide +kernel, by decide +kernel, rfl, fun h => absurd h (by decide +kernel), mm_cdF_of rfl mm_d165⟩
set_option maxRecDepth 100000 in
theorem mm_h166 : mm_hw 166 ∈ mm_TW := List.mem_filter.mpr ⟨mm_at6 (List.mem_of_getElem? (i := 161) rfl), rfl⟩
set_option maxRecDepth 100000 in
theorem mm_mf166 : mm_MFP 166 := ⟨mm_h166, mm_TW_of (i := 153) (by decide +kernel) rfl, fun h => absurd h (by decide +kernel), fun _ => mm_TW_of (i := 1511) (by decide +kernel) rfl, fun _ => mm_TW_of (i := 1512) (by decide +kernel) rfl, by decide +kernel, by decide +kernel, by decide +kernel, rfl, fun h => absurd h (by decide +kernel), mm_cdF_of rfl mm_d166⟩
set_option maxRecDepth 100000 in
theorem mm_h167 : mm_hw 167 ∈ mm_TW := List.mem_filter.mpr ⟨mm_at6 (List.mem_of_getElem? (i := 197) rfl), rfl⟩
set_option maxRecDepth 100000 in
theorem mm_mf167 : mm_MFP 167 := ⟨mm_h167, mm_TW_of (i := 153) (by decide +kernel) rfl, fun h => absurd h (by decide +kernel), fun _ => mm_TW_of (i := 1547) (by decide +kernel) rfl, fun _ => mm_TW_of (i := 1548) (by decide +kernel) rfl, by decide +kernel, by decide +kernel, by decide +kernel, rfl, fun h => absurd h (by decide +kernel), mm_cdF_of rfl mm_d167⟩
set_option maxRecDepth 100000 in
theorem mm_h168 : mm_hw 168 ∈ mm_TW := List.mem_filter.mpr ⟨mm_at3 (List.mem_of_getElem? (i := 31) rfl), rfl⟩
set_option maxRecDepth 100000 in
theorem mm_mf168 : mm_MFP 168 := ⟨mm_h168, mm_TW_of (i := 153) (by decide +kernel) rfl, fun h => absurd h (by decide +kernel), fun _ => mm_TW_of (i := 661) (by decide +kernel) rfl, fun _ => mm_TW_of (i := 662) (by decide +kernel) rfl, by decide +kernel, by decide +kernel, by decide +kernel, rfl, fun h => absurd h (by decide +kernel), mm_cdF_of rfl mm_d168⟩
set_option maxRecDepth 100000 in
theorem mm_h169 : mm_hw 169 ∈ mm_TW := List.mem_filter.mpr ⟨mm_at6 (List.mem_of_getElem? (i := 204) rfl), rfl⟩
set_option maxRecDepth 100000 in
theorem mm_mf169 : mm_MFP 169 := ⟨mm_h169, mm_TW_of (i := 153) (by decide +kernel) rfl, fun h => absurd h (by decide +kernel), fun _ => mm_TW_of (i := 1554) (by decide +kernel) rfl, fun _ => mm_TW_of (i := 1555) (by decide +kernel) rfl, by decide +kernel, by decide +kernel, by decide +kernel, rfl, fun h => absurd h (by decide +kernel), mm_cdF_of rfl mm_d169⟩
set_option maxRecDepth 100000 in
theorem mm_h170 : mm_hw 170 ∈ mm_TW := List.mem_filter.mpr ⟨mm_at7 (List.mem_of_getElem? (i := 41) rfl), rfl⟩
set_option maxRecDepth 100000 in
theorem mm_mf170 : mm_MFP 170 := ⟨mm_h170, mm_TW_of (i := 153) (by decide +kernel) rfl, fun h => absurd h (by decide +kernel), fun _ => mm_TW_of (i := 1631) (by decide +kernel) rfl, fun _ => mm_TW_of (i := 1632) (by decide +kernel) rfl, by decide +kernel, by decide +kernel, by decide +kernel, rfl, fun h => absurd h (by decide +kernel), mm_cdF_of rfl mm_d170⟩
set_option maxRecDepth 100000 in
theorem mm_h171 : mm_hw 171 ∈ mm_TW := List.mem_filter.mpr ⟨mm_at7 (List.mem_of_getElem? (i := 63) rfl), rfl⟩
set_option maxRecDepth 100000 in
theorem mm_mf171 : mm_MFP 171 := ⟨mm_h171, mm_TW_of (i := 153) (by decide +kernel) rfl, fun h => absurd h (by decide +kernel), fun _ => mm_TW_of (i := 1653) (by decide +kernel) rfl, fun _ => mm_TW_of (i := 1654) (by decide +kernel) rfl, by decide +kernel, by decide +kernel, by decide +kernel, rfl, fun h => absurd h (by decide +kernel), mm_cdF_of rfl mm_d171⟩
set_option maxRecDepth 100000 in
theorem mm_h172 : mm_hw 172 ∈ mm_TW := List.mem_filter.mpr ⟨mm_at7 (List.mem_of_getElem? (i := 77) rfl), rfl⟩
set_option maxRecDepth 100000 in
theorem mm_mf172 : mm_MFP 172 := ⟨mm_h172, mm_TW_of (i := 153) (by decide +kernel) rfl, fun h => absurd h (by decide +kernel), fun _ => mm_TW_of (i := 1667) (by decide +kernel) rfl, fun _ => mm_TW_of (i := 1668) (by decide +kernel) rfl, by decide +kernel, by decide +kernel, by decide +kernel, rfl, fun h => absurd h (by decide +kernel), mm_cdF_of rfl mm_d172⟩
set_option maxRecDepth 100000 in
theorem mm_h173 : mm_hw 173 ∈ mm_TW := List.mem_filter.mpr ⟨mm_at7 (List.mem_of_getElem? (i := 88) rfl), rfl⟩
set_option maxRecDepth 100000 in
theorem mm_mf173 : mm_MFP 173 := ⟨mm_h173, mm_TW_of (i := 153) (by decide +kernel) rfl, fun h => absurd h (by decide +kernel), fun _ => mm_TW_of (i := 1678) (by decide +kernel) rfl, fun _ => mm_TW_of (i := 1679) (by decide +kernel) rfl, by decide +kernel, by decide +kernel, by decide +kernel, rfl, fun h => absurd h (by decide +kernel), mm_cdF_of rfl mm_d173⟩
set_option maxRecDepth 100000 in
theorem mm_h174 : mm_hw 174 ∈ mm_TW := List.mem_filter.mpr ⟨mm_at7 (List.mem_of_getElem? (i := 95) rfl), rfl⟩
set_option maxRecDepth 100000 in
theorem mm_mf174 : mm_MFP 174 := ⟨mm_h174, mm_TW_of (i := 153) (by decide +kernel) rfl, fun h => absurd h (by decide +kernel), fun _ => mm_TW_of (i := 1685) (by decide +kernel) rfl, fun _ => mm_TW_of (i := 1686) (by decide +kernel) rfl, by decide +kernel, by decide +kernel, by decide +kernel, rfl, fun h => absurd h (by decide +kernel), mm_cdF_of rfl mm_d174⟩
