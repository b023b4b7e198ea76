def mm_xi : Nat → Nat := fun k => match k with
  | 0 => 85
  | 1 => 173
  | _ => 178
def mm_xc : Nat → Nat := fun k => match k with
  | 0 => 89
  | 1 => 177
  | _ => 182
abbrev mm_up2 : List String := ["java/lang/RuntimeException", "java/lang/Exception"]
def mm_tsC (mi : Nat) (q : Nat × Nat × Nat × Nat × Nat × Nat) : Bool := (Nat.beq (mm_MT mi).1 11 && (mm_hs0 mi && (Nat.blt q.2.1 3 && (Nat.beq q.2.2.1 (mm_xi q.2.1) && Nat.beq q.2.2.2.2.1 (mm_xc q.2.1))))) && (mm_sr.any (fun z => Nat.beq z.1 q.2.2.2.1) &&
  (decide (mm_cd mi q.1 = some (.new q.2.2.1, 3)) && (decide (mm_cd mi (q.1 + 3) = some (.dup, 1)) && (bif Nat.beq q.2.2.2.2.2 1 then decide (mm_cd mi (q.1 + 4) = some (.ldc_w q.2.2.2.1, 3)) && (decide (mm_cd mi (q.1 + 7) = some (.invokespecial q.2.2.2.2.1, 3)) && decide (mm_cd mi (q.1 + 10) = some (.athrow, 1)))
    else decide (mm_cd mi (q.1 + 4) = some (.ldc q.2.2.2.1, 2)) && (decide (mm_cd mi (q.1 + 6) = some (.invokespecial q.2.2.2.2.1, 3)) && decide (mm_cd mi (q.1 + 9) = some (.athrow, 1)))))))
set_option maxRecDepth 100000 in
theorem mm_tsK140 : (mm_tsT 140).all (mm_tsC 140) = true := by decide +kernel
set_option maxRecDepth 100000 in
theorem mm_tsK141 : (mm_tsT 141).all (mm_tsC 141) = true := by decide +kernel
set_option maxRecDepth 100000 in
theorem mm_tsK142 : (mm_tsT 142).all (mm_tsC 142) = true := by decide +kernel
set_option maxRecDepth 100000 in
theorem mm_tsK143 : (mm_tsT 143).all (mm_tsC 143) = true := by decide +kernel
set_option maxRecDepth 100000 in
theorem mm_tsK147 : (mm_tsT 147).all (mm_tsC 147) = true := by decide +kernel
set_option maxRecDepth 100000 in
theorem mm_tsK148 : (mm_tsT 148).all (mm_tsC 148) = true := by decide +kernel
set_option maxRecDepth 100000 in
theorem mm_tsK149 : (mm_tsT 149).all (mm_tsC 149) = true := by decide +kernel
set_option maxRecDepth 100000 in
theorem mm_tsK152 : (mm_tsT 152).all (mm_tsC 152) = true := by decide +kernel
set_option maxRecDepth 100000 in
theorem mm_tsK153 : (mm_tsT 153).all (mm_tsC 153) = true := by decide +kernel
set_option maxRecDepth 100000 in
theorem mm_tsK155 : (mm_tsT 155).all (mm_tsC 155) = true := by decide +kernel
set_option maxRecDepth 100000 in
theorem mm_tsK160 : (mm_tsT 160).all (mm_tsC 160) = true := by decide +kernel
set_option maxRecDepth 100000 in
theorem mm_tsK164 : (mm_tsT 164).all (mm_tsC 164) = true := by decide +kernel
set_option maxRecDepth 100000 in
theorem mm_tsK165 : (mm_tsT 165).all (mm_tsC 165) = true := by decide +kernel
set_option maxRecDepth 100000 in
theorem mm_tsK169 : (mm_tsT 169).all (mm_tsC 169) = true := by decide +kernel
set_option maxRecDepth 100000 in
theorem mm_tsK170 : (mm_tsT 170).all (mm_tsC 170) = true := by decide +kernel
set_option maxRecDepth 100000 in
theorem mm_tsK171 : (mm_tsT 171).all (mm_tsC 171) = true := by decide +kernel
set_option maxRecDepth 100000 in
theorem mm_tsK174 : (mm_tsT 174).all (mm_tsC 174) = true := by decide +kernel
set_option maxRecDepth 100000 in
theorem mm_tsK175 : (mm_tsT 175).all (mm_tsC 175) = true := by decide +kernel
set_option maxRecDepth 100000 in
theorem mm_tsK180 : (mm_tsT 180).all (mm_tsC 180) = true := by decide +kernel
set_option maxRecDepth 100000 in
theorem mm_tsK184 : (mm_tsT 184).all (mm_tsC 184) = true := by decide +kernel
set_option maxRecDepth 100000 in
theorem mm_tsK185 : (mm_tsT 185).all (mm_tsC 185) = true := by decide +kernel
set_option maxRecDepth 100000 in
theorem mm_tsK186 : (mm_tsT 186).all (mm_tsC 186) = true := by decide +kernel
set_option maxRecDepth 100000 in
theorem mm_tsK187 : (mm_tsT 187).all (mm_tsC 187) = true := by decide +kernel
set_option maxRecDepth 100000 in
theorem mm_tsK188 : (mm_tsT 188).all (mm_tsC 188) = true := by decide +kernel
set_option maxRecDepth 100000 in
theorem mm_tsK189 : (mm_tsT 189).all (mm_tsC 189) = true := by decide +kernel
set_option maxRecDepth 100000 in
theorem mm_tsK190 : (mm_tsT 190).all (mm_tsC 190) = true := by decide +kernel
set_option maxRecDepth 100000 in
theorem mm_tsK191 : (mm_tsT 191).all (mm_tsC 191) = true := by decide +kernel
set_option maxRecDepth 100000 in
theorem mm_tsK193 : (mm_tsT 193).all (mm_tsC 193) = true := by decide +kernel
set_option maxRecDepth 100000 in
theorem mm_tsK194 : (mm_tsT 194).all (mm_tsC 194) = true := by decide +kernel
set_option maxRecDepth 100000 in
theorem mm_tsK195 : (mm_tsT 195).all (mm_tsC 195) = true := by decide +kernel
set_option maxRecDepth 100000 in
theorem mm_tsK196 : (mm_tsT 196).all (mm_tsC 196) = true := by decide +kernel
set_option maxRecDepth 100000 in
theorem mm_tsK200 : (mm_tsT 200).all (mm_tsC 200) = true := by decide +kernel
theorem mm_tsK_all (mi : Nat) : (mm_tsT mi).all (mm_tsC mi) = true := by
  by_cases h140 : mi = 140
  · subst h140; exact mm_tsK140
  by_cases h141 : mi = 141
  · subst h141; exact mm_tsK141
  by_cases h142 : mi = 142
  · subst h142; exact mm_tsK142
  by_cases h143 : mi = 143
  · subst h143; exact mm_tsK143
  by_cases h147 : mi = 147
  · subst h147; exact mm_tsK147
  by_cases h148 : mi = 148
  · subst h148; exact mm_tsK148
  by_cases h149 : mi = 149
  · subst h149; exact mm_tsK149
  by_cases h152 : mi = 152
  · subst h152; exact mm_tsK152
  by_cases h153 : mi = 153
  · subst h153; exact mm_tsK153
  by_cases h155 : mi = 155
  · subst h155; exact mm_tsK155
  by_cases h160 : mi = 160
  · subst h160; exact mm_tsK160
  by_cases h164 : mi = 164
  · subst h164; exact mm_tsK164
  by_cases h165 : mi = 165
  · subst h165; exact mm_tsK165
  by_cases h169 : mi = 169
  · subst h169; exact mm_tsK169
  by_cases h170 : mi = 170
  · subst h170; exact mm_tsK170
  by_cases h171 : mi = 171
  · subst h171; exact mm_tsK171
  by_cases h174 : mi = 174
  · subst h174; exact mm_tsK174
  by_cases h175 : mi = 175
  · subst h175; exact mm_tsK175
  by_cases h180 : mi = 180
  · subst h180; exact mm_tsK180
  by_cases h184 : mi = 184
  · subst h184; exact mm_tsK184
  by_cases h185 : mi = 185
  · subst h185; exact mm_tsK185
  by_cases h186 : mi = 186
  · subst h186; exact mm_tsK186
  by_cases h187 : mi = 187
  · subst h187; exact mm_tsK187
  by_cases h188 : mi = 188
  · subst h188; exact mm_tsK188
  by_cases h189 : mi = 189
  · subst h189; exact mm_tsK189
  by_cases h190 : mi = 190
  · subst h190; exact mm_tsK190
  by_cases h191 : mi = 191
  · subst h191; exact mm_tsK191
  by_cases h193 : mi = 193
  · subst h193; exact mm_tsK193
  by_cases h194 : mi = 194
  · subst h194; exact mm_tsK194
  by_cases h195 : mi = 195
  · subst h195; exact mm_tsK195
  by_cases h196 : mi = 196
  · subst h196; exact mm_tsK196
  by_cases h200 : mi = 200
  · subst h200; exact mm_tsK200
  have e1 : mm_tsT mi = [] := by
    unfold mm_tsT
    split <;> first | rfl | (exfalso; omega)
  rw [e1]
  rfl
def mm_wC (E : Nat) (w : Jvm.Cond) : Bool := vx_ot w && ((decide (w ∈ lw_tbl) && goodWord w) || (decide (w ∈ mm_dy.map Jvm.Cond.declares) || decide (w = .castable (mm_xn E) (mm_xn E))))
set_option maxRecDepth 100000 in
theorem mm_wK0 : (vx_atS RX11 (mm_xc 0) (mm_xn 0) mm_up2).all (mm_wC 0) = true := by decide +kernel
set_option maxRecDepth 100000 in
theorem mm_wK1 : (vx_atS RX11 (mm_xc 1) (mm_xn 1) mm_up2).all (mm_wC 1) = true := by decide +kernel
set_option maxRecDepth 100000 in
theorem mm_wK2 : (vx_atS RX11 (mm_xc 2) (mm_xn 2) mm_up2).all (mm_wC 2) = true := by decide +kernel
set_option maxRecDepth 100000 in
theorem mm_xL0 : Jvm.Cond.classLink RX11 (mm_xi 0) (mm_xn 0) ∈ mm_TW ∧ Jvm.Cond.initialized (mm_xn 0) ∈ mm_TW ∧ Jvm.Cond.classLink RL (mm_ct 0) (mm_xn 0) ∈ mm_TW ∧ Bundle.fit (mm_xn 0) = true := ⟨mm_TW_of (i := 676) (by decide +kernel) rfl, mm_TW_of (i := 167) (by decide +kernel) rfl, mm_TW_of (i := 667) (by decide +kernel) rfl, by decide +kernel⟩
set_option maxRecDepth 100000 in
theorem mm_xL1 : Jvm.Cond.classLink RX11 (mm_xi 1) (mm_xn 1) ∈ mm_TW ∧ Jvm.Cond.initialized (mm_xn 1) ∈ mm_TW ∧ Jvm.Cond.classLink RL (mm_ct 1) (mm_xn 1) ∈ mm_TW ∧ Bundle.fit (mm_xn 1) = true := ⟨mm_TW_of (i := 751) (by decide +kernel) rfl, mm_TW_of (i := 168) (by decide +kernel) rfl, mm_TW_of (i := 668) (by decide +kernel) rfl, by decide +kernel⟩
set_option maxRecDepth 100000 in
theorem mm_xL2 : Jvm.Cond.classLink RX11 (mm_xi 2) (mm_xn 2) ∈ mm_TW ∧ Jvm.Cond.initialized (mm_xn 2) ∈ mm_TW ∧ Jvm.Cond.classLink RL (mm_ct 2) (mm_xn 2) ∈ mm_TW ∧ Bundle.fit (mm_xn 2) = true := ⟨mm_TW_of (i := 831) (by decide +kernel) rfl, mm_TW_of (i := 170) (by decide +kernel) rfl, mm_TW_of (i := 822) (by decide +kernel) rfl, by decide +kernel⟩
theorem mm_xF {E : Nat} (h : E < 3) : (Jvm.Cond.classLink RX11 (mm_xi E) (mm_xn E) ∈ mm_TW ∧ Jvm.Cond.initialized (mm_xn E) ∈ mm_TW ∧ Jvm.Cond.classLink RL (mm_ct E) (mm_xn E) ∈ mm_TW ∧ Bundle.fit (mm_xn E) = true) ∧ (vx_atS RX11 (mm_xc E) (mm_xn E) mm_up2).all (mm_wC E) = true := by
  match E, h with
  | 0, _ => exact ⟨mm_xL0, mm_wK0⟩
  | 1, _ => exact ⟨mm_xL1, mm_wK1⟩
  | 2, _ => exact ⟨mm_xL2, mm_wK2⟩
  | n + 3, h => exact absurd h (by omega)
theorem mm_up2F : ∀ n ∈ mm_up2, Bundle.fit n = true := by decide +kernel
/-- handlers: the law's own methods alone have them, and they name these three classes -/
def mm_hC (q : Nat × Nat × Option FieldType × Nat × Nat × List (Nat × Nat × Nat × Nat)) : Bool := (match q.2.2.2.2.2 with | [] => true | _ :: _ => Nat.beq q.1 13) && q.2.2.2.2.2.all (fun z => Nat.beq z.2.2.2 (mm_ct 0) || (Nat.beq z.2.2.2 (mm_ct 1) || Nat.beq z.2.2.2 (mm_ct 2)))
theorem mm_hK : mm_MTL.all mm_hC = true := by decide +kernel
theorem mm_hF (mi : Nat) : mm_hC (mm_MT mi) = true := by
  unfold mm_MT
  rw [List.getD_eq_getElem?_getD]
  cases hq : mm_MTL[mi]? with
  | none => rfl
  | some q => exact List.all_eq_true.mp mm_hK q (List.mem_of_getElem? hq)
