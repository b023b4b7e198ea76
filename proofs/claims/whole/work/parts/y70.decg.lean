set_option maxRecDepth 100000 in
theorem mm_d323 : mm_c323.all (fun q => decide (decode cX12_shown q.1 = .ok q.2)) = true := by decide +kernel
set_option maxRecDepth 100000 in
theorem mm_d324 : mm_c324.all (fun q => decide (decode cX12_buffer q.1 = .ok q.2)) = true := by decide +kernel
set_option maxRecDepth 100000 in
theorem mm_d325 : mm_c325.all (fun q => decide (decode cX12_row q.1 = .ok q.2)) = true := by decide +kernel
set_option maxRecDepth 100000 in
theorem mm_d326 : mm_c326.all (fun q => decide (decode cX12_groupEnd q.1 = .ok q.2)) = true := by decide +kernel
set_option maxRecDepth 100000 in
theorem mm_d327 : mm_c327.all (fun q => decide (decode cX12_cutRow q.1 = .ok q.2)) = true := by decide +kernel
set_option maxRecDepth 100000 in
theorem mm_d328 : mm_c328.all (fun q => decide (decode cX12_keepGroup q.1 = .ok q.2)) = true := by decide +kernel
set_option maxRecDepth 100000 in
theorem mm_d329 : mm_c329.all (fun q => decide (decode cX12_anew q.1 = .ok q.2)) = true := by decide +kernel
set_option maxRecDepth 100000 in
theorem mm_d330 : mm_c330.all (fun q => decide (decode cX12_cut q.1 = .ok q.2)) = true := by decide +kernel
set_option maxRecDepth 100000 in
theorem mm_d331 : mm_c331.all (fun q => decide (decode cX12_kept q.1 = .ok q.2)) = true := by decide +kernel
set_option maxRecDepth 100000 in
theorem mm_d332 : mm_c332.all (fun q => decide (decode cX12_forget q.1 = .ok q.2)) = true := by decide +kernel
set_option maxRecDepth 100000 in
theorem mm_d333 : mm_c333.all (fun q => decide (decode cX12_here q.1 = .ok q.2)) = true := by decide +kernel
set_option maxRecDepth 100000 in
theorem mm_d334 : mm_c334.all (fun q => decide (decode cX12_wrong q.1 = .ok q.2)) = true := by decide +kernel
set_option maxRecDepth 100000 in
theorem mm_d335 : mm_c335.all (fun q => decide (decode cX12_emit q.1 = .ok q.2)) = true := by decide +kernel
set_option maxRecDepth 100000 in
theorem mm_d336 : mm_c336.all (fun q => decide (decode cX12_strength q.1 = .ok q.2)) = true := by decide +kernel
set_option maxRecDepth 100000 in
theorem mm_d337 : mm_c337.all (fun q => decide (decode cX12_settle q.1 = .ok q.2)) = true := by decide +kernel
set_option maxRecDepth 100000 in
theorem mm_d338 : mm_c338.all (fun q => decide (decode cX12_await q.1 = .ok q.2)) = true := by decide +kernel
set_option maxRecDepth 100000 in
theorem mm_d339 : mm_c339.all (fun q => decide (decode cX12_isDigit q.1 = .ok q.2)) = true := by decide +kernel
set_option maxRecDepth 100000 in
theorem mm_d340 : mm_c340.all (fun q => decide (decode cX12_letterOf q.1 = .ok q.2)) = true := by decide +kernel
set_option maxRecDepth 100000 in
theorem mm_d341 : mm_c341.all (fun q => decide (decode cX12_nest q.1 = .ok q.2)) = true := by decide +kernel
set_option maxRecDepth 100000 in
theorem mm_d342 : mm_c342.all (fun q => decide (decode cX12_readAtom q.1 = .ok q.2)) = true := by decide +kernel
set_option maxRecDepth 100000 in
theorem mm_d343 : mm_c343.all (fun q => decide (decode cX12_readSign q.1 = .ok q.2)) = true := by decide +kernel
set_option maxRecDepth 100000 in
theorem mm_d344 : mm_c344.all (fun q => decide (decode cX12_filter q.1 = .ok q.2)) = true := by decide +kernel
set_option maxRecDepth 100000 in
theorem mm_d345 : mm_c345.all (fun q => decide (decode cX12_worked q.1 = .ok q.2)) = true := by decide +kernel
set_option maxRecDepth 100000 in
theorem mm_d346 : mm_c346.all (fun q => decide (decode cX12_joined q.1 = .ok q.2)) = true := by decide +kernel
set_option maxRecDepth 100000 in
theorem mm_d347 : mm_c347.all (fun q => decide (decode cX12_apply q.1 = .ok q.2)) = true := by decide +kernel
set_option maxRecDepth 100000 in
theorem mm_d348 : mm_c348.all (fun q => decide (decode cX12_distance q.1 = .ok q.2)) = true := by decide +kernel
set_option maxRecDepth 100000 in
theorem mm_d349 : mm_c349.all (fun q => decide (decode cX12_inRange q.1 = .ok q.2)) = true := by decide +kernel
set_option maxRecDepth 100000 in
theorem mm_d350 : mm_c350.all (fun q => decide (decode cX12_first q.1 = .ok q.2)) = true := by decide +kernel
set_option maxRecDepth 100000 in
theorem mm_d351 : mm_c351.all (fun q => decide (decode cX12_isSame q.1 = .ok q.2)) = true := by decide +kernel
set_option maxRecDepth 100000 in
theorem mm_d352 : mm_c352.all (fun q => decide (decode cX12_twin q.1 = .ok q.2)) = true := by decide +kernel
set_option maxRecDepth 100000 in
theorem mm_d353 : mm_c353.all (fun q => decide (decode cX12_size2 q.1 = .ok q.2)) = true := by decide +kernel
set_option maxRecDepth 100000 in
theorem mm_d354 : mm_c354.all (fun q => decide (decode cX12_movement q.1 = .ok q.2)) = true := by decide +kernel
set_option maxRecDepth 100000 in
theorem mm_d355 : mm_c355.all (fun q => decide (decode cX12_isPlayer q.1 = .ok q.2)) = true := by decide +kernel
set_option maxRecDepth 100000 in
theorem mm_d356 : mm_c356.all (fun q => decide (decode cX12_play q.1 = .ok q.2)) = true := by decide +kernel
set_option maxRecDepth 100000 in
theorem mm_d357 : mm_c357.all (fun q => decide (decode cX12_refuses q.1 = .ok q.2)) = true := by decide +kernel
set_option maxRecDepth 100000 in
theorem mm_d358 : mm_c358.all (fun q => decide (decode cX12_groupOf q.1 = .ok q.2)) = true := by decide +kernel
set_option maxRecDepth 100000 in
theorem mm_d359 : mm_c359.all (fun q => decide (decode cX12_tick q.1 = .ok q.2)) = true := by decide +kernel
set_option maxRecDepth 100000 in
theorem mm_d360 : mm_c360.all (fun q => decide (decode cX12_lose q.1 = .ok q.2)) = true := by decide +kernel
set_option maxRecDepth 100000 in
theorem mm_d361 : mm_c361.all (fun q => decide (decode cX12_seek q.1 = .ok q.2)) = true := by decide +kernel
