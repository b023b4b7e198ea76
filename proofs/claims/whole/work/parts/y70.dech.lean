set_option maxRecDepth 100000 in
theorem mm_d362 : mm_c362.all (fun q => decide (decode cX12_player q.1 = .ok q.2)) = true := by decide +kernel
set_option maxRecDepth 100000 in
theorem mm_d363 : mm_c363.all (fun q => decide (decode cX12_frame q.1 = .ok q.2)) = true := by decide +kernel
set_option maxRecDepth 100000 in
theorem mm_d364 : mm_c364.all (fun q => decide (decode cX12_count q.1 = .ok q.2)) = true := by decide +kernel
set_option maxRecDepth 100000 in
theorem mm_d365 : mm_c365.all (fun q => decide (decode cL_blank q.1 = .ok q.2)) = true := by decide +kernel
set_option maxRecDepth 100000 in
theorem mm_d366 : mm_c366.all (fun q => decide (decode cL_fill q.1 = .ok q.2)) = true := by decide +kernel
set_option maxRecDepth 100000 in
theorem mm_d367 : mm_c367.all (fun q => decide (decode cL_noise q.1 = .ok q.2)) = true := by decide +kernel
set_option maxRecDepth 100000 in
theorem mm_d368 : mm_c368.all (fun q => decide (decode cL_shift q.1 = .ok q.2)) = true := by decide +kernel
set_option maxRecDepth 100000 in
theorem mm_d369 : mm_c369.all (fun q => decide (decode cL_put q.1 = .ok q.2)) = true := by decide +kernel
set_option maxRecDepth 100000 in
theorem mm_d370 : mm_c370.all (fun q => decide (decode cL_sample q.1 = .ok q.2)) = true := by decide +kernel
set_option maxRecDepth 100000 in
theorem mm_d371 : mm_c371.all (fun q => decide (decode cL_size q.1 = .ok q.2)) = true := by decide +kernel
set_option maxRecDepth 100000 in
theorem mm_d372 : mm_c372.all (fun q => decide (decode cL_drop q.1 = .ok q.2)) = true := by decide +kernel
set_option maxRecDepth 100000 in
theorem mm_d373 : mm_c373.all (fun q => decide (decode cL_feed q.1 = .ok q.2)) = true := by decide +kernel
set_option maxRecDepth 100000 in
theorem mm_d374 : mm_c374.all (fun q => decide (decode cL_alter q.1 = .ok q.2)) = true := by decide +kernel
set_option maxRecDepth 100000 in
theorem mm_d375 : mm_c375.all (fun q => decide (decode cL_set q.1 = .ok q.2)) = true := by decide +kernel
set_option maxRecDepth 100000 in
theorem mm_d376 : mm_c376.all (fun q => decide (decode cL_reel q.1 = .ok q.2)) = true := by decide +kernel
set_option maxRecDepth 100000 in
theorem mm_d377 : mm_c377.all (fun q => decide (decode cL_make q.1 = .ok q.2)) = true := by decide +kernel
set_option maxRecDepth 100000 in
theorem mm_d378 : mm_c378.all (fun q => decide (decode cL_read q.1 = .ok q.2)) = true := by decide +kernel
set_option maxRecDepth 100000 in
theorem mm_d379 : mm_c379.all (fun q => decide (decode cL_bytes q.1 = .ok q.2)) = true := by decide +kernel
set_option maxRecDepth 100000 in
theorem mm_d380 : mm_c380.all (fun q => decide (decode cL_film q.1 = .ok q.2)) = true := by decide +kernel
set_option maxRecDepth 100000 in
theorem mm_d381 : mm_c381.all (fun q => decide (decode cL_coded q.1 = .ok q.2)) = true := by decide +kernel
set_option maxRecDepth 100000 in
theorem mm_d382 : mm_c382.all (fun q => decide (decode cL_part q.1 = .ok q.2)) = true := by decide +kernel
set_option maxRecDepth 100000 in
theorem mm_d383 : mm_c383.all (fun q => decide (decode cL_look q.1 = .ok q.2)) = true := by decide +kernel
set_option maxRecDepth 100000 in
theorem mm_d384 : mm_c384.all (fun q => decide (decode cL_mended q.1 = .ok q.2)) = true := by decide +kernel
set_option maxRecDepth 100000 in
theorem mm_d385 : mm_c385.all (fun q => decide (decode cL_shown q.1 = .ok q.2)) = true := by decide +kernel
set_option maxRecDepth 100000 in
theorem mm_d386 : mm_c386.all (fun q => decide (decode cL_buffer q.1 = .ok q.2)) = true := by decide +kernel
set_option maxRecDepth 100000 in
theorem mm_d387 : mm_c387.all (fun q => decide (decode cL_row q.1 = .ok q.2)) = true := by decide +kernel
set_option maxRecDepth 100000 in
theorem mm_d388 : mm_c388.all (fun q => decide (decode cL_cut q.1 = .ok q.2)) = true := by decide +kernel
set_option maxRecDepth 100000 in
theorem mm_d389 : mm_c389.all (fun q => decide (decode cL_kept q.1 = .ok q.2)) = true := by decide +kernel
set_option maxRecDepth 100000 in
theorem mm_d390 : mm_c390.all (fun q => decide (decode cL_filter q.1 = .ok q.2)) = true := by decide +kernel
set_option maxRecDepth 100000 in
theorem mm_d391 : mm_c391.all (fun q => decide (decode cL_apply q.1 = .ok q.2)) = true := by decide +kernel
set_option maxRecDepth 100000 in
theorem mm_d392 : mm_c392.all (fun q => decide (decode cL_distance q.1 = .ok q.2)) = true := by decide +kernel
set_option maxRecDepth 100000 in
theorem mm_d393 : mm_c393.all (fun q => decide (decode cL_first q.1 = .ok q.2)) = true := by decide +kernel
set_option maxRecDepth 100000 in
theorem mm_d394 : mm_c394.all (fun q => decide (decode cL_twin q.1 = .ok q.2)) = true := by decide +kernel
set_option maxRecDepth 100000 in
theorem mm_d395 : mm_c395.all (fun q => decide (decode cL_movement q.1 = .ok q.2)) = true := by decide +kernel
set_option maxRecDepth 100000 in
theorem mm_d396 : mm_c396.all (fun q => decide (decode cL_play q.1 = .ok q.2)) = true := by decide +kernel
set_option maxRecDepth 100000 in
theorem mm_d397 : mm_c397.all (fun q => decide (decode cL_tick q.1 = .ok q.2)) = true := by decide +kernel
set_option maxRecDepth 100000 in
theorem mm_d398 : mm_c398.all (fun q => decide (decode cL_lose q.1 = .ok q.2)) = true := by decide +kernel
set_option maxRecDepth 100000 in
theorem mm_d399 : mm_c399.all (fun q => decide (decode cL_seek q.1 = .ok q.2)) = true := by decide +kernel
set_option maxRecDepth 100000 in
theorem mm_d400 : mm_c400.all (fun q => decide (decode cL_player q.1 = .ok q.2)) = true := by decide +kernel
set_option maxRecDepth 100000 in
theorem mm_d401 : mm_c401.all (fun q => decide (decode cL_frame q.1 = .ok q.2)) = true := by decide +kernel
set_option maxRecDepth 100000 in
theorem mm_d402 : mm_c402.all (fun q => decide (decode cL_count q.1 = .ok q.2)) = true := by decide +kernel
