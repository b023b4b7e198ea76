set_option maxRecDepth 100000 in
theorem mm_d286 : mm_c286.all (fun q => decide (decode cX12_makeWaves q.1 = .ok q.2)) = true := by decide +kernel
set_option maxRecDepth 100000 in
theorem mm_d287 : mm_c287.all (fun q => decide (decode cX12_sampleToMake q.1 = .ok q.2)) = true := by decide +kernel
set_option maxRecDepth 100000 in
theorem mm_d288 : mm_c288.all (fun q => decide (decode cX12_refOf q.1 = .ok q.2)) = true := by decide +kernel
set_option maxRecDepth 100000 in
theorem mm_d289 : mm_c289.all (fun q => decide (decode cX12_makeRunPlane q.1 = .ok q.2)) = true := by decide +kernel
set_option maxRecDepth 100000 in
theorem mm_d290 : mm_c290.all (fun q => decide (decode cX12_runs q.1 = .ok q.2)) = true := by decide +kernel
set_option maxRecDepth 100000 in
theorem mm_d291 : mm_c291.all (fun q => decide (decode cX12_makePicture q.1 = .ok q.2)) = true := by decide +kernel
set_option maxRecDepth 100000 in
theorem mm_d292 : mm_c292.all (fun q => decide (decode cX12_freshByte q.1 = .ok q.2)) = true := by decide +kernel
set_option maxRecDepth 100000 in
theorem mm_d293 : mm_c293.all (fun q => decide (decode cX12_orderGroup q.1 = .ok q.2)) = true := by decide +kernel
set_option maxRecDepth 100000 in
theorem mm_d294 : mm_c294.all (fun q => decide (decode cX12_makeGroup q.1 = .ok q.2)) = true := by decide +kernel
set_option maxRecDepth 100000 in
theorem mm_d295 : mm_c295.all (fun q => decide (decode cX12_freshHead q.1 = .ok q.2)) = true := by decide +kernel
set_option maxRecDepth 100000 in
theorem mm_d296 : mm_c296.all (fun q => decide (decode cX12_set q.1 = .ok q.2)) = true := by decide +kernel
set_option maxRecDepth 100000 in
theorem mm_d297 : mm_c297.all (fun q => decide (decode cX12_reel q.1 = .ok q.2)) = true := by decide +kernel
set_option maxRecDepth 100000 in
theorem mm_d298 : mm_c298.all (fun q => decide (decode cX12_unreel q.1 = .ok q.2)) = true := by decide +kernel
set_option maxRecDepth 100000 in
theorem mm_d299 : mm_c299.all (fun q => decide (decode cX12_plan q.1 = .ok q.2)) = true := by decide +kernel
set_option maxRecDepth 100000 in
theorem mm_d300 : mm_c300.all (fun q => decide (decode cX12_make q.1 = .ok q.2)) = true := by decide +kernel
set_option maxRecDepth 100000 in
theorem mm_d301 : mm_c301.all (fun q => decide (decode cX12_parse q.1 = .ok q.2)) = true := by decide +kernel
set_option maxRecDepth 100000 in
theorem mm_d302 : mm_c302.all (fun q => decide (decode cX12_freshAt q.1 = .ok q.2)) = true := by decide +kernel
set_option maxRecDepth 100000 in
theorem mm_d303 : mm_c303.all (fun q => decide (decode cX12_headWrong q.1 = .ok q.2)) = true := by decide +kernel
set_option maxRecDepth 100000 in
theorem mm_d304 : mm_c304.all (fun q => decide (decode cX12_isTaken q.1 = .ok q.2)) = true := by decide +kernel
set_option maxRecDepth 100000 in
theorem mm_d305 : mm_c305.all (fun q => decide (decode cX12_isPlaceFor q.1 = .ok q.2)) = true := by decide +kernel
set_option maxRecDepth 100000 in
theorem mm_d306 : mm_c306.all (fun q => decide (decode cX12_isKind q.1 = .ok q.2)) = true := by decide +kernel
set_option maxRecDepth 100000 in
theorem mm_d307 : mm_c307.all (fun q => decide (decode cX12_pictureWrong q.1 = .ok q.2)) = true := by decide +kernel
set_option maxRecDepth 100000 in
theorem mm_d308 : mm_c308.all (fun q => decide (decode cX12_newFilm q.1 = .ok q.2)) = true := by decide +kernel
set_option maxRecDepth 100000 in
theorem mm_d309 : mm_c309.all (fun q => decide (decode cX12_hand q.1 = .ok q.2)) = true := by decide +kernel
set_option maxRecDepth 100000 in
theorem mm_d310 : mm_c310.all (fun q => decide (decode cX12_read q.1 = .ok q.2)) = true := by decide +kernel
set_option maxRecDepth 100000 in
theorem mm_d311 : mm_c311.all (fun q => decide (decode cX12_isFilm q.1 = .ok q.2)) = true := by decide +kernel
set_option maxRecDepth 100000 in
theorem mm_d312 : mm_c312.all (fun q => decide (decode cX12_bytes q.1 = .ok q.2)) = true := by decide +kernel
set_option maxRecDepth 100000 in
theorem mm_d313 : mm_c313.all (fun q => decide (decode cX12_film q.1 = .ok q.2)) = true := by decide +kernel
set_option maxRecDepth 100000 in
theorem mm_d314 : mm_c314.all (fun q => decide (decode cX12_isCoded q.1 = .ok q.2)) = true := by decide +kernel
set_option maxRecDepth 100000 in
theorem mm_d315 : mm_c315.all (fun q => decide (decode cX12_coded q.1 = .ok q.2)) = true := by decide +kernel
set_option maxRecDepth 100000 in
theorem mm_d316 : mm_c316.all (fun q => decide (decode cX12_partsOf q.1 = .ok q.2)) = true := by decide +kernel
set_option maxRecDepth 100000 in
theorem mm_d317 : mm_c317.all (fun q => decide (decode cX12_part q.1 = .ok q.2)) = true := by decide +kernel
set_option maxRecDepth 100000 in
theorem mm_d318 : mm_c318.all (fun q => decide (decode cX12_codedAt q.1 = .ok q.2)) = true := by decide +kernel
set_option maxRecDepth 100000 in
theorem mm_d319 : mm_c319.all (fun q => decide (decode cX12_filmCell q.1 = .ok q.2)) = true := by decide +kernel
set_option maxRecDepth 100000 in
theorem mm_d320 : mm_c320.all (fun q => decide (decode cX12_isLooked q.1 = .ok q.2)) = true := by decide +kernel
set_option maxRecDepth 100000 in
theorem mm_d321 : mm_c321.all (fun q => decide (decode cX12_look q.1 = .ok q.2)) = true := by decide +kernel
set_option maxRecDepth 100000 in
theorem mm_d322 : mm_c322.all (fun q => decide (decode cX12_mended q.1 = .ok q.2)) = true := by decide +kernel
