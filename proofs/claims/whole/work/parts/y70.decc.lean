set_option maxRecDepth 100000 in
theorem mm_d117 : mm_c117.all (fun q => decide (decode cX8_readParts q.1 = .ok q.2)) = true := by decide +kernel
set_option maxRecDepth 100000 in
theorem mm_d118 : mm_c118.all (fun q => decide (decode cX8_noteFacts q.1 = .ok q.2)) = true := by decide +kernel
set_option maxRecDepth 100000 in
theorem mm_d119 : mm_c119.all (fun q => decide (decode cX8_readPart q.1 = .ok q.2)) = true := by decide +kernel
set_option maxRecDepth 100000 in
theorem mm_d120 : mm_c120.all (fun q => decide (decode cX8_readBlock q.1 = .ok q.2)) = true := by decide +kernel
set_option maxRecDepth 100000 in
theorem mm_d121 : mm_c121.all (fun q => decide (decode cX8_readWaves q.1 = .ok q.2)) = true := by decide +kernel
set_option maxRecDepth 100000 in
theorem mm_d122 : mm_c122.all (fun q => decide (decode cX8_readRuns q.1 = .ok q.2)) = true := by decide +kernel
set_option maxRecDepth 100000 in
theorem mm_d123 : mm_c123.all (fun q => decide (decode cX9_init q.1 = .ok q.2)) = true := by decide +kernel
set_option maxRecDepth 100000 in
theorem mm_d124 : mm_c124.all (fun q => decide (decode cX9_readPlane q.1 = .ok q.2)) = true := by decide +kernel
set_option maxRecDepth 100000 in
theorem mm_d125 : mm_c125.all (fun q => decide (decode cX9_readRun q.1 = .ok q.2)) = true := by decide +kernel
set_option maxRecDepth 100000 in
theorem mm_d126 : mm_c126.all (fun q => decide (decode cX9_writePlane q.1 = .ok q.2)) = true := by decide +kernel
set_option maxRecDepth 100000 in
theorem mm_d127 : mm_c127.all (fun q => decide (decode cX9_findRuns q.1 = .ok q.2)) = true := by decide +kernel
set_option maxRecDepth 100000 in
theorem mm_d128 : mm_c128.all (fun q => decide (decode cX9_tryRun q.1 = .ok q.2)) = true := by decide +kernel
set_option maxRecDepth 100000 in
theorem mm_d129 : mm_c129.all (fun q => decide (decode cX9_take q.1 = .ok q.2)) = true := by decide +kernel
set_option maxRecDepth 100000 in
theorem mm_d130 : mm_c130.all (fun q => decide (decode cX9_tryTold q.1 = .ok q.2)) = true := by decide +kernel
set_option maxRecDepth 100000 in
theorem mm_d131 : mm_c131.all (fun q => decide (decode cX10_init q.1 = .ok q.2)) = true := by decide +kernel
set_option maxRecDepth 100000 in
theorem mm_d132 : mm_c132.all (fun q => decide (decode cX10_readPlane q.1 = .ok q.2)) = true := by decide +kernel
set_option maxRecDepth 100000 in
theorem mm_d133 : mm_c133.all (fun q => decide (decode cX10_readNumbers q.1 = .ok q.2)) = true := by decide +kernel
set_option maxRecDepth 100000 in
theorem mm_d134 : mm_c134.all (fun q => decide (decode cX10_writePlane q.1 = .ok q.2)) = true := by decide +kernel
set_option maxRecDepth 100000 in
theorem mm_d135 : mm_c135.all (fun q => decide (decode cX10_liftAll q.1 = .ok q.2)) = true := by decide +kernel
set_option maxRecDepth 100000 in
theorem mm_d136 : mm_c136.all (fun q => decide (decode cX10_lowerAll q.1 = .ok q.2)) = true := by decide +kernel
set_option maxRecDepth 100000 in
theorem mm_d137 : mm_c137.all (fun q => decide (decode cX10_lift q.1 = .ok q.2)) = true := by decide +kernel
set_option maxRecDepth 100000 in
theorem mm_d138 : mm_c138.all (fun q => decide (decode cX10_lower q.1 = .ok q.2)) = true := by decide +kernel
set_option maxRecDepth 100000 in
theorem mm_d139 : mm_c139.all (fun q => decide (decode cX11_init q.1 = .ok q.2)) = true := by decide +kernel
set_option maxRecDepth 100000 in
theorem mm_d140 : mm_c140.all (fun q => decide (decode cX11_blank q.1 = .ok q.2)) = true := by decide +kernel
set_option maxRecDepth 100000 in
theorem mm_d141 : mm_c141.all (fun q => decide (decode cX11_fill q.1 = .ok q.2)) = true := by decide +kernel
set_option maxRecDepth 100000 in
theorem mm_d142 : mm_c142.all (fun q => decide (decode cX11_noise q.1 = .ok q.2)) = true := by decide +kernel
set_option maxRecDepth 100000 in
theorem mm_d143 : mm_c143.all (fun q => decide (decode cX11_shift q.1 = .ok q.2)) = true := by decide +kernel
set_option maxRecDepth 100000 in
theorem mm_d144 : mm_c144.all (fun q => decide (decode cX11_put q.1 = .ok q.2)) = true := by decide +kernel
set_option maxRecDepth 100000 in
theorem mm_d145 : mm_c145.all (fun q => decide (decode cX11_sample q.1 = .ok q.2)) = true := by decide +kernel
set_option maxRecDepth 100000 in
theorem mm_d146 : mm_c146.all (fun q => decide (decode cX11_size q.1 = .ok q.2)) = true := by decide +kernel
set_option maxRecDepth 100000 in
theorem mm_d147 : mm_c147.all (fun q => decide (decode cX11_drop q.1 = .ok q.2)) = true := by decide +kernel
set_option maxRecDepth 100000 in
theorem mm_d148 : mm_c148.all (fun q => decide (decode cX11_feed q.1 = .ok q.2)) = true := by decide +kernel
set_option maxRecDepth 100000 in
theorem mm_d149 : mm_c149.all (fun q => decide (decode cX11_alter q.1 = .ok q.2)) = true := by decide +kernel
set_option maxRecDepth 100000 in
theorem mm_d150 : mm_c150.all (fun q => decide (decode cX11_tape q.1 = .ok q.2)) = true := by decide +kernel
set_option maxRecDepth 100000 in
theorem mm_d151 : mm_c151.all (fun q => decide (decode cX11_wipe q.1 = .ok q.2)) = true := by decide +kernel
set_option maxRecDepth 100000 in
theorem mm_d152 : mm_c152.all (fun q => decide (decode cX11_set q.1 = .ok q.2)) = true := by decide +kernel
set_option maxRecDepth 100000 in
theorem mm_d153 : mm_c153.all (fun q => decide (decode cX11_reel q.1 = .ok q.2)) = true := by decide +kernel
set_option maxRecDepth 100000 in
theorem mm_d154 : mm_c154.all (fun q => decide (decode cX11_unreel q.1 = .ok q.2)) = true := by decide +kernel
set_option maxRecDepth 100000 in
theorem mm_d155 : mm_c155.all (fun q => decide (decode cX11_make q.1 = .ok q.2)) = true := by decide +kernel
set_option maxRecDepth 100000 in
theorem mm_d156 : mm_c156.all (fun q => decide (decode cX11_read q.1 = .ok q.2)) = true := by decide +kernel
set_option maxRecDepth 100000 in
theorem mm_d157 : mm_c157.all (fun q => decide (decode cX11_bytes q.1 = .ok q.2)) = true := by decide +kernel
set_option maxRecDepth 100000 in
theorem mm_d158 : mm_c158.all (fun q => decide (decode cX11_film q.1 = .ok q.2)) = true := by decide +kernel
set_option maxRecDepth 100000 in
theorem mm_d159 : mm_c159.all (fun q => decide (decode cX11_coded q.1 = .ok q.2)) = true := by decide +kernel
set_option maxRecDepth 100000 in
theorem mm_d160 : mm_c160.all (fun q => decide (decode cX11_part q.1 = .ok q.2)) = true := by decide +kernel
set_option maxRecDepth 100000 in
theorem mm_d161 : mm_c161.all (fun q => decide (decode cX11_look q.1 = .ok q.2)) = true := by decide +kernel
set_option maxRecDepth 100000 in
theorem mm_d162 : mm_c162.all (fun q => decide (decode cX11_mended q.1 = .ok q.2)) = true := by decide +kernel
set_option maxRecDepth 100000 in
theorem mm_d163 : mm_c163.all (fun q => decide (decode cX11_shown q.1 = .ok q.2)) = true := by decide +kernel
set_option maxRecDepth 100000 in
theorem mm_d164 : mm_c164.all (fun q => decide (decode cX11_buffer q.1 = .ok q.2)) = true := by decide +kernel
set_option maxRecDepth 100000 in
theorem mm_d165 : mm_c165.all (fun q => decide (decode cX11_row q.1 = .ok q.2)) = true := by decide +kernel
set_option maxRecDepth 100000 in
theorem mm_d166 : mm_c166.all (fun q => decide (decode cX11_cut q.1 = .ok q.2)) = true := by decide +kernel
