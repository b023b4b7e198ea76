set_option maxRecDepth 100000 in
theorem mm_d251 : mm_c251.all (fun q => decide (decode cX12_between q.1 = .ok q.2)) = true := by decide +kernel
set_option maxRecDepth 100000 in
theorem mm_d252 : mm_c252.all (fun q => decide (decode cX12_planeOf q.1 = .ok q.2)) = true := by decide +kernel
set_option maxRecDepth 100000 in
theorem mm_d253 : mm_c253.all (fun q => decide (decode cX12_cellOfBlock q.1 = .ok q.2)) = true := by decide +kernel
set_option maxRecDepth 100000 in
theorem mm_d254 : mm_c254.all (fun q => decide (decode cX12_scan q.1 = .ok q.2)) = true := by decide +kernel
set_option maxRecDepth 100000 in
theorem mm_d255 : mm_c255.all (fun q => decide (decode cX12_sign q.1 = .ok q.2)) = true := by decide +kernel
set_option maxRecDepth 100000 in
theorem mm_d256 : mm_c256.all (fun q => decide (decode cX12_turnSquare q.1 = .ok q.2)) = true := by decide +kernel
set_option maxRecDepth 100000 in
theorem mm_d257 : mm_c257.all (fun q => decide (decode cX12_restOf q.1 = .ok q.2)) = true := by decide +kernel
set_option maxRecDepth 100000 in
theorem mm_d258 : mm_c258.all (fun q => decide (decode cX12_readBlock q.1 = .ok q.2)) = true := by decide +kernel
set_option maxRecDepth 100000 in
theorem mm_d259 : mm_c259.all (fun q => decide (decode cX12_partNumber q.1 = .ok q.2)) = true := by decide +kernel
set_option maxRecDepth 100000 in
theorem mm_d260 : mm_c260.all (fun q => decide (decode cX12_onLeft q.1 = .ok q.2)) = true := by decide +kernel
set_option maxRecDepth 100000 in
theorem mm_d261 : mm_c261.all (fun q => decide (decode cX12_howOf q.1 = .ok q.2)) = true := by decide +kernel
set_option maxRecDepth 100000 in
theorem mm_d262 : mm_c262.all (fun q => decide (decode cX12_ways q.1 = .ok q.2)) = true := by decide +kernel
set_option maxRecDepth 100000 in
theorem mm_d263 : mm_c263.all (fun q => decide (decode cX12_readVector q.1 = .ok q.2)) = true := by decide +kernel
set_option maxRecDepth 100000 in
theorem mm_d264 : mm_c264.all (fun q => decide (decode cX12_beSkipped q.1 = .ok q.2)) = true := by decide +kernel
set_option maxRecDepth 100000 in
theorem mm_d265 : mm_c265.all (fun q => decide (decode cX12_readPart q.1 = .ok q.2)) = true := by decide +kernel
set_option maxRecDepth 100000 in
theorem mm_d266 : mm_c266.all (fun q => decide (decode cX12_keepPart q.1 = .ok q.2)) = true := by decide +kernel
set_option maxRecDepth 100000 in
theorem mm_d267 : mm_c267.all (fun q => decide (decode cX12_lay q.1 = .ok q.2)) = true := by decide +kernel
set_option maxRecDepth 100000 in
theorem mm_d268 : mm_c268.all (fun q => decide (decode cX12_mendPart q.1 = .ok q.2)) = true := by decide +kernel
set_option maxRecDepth 100000 in
theorem mm_d269 : mm_c269.all (fun q => decide (decode cX12_readEnd q.1 = .ok q.2)) = true := by decide +kernel
set_option maxRecDepth 100000 in
theorem mm_d270 : mm_c270.all (fun q => decide (decode cX12_readBlocks q.1 = .ok q.2)) = true := by decide +kernel
set_option maxRecDepth 100000 in
theorem mm_d271 : mm_c271.all (fun q => decide (decode cX12_unlift q.1 = .ok q.2)) = true := by decide +kernel
set_option maxRecDepth 100000 in
theorem mm_d272 : mm_c272.all (fun q => decide (decode cX12_lift q.1 = .ok q.2)) = true := by decide +kernel
set_option maxRecDepth 100000 in
theorem mm_d273 : mm_c273.all (fun q => decide (decode cX12_linesThrough q.1 = .ok q.2)) = true := by decide +kernel
set_option maxRecDepth 100000 in
theorem mm_d274 : mm_c274.all (fun q => decide (decode cX12_readWavePlane q.1 = .ok q.2)) = true := by decide +kernel
set_option maxRecDepth 100000 in
theorem mm_d275 : mm_c275.all (fun q => decide (decode cX12_readWaves q.1 = .ok q.2)) = true := by decide +kernel
set_option maxRecDepth 100000 in
theorem mm_d276 : mm_c276.all (fun q => decide (decode cX12_readRunPlane q.1 = .ok q.2)) = true := by decide +kernel
set_option maxRecDepth 100000 in
theorem mm_d277 : mm_c277.all (fun q => decide (decode cX12_readRuns q.1 = .ok q.2)) = true := by decide +kernel
set_option maxRecDepth 100000 in
theorem mm_d278 : mm_c278.all (fun q => decide (decode cX12_readPicture q.1 = .ok q.2)) = true := by decide +kernel
set_option maxRecDepth 100000 in
theorem mm_d279 : mm_c279.all (fun q => decide (decode cX12_sourceAt q.1 = .ok q.2)) = true := by decide +kernel
set_option maxRecDepth 100000 in
theorem mm_d280 : mm_c280.all (fun q => decide (decode cX12_sourceOfPart q.1 = .ok q.2)) = true := by decide +kernel
set_option maxRecDepth 100000 in
theorem mm_d281 : mm_c281.all (fun q => decide (decode cX12_levelsOf q.1 = .ok q.2)) = true := by decide +kernel
set_option maxRecDepth 100000 in
theorem mm_d282 : mm_c282.all (fun q => decide (decode cX12_writeBlock q.1 = .ok q.2)) = true := by decide +kernel
set_option maxRecDepth 100000 in
theorem mm_d283 : mm_c283.all (fun q => decide (decode cX12_seekVector q.1 = .ok q.2)) = true := by decide +kernel
set_option maxRecDepth 100000 in
theorem mm_d284 : mm_c284.all (fun q => decide (decode cX12_tryWay q.1 = .ok q.2)) = true := by decide +kernel
set_option maxRecDepth 100000 in
theorem mm_d285 : mm_c285.all (fun q => decide (decode cX12_makePart q.1 = .ok q.2)) = true := by decide +kernel
