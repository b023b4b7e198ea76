set_option maxRecDepth 100000 in
theorem mm_d65 : mm_c65.all (fun q => decide (decode cX4_makeFilm q.1 = .ok q.2)) = true := by decide +kernel
set_option maxRecDepth 100000 in
theorem mm_d66 : mm_c66.all (fun q => decide (decode cX4_makeBlocks q.1 = .ok q.2)) = true := by decide +kernel
set_option maxRecDepth 100000 in
theorem mm_d67 : mm_c67.all (fun q => decide (decode cX4_makeOthers q.1 = .ok q.2)) = true := by decide +kernel
set_option maxRecDepth 100000 in
theorem mm_d68 : mm_c68.all (fun q => decide (decode cX4_startCut q.1 = .ok q.2)) = true := by decide +kernel
set_option maxRecDepth 100000 in
theorem mm_d69 : mm_c69.all (fun q => decide (decode cX4_addRow q.1 = .ok q.2)) = true := by decide +kernel
set_option maxRecDepth 100000 in
theorem mm_d70 : mm_c70.all (fun q => decide (decode cX4_keepGroup q.1 = .ok q.2)) = true := by decide +kernel
set_option maxRecDepth 100000 in
theorem mm_d71 : mm_c71.all (fun q => decide (decode cX4_makeAnew q.1 = .ok q.2)) = true := by decide +kernel
set_option maxRecDepth 100000 in
theorem mm_d72 : mm_c72.all (fun q => decide (decode cX5_init q.1 = .ok q.2)) = true := by decide +kernel
set_option maxRecDepth 100000 in
theorem mm_d73 : mm_c73.all (fun q => decide (decode cX5_openPicture q.1 = .ok q.2)) = true := by decide +kernel
set_option maxRecDepth 100000 in
theorem mm_d74 : mm_c74.all (fun q => decide (decode cX5_goTo q.1 = .ok q.2)) = true := by decide +kernel
set_option maxRecDepth 100000 in
theorem mm_d75 : mm_c75.all (fun q => decide (decode cX5_wayCount q.1 = .ok q.2)) = true := by decide +kernel
set_option maxRecDepth 100000 in
theorem mm_d76 : mm_c76.all (fun q => decide (decode cX5_modeOf q.1 = .ok q.2)) = true := by decide +kernel
set_option maxRecDepth 100000 in
theorem mm_d77 : mm_c77.all (fun q => decide (decode cX5_tells q.1 = .ok q.2)) = true := by decide +kernel
set_option maxRecDepth 100000 in
theorem mm_d78 : mm_c78.all (fun q => decide (decode cX5_takeVectors q.1 = .ok q.2)) = true := by decide +kernel
set_option maxRecDepth 100000 in
theorem mm_d79 : mm_c79.all (fun q => decide (decode cX5_foretell q.1 = .ok q.2)) = true := by decide +kernel
set_option maxRecDepth 100000 in
theorem mm_d80 : mm_c80.all (fun q => decide (decode cX5_spread q.1 = .ok q.2)) = true := by decide +kernel
set_option maxRecDepth 100000 in
theorem mm_d81 : mm_c81.all (fun q => decide (decode cX5_mean q.1 = .ok q.2)) = true := by decide +kernel
set_option maxRecDepth 100000 in
theorem mm_d82 : mm_c82.all (fun q => decide (decode cX5_fetch q.1 = .ok q.2)) = true := by decide +kernel
set_option maxRecDepth 100000 in
theorem mm_d83 : mm_c83.all (fun q => decide (decode cX5_farAt q.1 = .ok q.2)) = true := by decide +kernel
set_option maxRecDepth 100000 in
theorem mm_d84 : mm_c84.all (fun q => decide (decode cX5_lineUp q.1 = .ok q.2)) = true := by decide +kernel
set_option maxRecDepth 100000 in
theorem mm_d85 : mm_c85.all (fun q => decide (decode cX5_fetchRow q.1 = .ok q.2)) = true := by decide +kernel
set_option maxRecDepth 100000 in
theorem mm_d86 : mm_c86.all (fun q => decide (decode cX5_placeInPart q.1 = .ok q.2)) = true := by decide +kernel
set_option maxRecDepth 100000 in
theorem mm_d87 : mm_c87.all (fun q => decide (decode cX5_turn q.1 = .ok q.2)) = true := by decide +kernel
set_option maxRecDepth 100000 in
theorem mm_d88 : mm_c88.all (fun q => decide (decode cX5_turnFour q.1 = .ok q.2)) = true := by decide +kernel
set_option maxRecDepth 100000 in
theorem mm_d89 : mm_c89.all (fun q => decide (decode cX5_levelCount q.1 = .ok q.2)) = true := by decide +kernel
set_option maxRecDepth 100000 in
theorem mm_d90 : mm_c90.all (fun q => decide (decode cX5_makeForetold q.1 = .ok q.2)) = true := by decide +kernel
set_option maxRecDepth 100000 in
theorem mm_d91 : mm_c91.all (fun q => decide (decode cX5_addRest q.1 = .ok q.2)) = true := by decide +kernel
set_option maxRecDepth 100000 in
theorem mm_d92 : mm_c92.all (fun q => decide (decode cX5_takeLevels q.1 = .ok q.2)) = true := by decide +kernel
set_option maxRecDepth 100000 in
theorem mm_d93 : mm_c93.all (fun q => decide (decode cX5_exchange q.1 = .ok q.2)) = true := by decide +kernel
set_option maxRecDepth 100000 in
theorem mm_d94 : mm_c94.all (fun q => decide (decode cX6_init q.1 = .ok q.2)) = true := by decide +kernel
set_option maxRecDepth 100000 in
theorem mm_d95 : mm_c95.all (fun q => decide (decode cX6_resize q.1 = .ok q.2)) = true := by decide +kernel
set_option maxRecDepth 100000 in
theorem mm_d96 : mm_c96.all (fun q => decide (decode cX6_wide q.1 = .ok q.2)) = true := by decide +kernel
set_option maxRecDepth 100000 in
theorem mm_d97 : mm_c97.all (fun q => decide (decode cX6_high q.1 = .ok q.2)) = true := by decide +kernel
set_option maxRecDepth 100000 in
theorem mm_d98 : mm_c98.all (fun q => decide (decode cX6_base q.1 = .ok q.2)) = true := by decide +kernel
set_option maxRecDepth 100000 in
theorem mm_d99 : mm_c99.all (fun q => decide (decode cX6_total q.1 = .ok q.2)) = true := by decide +kernel
set_option maxRecDepth 100000 in
theorem mm_d100 : mm_c100.all (fun q => decide (decode cX6_isAsLarge q.1 = .ok q.2)) = true := by decide +kernel
set_option maxRecDepth 100000 in
theorem mm_d101 : mm_c101.all (fun q => decide (decode cX6_flood q.1 = .ok q.2)) = true := by decide +kernel
set_option maxRecDepth 100000 in
theorem mm_d102 : mm_c102.all (fun q => decide (decode cX6_become q.1 = .ok q.2)) = true := by decide +kernel
set_option maxRecDepth 100000 in
theorem mm_d103 : mm_c103.all (fun q => decide (decode cX6_nearest q.1 = .ok q.2)) = true := by decide +kernel
set_option maxRecDepth 100000 in
theorem mm_d104 : mm_c104.all (fun q => decide (decode cX6_partOf q.1 = .ok q.2)) = true := by decide +kernel
set_option maxRecDepth 100000 in
theorem mm_d105 : mm_c105.all (fun q => decide (decode cX6_farFrom q.1 = .ok q.2)) = true := by decide +kernel
set_option maxRecDepth 100000 in
theorem mm_d106 : mm_c106.all (fun q => decide (decode cX6_isOtherShot q.1 = .ok q.2)) = true := by decide +kernel
set_option maxRecDepth 100000 in
theorem mm_d107 : mm_c107.all (fun q => decide (decode cX6_movedFrom q.1 = .ok q.2)) = true := by decide +kernel
set_option maxRecDepth 100000 in
theorem mm_d108 : mm_c108.all (fun q => decide (decode cX6_partFarFrom q.1 = .ok q.2)) = true := by decide +kernel
set_option maxRecDepth 100000 in
theorem mm_d109 : mm_c109.all (fun q => decide (decode cX7_init q.1 = .ok q.2)) = true := by decide +kernel
set_option maxRecDepth 100000 in
theorem mm_d110 : mm_c110.all (fun q => decide (decode cX7_begin q.1 = .ok q.2)) = true := by decide +kernel
set_option maxRecDepth 100000 in
theorem mm_d111 : mm_c111.all (fun q => decide (decode cX7_goTo q.1 = .ok q.2)) = true := by decide +kernel
set_option maxRecDepth 100000 in
theorem mm_d112 : mm_c112.all (fun q => decide (decode cX7_goOn q.1 = .ok q.2)) = true := by decide +kernel
set_option maxRecDepth 100000 in
theorem mm_d113 : mm_c113.all (fun q => decide (decode cX8_init q.1 = .ok q.2)) = true := by decide +kernel
set_option maxRecDepth 100000 in
theorem mm_d114 : mm_c114.all (fun q => decide (decode cX8_readAnew q.1 = .ok q.2)) = true := by decide +kernel
set_option maxRecDepth 100000 in
theorem mm_d115 : mm_c115.all (fun q => decide (decode cX8_readPicture q.1 = .ok q.2)) = true := by decide +kernel
set_option maxRecDepth 100000 in
theorem mm_d116 : mm_c116.all (fun q => decide (decode cX8_mend q.1 = .ok q.2)) = true := by decide +kernel
