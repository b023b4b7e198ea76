set_option maxRecDepth 100000 in
theorem mm_d0 : mm_c0.all (fun q => decide (decode cX0_init q.1 = .ok q.2)) = true := by decide +kernel
set_option maxRecDepth 100000 in
theorem mm_d1 : mm_c1.all (fun q => decide (decode cX0_open q.1 = .ok q.2)) = true := by decide +kernel
set_option maxRecDepth 100000 in
theorem mm_d2 : mm_c2.all (fun q => decide (decode cX0_code q.1 = .ok q.2)) = true := by decide +kernel
set_option maxRecDepth 100000 in
theorem mm_d3 : mm_c3.all (fun q => decide (decode cX0_eight q.1 = .ok q.2)) = true := by decide +kernel
set_option maxRecDepth 100000 in
theorem mm_d4 : mm_c4.all (fun q => decide (decode cX0_digits q.1 = .ok q.2)) = true := by decide +kernel
set_option maxRecDepth 100000 in
theorem mm_d5 : mm_c5.all (fun q => decide (decode cX0_endsAsTold q.1 = .ok q.2)) = true := by decide +kernel
set_option maxRecDepth 100000 in
theorem mm_d6 : mm_c6.all (fun q => decide (decode cX0_startWriting q.1 = .ok q.2)) = true := by decide +kernel
set_option maxRecDepth 100000 in
theorem mm_d7 : mm_c7.all (fun q => decide (decode cX0_startCounting q.1 = .ok q.2)) = true := by decide +kernel
set_option maxRecDepth 100000 in
theorem mm_d8 : mm_c8.all (fun q => decide (decode cX0_write q.1 = .ok q.2)) = true := by decide +kernel
set_option maxRecDepth 100000 in
theorem mm_d9 : mm_c9.all (fun q => decide (decode cX0_writeCode q.1 = .ok q.2)) = true := by decide +kernel
set_option maxRecDepth 100000 in
theorem mm_d10 : mm_c10.all (fun q => decide (decode cX0_byteCount q.1 = .ok q.2)) = true := by decide +kernel
set_option maxRecDepth 100000 in
theorem mm_d11 : mm_c11.all (fun q => decide (decode cX0_codeLength q.1 = .ok q.2)) = true := by decide +kernel
set_option maxRecDepth 100000 in
theorem mm_d12 : mm_c12.all (fun q => decide (decode cX0_codeOfSigned q.1 = .ok q.2)) = true := by decide +kernel
set_option maxRecDepth 100000 in
theorem mm_d13 : mm_c13.all (fun q => decide (decode cX0_signedLength q.1 = .ok q.2)) = true := by decide +kernel
set_option maxRecDepth 100000 in
theorem mm_d14 : mm_c14.all (fun q => decide (decode cX0_signedOfCode q.1 = .ok q.2)) = true := by decide +kernel
set_option maxRecDepth 100000 in
theorem mm_d15 : mm_c15.all (fun q => decide (decode cX1_init q.1 = .ok q.2)) = true := by decide +kernel
set_option maxRecDepth 100000 in
theorem mm_d16 : mm_c16.all (fun q => decide (decode cX1_codePicture q.1 = .ok q.2)) = true := by decide +kernel
set_option maxRecDepth 100000 in
theorem mm_d17 : mm_c17.all (fun q => decide (decode cX1_findVector q.1 = .ok q.2)) = true := by decide +kernel
set_option maxRecDepth 100000 in
theorem mm_d18 : mm_c18.all (fun q => decide (decode cX1_tryWay q.1 = .ok q.2)) = true := by decide +kernel
set_option maxRecDepth 100000 in
theorem mm_d19 : mm_c19.all (fun q => decide (decode cX1_takeBest q.1 = .ok q.2)) = true := by decide +kernel
set_option maxRecDepth 100000 in
theorem mm_d20 : mm_c20.all (fun q => decide (decode cX1_writePart q.1 = .ok q.2)) = true := by decide +kernel
set_option maxRecDepth 100000 in
theorem mm_d21 : mm_c21.all (fun q => decide (decode cX2_init q.1 = .ok q.2)) = true := by decide +kernel
set_option maxRecDepth 100000 in
theorem mm_d22 : mm_c22.all (fun q => decide (decode cX2_start q.1 = .ok q.2)) = true := by decide +kernel
set_option maxRecDepth 100000 in
theorem mm_d23 : mm_c23.all (fun q => decide (decode cX2_append q.1 = .ok q.2)) = true := by decide +kernel
set_option maxRecDepth 100000 in
theorem mm_d24 : mm_c24.all (fun q => decide (decode cX2_appendByte q.1 = .ok q.2)) = true := by decide +kernel
set_option maxRecDepth 100000 in
theorem mm_d25 : mm_c25.all (fun q => decide (decode cX2_makeRoom q.1 = .ok q.2)) = true := by decide +kernel
set_option maxRecDepth 100000 in
theorem mm_d26 : mm_c26.all (fun q => decide (decode cX2_appendHead q.1 = .ok q.2)) = true := by decide +kernel
set_option maxRecDepth 100000 in
theorem mm_d27 : mm_c27.all (fun q => decide (decode cX2_appendPicture q.1 = .ok q.2)) = true := by decide +kernel
set_option maxRecDepth 100000 in
theorem mm_d28 : mm_c28.all (fun q => decide (decode cX2_openPictures q.1 = .ok q.2)) = true := by decide +kernel
set_option maxRecDepth 100000 in
theorem mm_d29 : mm_c29.all (fun q => decide (decode cX2_wrongPlace q.1 = .ok q.2)) = true := by decide +kernel
set_option maxRecDepth 100000 in
theorem mm_d30 : mm_c30.all (fun q => decide (decode cX2_byteAt q.1 = .ok q.2)) = true := by decide +kernel
set_option maxRecDepth 100000 in
theorem mm_d31 : mm_c31.all (fun q => decide (decode cX2_wrongInPicture q.1 = .ok q.2)) = true := by decide +kernel
set_option maxRecDepth 100000 in
theorem mm_d32 : mm_c32.all (fun q => decide (decode cX2_wrongInSize q.1 = .ok q.2)) = true := by decide +kernel
set_option maxRecDepth 100000 in
theorem mm_d33 : mm_c33.all (fun q => decide (decode cX2_kindFits q.1 = .ok q.2)) = true := by decide +kernel
set_option maxRecDepth 100000 in
theorem mm_d34 : mm_c34.all (fun q => decide (decode cX2_placeFits q.1 = .ok q.2)) = true := by decide +kernel
set_option maxRecDepth 100000 in
theorem mm_d35 : mm_c35.all (fun q => decide (decode cX2_anchorAhead q.1 = .ok q.2)) = true := by decide +kernel
set_option maxRecDepth 100000 in
theorem mm_d36 : mm_c36.all (fun q => decide (decode cX2_markGroups q.1 = .ok q.2)) = true := by decide +kernel
set_option maxRecDepth 100000 in
theorem mm_d37 : mm_c37.all (fun q => decide (decode cX2_groupStart q.1 = .ok q.2)) = true := by decide +kernel
set_option maxRecDepth 100000 in
theorem mm_d38 : mm_c38.all (fun q => decide (decode cX2_groupEnd q.1 = .ok q.2)) = true := by decide +kernel
set_option maxRecDepth 100000 in
theorem mm_d39 : mm_c39.all (fun q => decide (decode cX2_groupCount q.1 = .ok q.2)) = true := by decide +kernel
set_option maxRecDepth 100000 in
theorem mm_d40 : mm_c40.all (fun q => decide (decode cX2_spotCount q.1 = .ok q.2)) = true := by decide +kernel
set_option maxRecDepth 100000 in
theorem mm_d41 : mm_c41.all (fun q => decide (decode cX2_partCount q.1 = .ok q.2)) = true := by decide +kernel
set_option maxRecDepth 100000 in
theorem mm_d42 : mm_c42.all (fun q => decide (decode cX2_endOf q.1 = .ok q.2)) = true := by decide +kernel
set_option maxRecDepth 100000 in
theorem mm_d43 : mm_c43.all (fun q => decide (decode cX2_isMended q.1 = .ok q.2)) = true := by decide +kernel
set_option maxRecDepth 100000 in
theorem mm_d44 : mm_c44.all (fun q => decide (decode cX3_init q.1 = .ok q.2)) = true := by decide +kernel
set_option maxRecDepth 100000 in
theorem mm_d45 : mm_c45.all (fun q => decide (decode cX3_wrongPlace q.1 = .ok q.2)) = true := by decide +kernel
set_option maxRecDepth 100000 in
theorem mm_d46 : mm_c46.all (fun q => decide (decode cX3_addStep q.1 = .ok q.2)) = true := by decide +kernel
set_option maxRecDepth 100000 in
theorem mm_d47 : mm_c47.all (fun q => decide (decode cX3_next q.1 = .ok q.2)) = true := by decide +kernel
set_option maxRecDepth 100000 in
theorem mm_d48 : mm_c48.all (fun q => decide (decode cX3_pass q.1 = .ok q.2)) = true := by decide +kernel
set_option maxRecDepth 100000 in
theorem mm_d49 : mm_c49.all (fun q => decide (decode cX3_readSum q.1 = .ok q.2)) = true := by decide +kernel
set_option maxRecDepth 100000 in
theorem mm_d50 : mm_c50.all (fun q => decide (decode cX3_readProduct q.1 = .ok q.2)) = true := by decide +kernel
set_option maxRecDepth 100000 in
theorem mm_d51 : mm_c51.all (fun q => decide (decode cX3_readFactor q.1 = .ok q.2)) = true := by decide +kernel
set_option maxRecDepth 100000 in
theorem mm_d52 : mm_c52.all (fun q => decide (decode cX3_readNumber q.1 = .ok q.2)) = true := by decide +kernel
set_option maxRecDepth 100000 in
theorem mm_d53 : mm_c53.all (fun q => decide (decode cX3_isDigitHere q.1 = .ok q.2)) = true := by decide +kernel
set_option maxRecDepth 100000 in
theorem mm_d54 : mm_c54.all (fun q => decide (decode cX3_readMinus q.1 = .ok q.2)) = true := by decide +kernel
set_option maxRecDepth 100000 in
theorem mm_d55 : mm_c55.all (fun q => decide (decode cX3_readParts q.1 = .ok q.2)) = true := by decide +kernel
set_option maxRecDepth 100000 in
theorem mm_d56 : mm_c56.all (fun q => decide (decode cX3_work q.1 = .ok q.2)) = true := by decide +kernel
set_option maxRecDepth 100000 in
theorem mm_d57 : mm_c57.all (fun q => decide (decode cX3_operands q.1 = .ok q.2)) = true := by decide +kernel
set_option maxRecDepth 100000 in
theorem mm_d58 : mm_c58.all (fun q => decide (decode cX3_join q.1 = .ok q.2)) = true := by decide +kernel
set_option maxRecDepth 100000 in
theorem mm_d59 : mm_c59.all (fun q => decide (decode cX4_init q.1 = .ok q.2)) = true := by decide +kernel
set_option maxRecDepth 100000 in
theorem mm_d60 : mm_c60.all (fun q => decide (decode cX4_takeReel q.1 = .ok q.2)) = true := by decide +kernel
set_option maxRecDepth 100000 in
theorem mm_d61 : mm_c61.all (fun q => decide (decode cX4_evenGroups q.1 = .ok q.2)) = true := by decide +kernel
set_option maxRecDepth 100000 in
theorem mm_d62 : mm_c62.all (fun q => decide (decode cX4_planGroups q.1 = .ok q.2)) = true := by decide +kernel
set_option maxRecDepth 100000 in
theorem mm_d63 : mm_c63.all (fun q => decide (decode cX4_groupNeed q.1 = .ok q.2)) = true := by decide +kernel
set_option maxRecDepth 100000 in
theorem mm_d64 : mm_c64.all (fun q => decide (decode cX4_layGroup q.1 = .ok q.2)) = true := by decide +kernel
