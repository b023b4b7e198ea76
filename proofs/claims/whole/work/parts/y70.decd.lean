set_option maxRecDepth 100000 in
theorem mm_d167 : mm_c167.all (fun q => decide (decode cX11_kept q.1 = .ok q.2)) = true := by decide +kernel
set_option maxRecDepth 100000 in
theorem mm_d168 : mm_c168.all (fun q => decide (decode cX11_forget q.1 = .ok q.2)) = true := by decide +kernel
set_option maxRecDepth 100000 in
theorem mm_d169 : mm_c169.all (fun q => decide (decode cX11_filter q.1 = .ok q.2)) = true := by decide +kernel
set_option maxRecDepth 100000 in
theorem mm_d170 : mm_c170.all (fun q => decide (decode cX11_apply q.1 = .ok q.2)) = true := by decide +kernel
set_option maxRecDepth 100000 in
theorem mm_d171 : mm_c171.all (fun q => decide (decode cX11_distance q.1 = .ok q.2)) = true := by decide +kernel
set_option maxRecDepth 100000 in
theorem mm_d172 : mm_c172.all (fun q => decide (decode cX11_first q.1 = .ok q.2)) = true := by decide +kernel
set_option maxRecDepth 100000 in
theorem mm_d173 : mm_c173.all (fun q => decide (decode cX11_twin q.1 = .ok q.2)) = true := by decide +kernel
set_option maxRecDepth 100000 in
theorem mm_d174 : mm_c174.all (fun q => decide (decode cX11_movement q.1 = .ok q.2)) = true := by decide +kernel
set_option maxRecDepth 100000 in
theorem mm_d175 : mm_c175.all (fun q => decide (decode cX11_play q.1 = .ok q.2)) = true := by decide +kernel
set_option maxRecDepth 100000 in
theorem mm_d176 : mm_c176.all (fun q => decide (decode cX11_tick q.1 = .ok q.2)) = true := by decide +kernel
set_option maxRecDepth 100000 in
theorem mm_d177 : mm_c177.all (fun q => decide (decode cX11_lose q.1 = .ok q.2)) = true := by decide +kernel
set_option maxRecDepth 100000 in
theorem mm_d178 : mm_c178.all (fun q => decide (decode cX11_seek q.1 = .ok q.2)) = true := by decide +kernel
set_option maxRecDepth 100000 in
theorem mm_d179 : mm_c179.all (fun q => decide (decode cX11_player q.1 = .ok q.2)) = true := by decide +kernel
set_option maxRecDepth 100000 in
theorem mm_d180 : mm_c180.all (fun q => decide (decode cX11_frame q.1 = .ok q.2)) = true := by decide +kernel
set_option maxRecDepth 100000 in
theorem mm_d181 : mm_c181.all (fun q => decide (decode cX11_count q.1 = .ok q.2)) = true := by decide +kernel
set_option maxRecDepth 100000 in
theorem mm_d182 : mm_c182.all (fun q => decide (decode cX11_isSide q.1 = .ok q.2)) = true := by decide +kernel
set_option maxRecDepth 100000 in
theorem mm_d183 : mm_c183.all (fun q => decide (decode cX11_held q.1 = .ok q.2)) = true := by decide +kernel
set_option maxRecDepth 100000 in
theorem mm_d184 : mm_c184.all (fun q => decide (decode cX11_needSample q.1 = .ok q.2)) = true := by decide +kernel
set_option maxRecDepth 100000 in
theorem mm_d185 : mm_c185.all (fun q => decide (decode cX11_needWhat q.1 = .ok q.2)) = true := by decide +kernel
set_option maxRecDepth 100000 in
theorem mm_d186 : mm_c186.all (fun q => decide (decode cX11_needPlane q.1 = .ok q.2)) = true := by decide +kernel
set_option maxRecDepth 100000 in
theorem mm_d187 : mm_c187.all (fun q => decide (decode cX11_needCoded q.1 = .ok q.2)) = true := by decide +kernel
set_option maxRecDepth 100000 in
theorem mm_d188 : mm_c188.all (fun q => decide (decode cX11_needPlace q.1 = .ok q.2)) = true := by decide +kernel
set_option maxRecDepth 100000 in
theorem mm_d189 : mm_c189.all (fun q => decide (decode cX11_needPart q.1 = .ok q.2)) = true := by decide +kernel
set_option maxRecDepth 100000 in
theorem mm_d190 : mm_c190.all (fun q => decide (decode cX11_needFilm q.1 = .ok q.2)) = true := by decide +kernel
set_option maxRecDepth 100000 in
theorem mm_d191 : mm_c191.all (fun q => decide (decode cX11_placeOfSample q.1 = .ok q.2)) = true := by decide +kernel
set_option maxRecDepth 100000 in
theorem mm_d192 : mm_c192.all (fun q => decide (decode cX11_pictureShown q.1 = .ok q.2)) = true := by decide +kernel
set_option maxRecDepth 100000 in
theorem mm_d193 : mm_c193.all (fun q => decide (decode cX11_pictureAt q.1 = .ok q.2)) = true := by decide +kernel
set_option maxRecDepth 100000 in
theorem mm_d194 : mm_c194.all (fun q => decide (decode cX11_freePicture q.1 = .ok q.2)) = true := by decide +kernel
set_option maxRecDepth 100000 in
theorem mm_d195 : mm_c195.all (fun q => decide (decode cX11_filmAt q.1 = .ok q.2)) = true := by decide +kernel
set_option maxRecDepth 100000 in
theorem mm_d196 : mm_c196.all (fun q => decide (decode cX11_freeFilm q.1 = .ok q.2)) = true := by decide +kernel
set_option maxRecDepth 100000 in
theorem mm_d197 : mm_c197.all (fun q => decide (decode cX11_landed q.1 = .ok q.2)) = true := by decide +kernel
set_option maxRecDepth 100000 in
theorem mm_d198 : mm_c198.all (fun q => decide (decode cX11_pictureSum q.1 = .ok q.2)) = true := by decide +kernel
set_option maxRecDepth 100000 in
theorem mm_d199 : mm_c199.all (fun q => decide (decode cX11_canBeCut q.1 = .ok q.2)) = true := by decide +kernel
set_option maxRecDepth 100000 in
theorem mm_d200 : mm_c200.all (fun q => decide (decode cX11_playerAt q.1 = .ok q.2)) = true := by decide +kernel
set_option maxRecDepth 100000 in
theorem mm_d201 : mm_c201.all (fun q => decide (decode cX11_playingAt q.1 = .ok q.2)) = true := by decide +kernel
set_option maxRecDepth 100000 in
theorem mm_d202 : mm_c202.all (fun q => decide (decode cX12_init q.1 = .ok q.2)) = true := by decide +kernel
set_option maxRecDepth 100000 in
theorem mm_d203 : mm_c203.all (fun q => decide (decode cX12_thrown q.1 = .ok q.2)) = true := by decide +kernel
set_option maxRecDepth 100000 in
theorem mm_d204 : mm_c204.all (fun q => decide (decode cX12_in q.1 = .ok q.2)) = true := by decide +kernel
set_option maxRecDepth 100000 in
theorem mm_d205 : mm_c205.all (fun q => decide (decode cX12_hold q.1 = .ok q.2)) = true := by decide +kernel
set_option maxRecDepth 100000 in
theorem mm_d206 : mm_c206.all (fun q => decide (decode cX12_sideOf q.1 = .ok q.2)) = true := by decide +kernel
set_option maxRecDepth 100000 in
theorem mm_d207 : mm_c207.all (fun q => decide (decode cX12_from q.1 = .ok q.2)) = true := by decide +kernel
set_option maxRecDepth 100000 in
theorem mm_d208 : mm_c208.all (fun q => decide (decode cX12_isSide q.1 = .ok q.2)) = true := by decide +kernel
set_option maxRecDepth 100000 in
theorem mm_d209 : mm_c209.all (fun q => decide (decode cX12_floorHalf q.1 = .ok q.2)) = true := by decide +kernel
set_option maxRecDepth 100000 in
theorem mm_d210 : mm_c210.all (fun q => decide (decode cX12_isPicture q.1 = .ok q.2)) = true := by decide +kernel
set_option maxRecDepth 100000 in
theorem mm_d211 : mm_c211.all (fun q => decide (decode cX12_isPlane q.1 = .ok q.2)) = true := by decide +kernel
set_option maxRecDepth 100000 in
theorem mm_d212 : mm_c212.all (fun q => decide (decode cX12_cellOf q.1 = .ok q.2)) = true := by decide +kernel
set_option maxRecDepth 100000 in
theorem mm_d213 : mm_c213.all (fun q => decide (decode cX12_samplesOf q.1 = .ok q.2)) = true := by decide +kernel
set_option maxRecDepth 100000 in
theorem mm_d214 : mm_c214.all (fun q => decide (decode cX12_blank q.1 = .ok q.2)) = true := by decide +kernel
set_option maxRecDepth 100000 in
theorem mm_d215 : mm_c215.all (fun q => decide (decode cX12_fill q.1 = .ok q.2)) = true := by decide +kernel
set_option maxRecDepth 100000 in
theorem mm_d216 : mm_c216.all (fun q => decide (decode cX12_noise q.1 = .ok q.2)) = true := by decide +kernel
set_option maxRecDepth 100000 in
theorem mm_d217 : mm_c217.all (fun q => decide (decode cX12_shift q.1 = .ok q.2)) = true := by decide +kernel
set_option maxRecDepth 100000 in
theorem mm_d218 : mm_c218.all (fun q => decide (decode cX12_isSample q.1 = .ok q.2)) = true := by decide +kernel
set_option maxRecDepth 100000 in
theorem mm_d219 : mm_c219.all (fun q => decide (decode cX12_put q.1 = .ok q.2)) = true := by decide +kernel
set_option maxRecDepth 100000 in
theorem mm_d220 : mm_c220.all (fun q => decide (decode cX12_sample q.1 = .ok q.2)) = true := by decide +kernel
set_option maxRecDepth 100000 in
theorem mm_d221 : mm_c221.all (fun q => decide (decode cX12_size q.1 = .ok q.2)) = true := by decide +kernel
set_option maxRecDepth 100000 in
theorem mm_d222 : mm_c222.all (fun q => decide (decode cX12_drop q.1 = .ok q.2)) = true := by decide +kernel
set_option maxRecDepth 100000 in
theorem mm_d223 : mm_c223.all (fun q => decide (decode cX12_feed q.1 = .ok q.2)) = true := by decide +kernel
set_option maxRecDepth 100000 in
theorem mm_d224 : mm_c224.all (fun q => decide (decode cX12_alter q.1 = .ok q.2)) = true := by decide +kernel
set_option maxRecDepth 100000 in
theorem mm_d225 : mm_c225.all (fun q => decide (decode cX12_tape q.1 = .ok q.2)) = true := by decide +kernel
set_option maxRecDepth 100000 in
theorem mm_d226 : mm_c226.all (fun q => decide (decode cX12_wipe q.1 = .ok q.2)) = true := by decide +kernel
set_option maxRecDepth 100000 in
theorem mm_d227 : mm_c227.all (fun q => decide (decode cX12_bit q.1 = .ok q.2)) = true := by decide +kernel
set_option maxRecDepth 100000 in
theorem mm_d228 : mm_c228.all (fun q => decide (decode cX12_bits q.1 = .ok q.2)) = true := by decide +kernel
set_option maxRecDepth 100000 in
theorem mm_d229 : mm_c229.all (fun q => decide (decode cX12_codeOf q.1 = .ok q.2)) = true := by decide +kernel
set_option maxRecDepth 100000 in
theorem mm_d230 : mm_c230.all (fun q => decide (decode cX12_signedCode q.1 = .ok q.2)) = true := by decide +kernel
set_option maxRecDepth 100000 in
theorem mm_d231 : mm_c231.all (fun q => decide (decode cX12_fail q.1 = .ok q.2)) = true := by decide +kernel
set_option maxRecDepth 100000 in
theorem mm_d232 : mm_c232.all (fun q => decide (decode cX12_write q.1 = .ok q.2)) = true := by decide +kernel
set_option maxRecDepth 100000 in
theorem mm_d233 : mm_c233.all (fun q => decide (decode cX12_digits q.1 = .ok q.2)) = true := by decide +kernel
set_option maxRecDepth 100000 in
theorem mm_d234 : mm_c234.all (fun q => decide (decode cX12_writeCode q.1 = .ok q.2)) = true := by decide +kernel
set_option maxRecDepth 100000 in
theorem mm_d235 : mm_c235.all (fun q => decide (decode cX12_codeBits q.1 = .ok q.2)) = true := by decide +kernel
set_option maxRecDepth 100000 in
theorem mm_d236 : mm_c236.all (fun q => decide (decode cX12_unsigned q.1 = .ok q.2)) = true := by decide +kernel
set_option maxRecDepth 100000 in
theorem mm_d237 : mm_c237.all (fun q => decide (decode cX12_at q.1 = .ok q.2)) = true := by decide +kernel
set_option maxRecDepth 100000 in
theorem mm_d238 : mm_c238.all (fun q => decide (decode cX12_parts q.1 = .ok q.2)) = true := by decide +kernel
set_option maxRecDepth 100000 in
theorem mm_d239 : mm_c239.all (fun q => decide (decode cX12_anchor q.1 = .ok q.2)) = true := by decide +kernel
set_option maxRecDepth 100000 in
theorem mm_d240 : mm_c240.all (fun q => decide (decode cX12_mender q.1 = .ok q.2)) = true := by decide +kernel
set_option maxRecDepth 100000 in
theorem mm_d241 : mm_c241.all (fun q => decide (decode cX12_mend q.1 = .ok q.2)) = true := by decide +kernel
set_option maxRecDepth 100000 in
theorem mm_d242 : mm_c242.all (fun q => decide (decode cX12_clearMended q.1 = .ok q.2)) = true := by decide +kernel
set_option maxRecDepth 100000 in
theorem mm_d243 : mm_c243.all (fun q => decide (decode cX12_sizeOfPart q.1 = .ok q.2)) = true := by decide +kernel
set_option maxRecDepth 100000 in
theorem mm_d244 : mm_c244.all (fun q => decide (decode cX12_predFrom q.1 = .ok q.2)) = true := by decide +kernel
set_option maxRecDepth 100000 in
theorem mm_d245 : mm_c245.all (fun q => decide (decode cX12_partX q.1 = .ok q.2)) = true := by decide +kernel
set_option maxRecDepth 100000 in
theorem mm_d246 : mm_c246.all (fun q => decide (decode cX12_partY q.1 = .ok q.2)) = true := by decide +kernel
set_option maxRecDepth 100000 in
theorem mm_d247 : mm_c247.all (fun q => decide (decode cX12_foretell q.1 = .ok q.2)) = true := by decide +kernel
set_option maxRecDepth 100000 in
theorem mm_d248 : mm_c248.all (fun q => decide (decode cX12_meanAround q.1 = .ok q.2)) = true := by decide +kernel
set_option maxRecDepth 100000 in
theorem mm_d249 : mm_c249.all (fun q => decide (decode cX12_moved q.1 = .ok q.2)) = true := by decide +kernel
set_option maxRecDepth 100000 in
theorem mm_d250 : mm_c250.all (fun q => decide (decode cX12_nearest q.1 = .ok q.2)) = true := by decide +kernel
