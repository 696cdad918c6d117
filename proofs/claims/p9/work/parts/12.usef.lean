/-! the tables of each method, checked -/
set_option maxRecDepth 100000 in
theorem zu_X12_kinds : z_useok 246 = true := by decide +kernel
set_option maxRecDepth 100000 in
theorem zu_X12_later : z_useok 247 = true := by decide +kernel
set_option maxRecDepth 100000 in
theorem zu_X12_layGains : z_useok 248 = true := by decide +kernel
set_option maxRecDepth 100000 in
theorem zu_X12_leastOf : z_useok 249 = true := by decide +kernel
set_option maxRecDepth 100000 in
theorem zu_X12_lives : z_useok 250 = true := by decide +kernel
set_option maxRecDepth 100000 in
theorem zu_X12_living : z_useok 251 = true := by decide +kernel
set_option maxRecDepth 100000 in
theorem zu_X12_log : z_useok 252 = true := by decide +kernel
set_option maxRecDepth 100000 in
theorem zu_X12_look : z_useok 253 = true := by decide +kernel
set_option maxRecDepth 100000 in
theorem zu_X12_looks : z_useok 254 = true := by decide +kernel
set_option maxRecDepth 100000 in
theorem zu_X12_looksAt : z_useok 255 = true := by decide +kernel
set_option maxRecDepth 100000 in
theorem zu_X12_lures : z_useok 256 = true := by decide +kernel
set_option maxRecDepth 100000 in
theorem zu_X12_middle : z_useok 257 = true := by decide +kernel
set_option maxRecDepth 100000 in
theorem zu_X12_mostOf : z_useok 258 = true := by decide +kernel
set_option maxRecDepth 100000 in
theorem zu_X12_near : z_useok 259 = true := by decide +kernel
set_option maxRecDepth 100000 in
theorem zu_X12_paint : z_useok 260 = true := by decide +kernel
set_option maxRecDepth 100000 in
theorem zu_X12_part : z_useok 261 = true := by decide +kernel
set_option maxRecDepth 100000 in
theorem zu_X12_person : z_useok 262 = true := by decide +kernel
set_option maxRecDepth 100000 in
theorem zu_X12_placeOf : z_useok 263 = true := by decide +kernel
set_option maxRecDepth 100000 in
theorem zu_X12_power : z_useok 264 = true := by decide +kernel
set_option maxRecDepth 100000 in
theorem zu_X12_put : z_useok 265 = true := by decide +kernel
set_option maxRecDepth 100000 in
theorem zu_X12_readClause : z_useok 266 = true := by decide +kernel
set_option maxRecDepth 100000 in
theorem zu_X12_readHouse : z_useok 267 = true := by decide +kernel
set_option maxRecDepth 100000 in
theorem zu_X12_readItem : z_useok 268 = true := by decide +kernel
set_option maxRecDepth 100000 in
theorem zu_X12_readItems : z_useok 269 = true := by decide +kernel
set_option maxRecDepth 100000 in
theorem zu_X12_readWay : z_useok 270 = true := by decide +kernel
set_option maxRecDepth 100000 in
theorem zu_X12_remember : z_useok 271 = true := by decide +kernel
set_option maxRecDepth 100000 in
theorem zu_X12_ring : z_useok 272 = true := by decide +kernel
set_option maxRecDepth 100000 in
theorem zu_X12_rota : z_useok 273 = true := by decide +kernel
set_option maxRecDepth 100000 in
theorem zu_X12_seen : z_useok 274 = true := by decide +kernel
set_option maxRecDepth 100000 in
theorem zu_X12_sees : z_useok 275 = true := by decide +kernel
set_option maxRecDepth 100000 in
theorem zu_X12_send : z_useok 276 = true := by decide +kernel
set_option maxRecDepth 100000 in
theorem zu_X12_sets : z_useok 277 = true := by decide +kernel
set_option maxRecDepth 100000 in
theorem zu_X12_shows : z_useok 278 = true := by decide +kernel
set_option maxRecDepth 100000 in
theorem zu_X12_spared : z_useok 279 = true := by decide +kernel
set_option maxRecDepth 100000 in
theorem zu_X12_starts : z_useok 280 = true := by decide +kernel
set_option maxRecDepth 100000 in
theorem zu_X12_starves : z_useok 281 = true := by decide +kernel
set_option maxRecDepth 100000 in
theorem zu_X12_still : z_useok 282 = true := by decide +kernel
set_option maxRecDepth 100000 in
theorem zu_X12_sum : z_useok 283 = true := by decide +kernel
set_option maxRecDepth 100000 in
theorem zu_X12_takes : z_useok 284 = true := by decide +kernel
set_option maxRecDepth 100000 in
theorem zu_X12_taste : z_useok 285 = true := by decide +kernel
