/-! the tables of each method, checked -/
set_option maxRecDepth 100000 in
theorem zu_X11_shows : z_useok 173 = true := by decide +kernel
set_option maxRecDepth 100000 in
theorem zu_X11_spared : z_useok 175 = true := by decide +kernel
set_option maxRecDepth 100000 in
theorem zu_X11_starves : z_useok 176 = true := by decide +kernel
set_option maxRecDepth 100000 in
theorem zu_X11_still : z_useok 178 = true := by decide +kernel
set_option maxRecDepth 100000 in
theorem zu_X11_taste : z_useok 179 = true := by decide +kernel
set_option maxRecDepth 100000 in
theorem zu_X11_text : z_useok 180 = true := by decide +kernel
set_option maxRecDepth 100000 in
theorem zu_X11_thief : z_useok 181 = true := by decide +kernel
set_option maxRecDepth 100000 in
theorem zu_X11_undo : z_useok 183 = true := by decide +kernel
set_option maxRecDepth 100000 in
theorem zu_X11_wild : z_useok 184 = true := by decide +kernel
set_option maxRecDepth 100000 in
theorem zu_X11_wind : z_useok 185 = true := by decide +kernel
set_option maxRecDepth 100000 in
theorem zu_X12_ahead : z_useok 186 = true := by decide +kernel
set_option maxRecDepth 100000 in
theorem zu_X12_askFirst : z_useok 187 = true := by decide +kernel
set_option maxRecDepth 100000 in
theorem zu_X12_back : z_useok 189 = true := by decide +kernel
set_option maxRecDepth 100000 in
theorem zu_X12_best : z_useok 190 = true := by decide +kernel
set_option maxRecDepth 100000 in
theorem zu_X12_blind : z_useok 191 = true := by decide +kernel
set_option maxRecDepth 100000 in
theorem zu_X12_child : z_useok 194 = true := by decide +kernel
set_option maxRecDepth 100000 in
theorem zu_X12_clause : z_useok 195 = true := by decide +kernel
set_option maxRecDepth 100000 in
theorem zu_X12_count : z_useok 200 = true := by decide +kernel
set_option maxRecDepth 100000 in
theorem zu_X12_crowd : z_useok 201 = true := by decide +kernel
set_option maxRecDepth 100000 in
theorem zu_X12_crowds : z_useok 202 = true := by decide +kernel
set_option maxRecDepth 100000 in
theorem zu_X12_deaths : z_useok 204 = true := by decide +kernel
set_option maxRecDepth 100000 in
theorem zu_X12_end : z_useok 208 = true := by decide +kernel
set_option maxRecDepth 100000 in
theorem zu_X12_face : z_useok 209 = true := by decide +kernel
set_option maxRecDepth 100000 in
theorem zu_X12_fails : z_useok 210 = true := by decide +kernel
set_option maxRecDepth 100000 in
theorem zu_X12_fault : z_useok 211 = true := by decide +kernel
set_option maxRecDepth 100000 in
theorem zu_X12_fewest : z_useok 214 = true := by decide +kernel
set_option maxRecDepth 100000 in
theorem zu_X12_full : z_useok 217 = true := by decide +kernel
set_option maxRecDepth 100000 in
theorem zu_X12_go : z_useok 218 = true := by decide +kernel
set_option maxRecDepth 100000 in
theorem zu_X12_goThrough : z_useok 220 = true := by decide +kernel
set_option maxRecDepth 100000 in
theorem zu_X12_hang : z_useok 224 = true := by decide +kernel
set_option maxRecDepth 100000 in
theorem zu_X12_hear : z_useok 227 = true := by decide +kernel
set_option maxRecDepth 100000 in
theorem zu_X12_image : z_useok 229 = true := by decide +kernel
set_option maxRecDepth 100000 in
theorem zu_X12_init : z_useok 230 = true := by decide +kernel
set_option maxRecDepth 100000 in
theorem zu_X12_isAmong : z_useok 231 = true := by decide +kernel
set_option maxRecDepth 100000 in
theorem zu_X12_isClock : z_useok 233 = true := by decide +kernel
set_option maxRecDepth 100000 in
theorem zu_X12_isHere : z_useok 235 = true := by decide +kernel
set_option maxRecDepth 100000 in
theorem zu_X12_isIn : z_useok 236 = true := by decide +kernel
set_option maxRecDepth 100000 in
theorem zu_X12_isLiving : z_useok 237 = true := by decide +kernel
set_option maxRecDepth 100000 in
theorem zu_X12_isPerson : z_useok 238 = true := by decide +kernel
set_option maxRecDepth 100000 in
theorem zu_X12_isRoom : z_useok 240 = true := by decide +kernel
set_option maxRecDepth 100000 in
theorem zu_X12_kinds : z_useok 246 = true := by decide +kernel
set_option maxRecDepth 100000 in
theorem zu_X12_later : z_useok 247 = true := by decide +kernel
set_option maxRecDepth 100000 in
theorem zu_X12_living : z_useok 251 = true := by decide +kernel
set_option maxRecDepth 100000 in
theorem zu_X12_log : z_useok 252 = true := by decide +kernel
set_option maxRecDepth 100000 in
theorem zu_X12_look : z_useok 253 = true := by decide +kernel
set_option maxRecDepth 100000 in
theorem zu_X12_looks : z_useok 254 = true := by decide +kernel
set_option maxRecDepth 100000 in
theorem zu_X12_lures : z_useok 256 = true := by decide +kernel
set_option maxRecDepth 100000 in
theorem zu_X12_middle : z_useok 257 = true := by decide +kernel
set_option maxRecDepth 100000 in
theorem zu_X12_near : z_useok 259 = true := by decide +kernel
set_option maxRecDepth 100000 in
theorem zu_X12_paint : z_useok 260 = true := by decide +kernel
set_option maxRecDepth 100000 in
theorem zu_X12_person : z_useok 262 = true := by decide +kernel
set_option maxRecDepth 100000 in
theorem zu_X12_readClause : z_useok 266 = true := by decide +kernel
set_option maxRecDepth 100000 in
theorem zu_X12_readHouse : z_useok 267 = true := by decide +kernel
set_option maxRecDepth 100000 in
theorem zu_X12_ring : z_useok 272 = true := by decide +kernel
set_option maxRecDepth 100000 in
theorem zu_X12_rota : z_useok 273 = true := by decide +kernel
set_option maxRecDepth 100000 in
theorem zu_X12_seen : z_useok 274 = true := by decide +kernel
set_option maxRecDepth 100000 in
theorem zu_X12_sees : z_useok 275 = true := by decide +kernel
set_option maxRecDepth 100000 in
theorem zu_X12_send : z_useok 276 = true := by decide +kernel
set_option maxRecDepth 100000 in
theorem zu_X12_shows : z_useok 278 = true := by decide +kernel
set_option maxRecDepth 100000 in
theorem zu_X12_spared : z_useok 279 = true := by decide +kernel
set_option maxRecDepth 100000 in
theorem zu_X12_starts : z_useok 280 = true := by decide +kernel
set_option maxRecDepth 100000 in
theorem zu_X12_starves : z_useok 281 = true := by decide +kernel
set_option maxRecDepth 100000 in
theorem zu_X12_still : z_useok 282 = true := by decide +kernel
set_option maxRecDepth 100000 in
theorem zu_X12_taste : z_useok 285 = true := by decide +kernel
set_option maxRecDepth 100000 in
theorem zu_X12_text : z_useok 288 = true := by decide +kernel
set_option maxRecDepth 100000 in
theorem zu_X12_thief : z_useok 289 = true := by decide +kernel
set_option maxRecDepth 100000 in
theorem zu_X12_undo : z_useok 291 = true := by decide +kernel
set_option maxRecDepth 100000 in
theorem zu_X12_wild : z_useok 294 = true := by decide +kernel
set_option maxRecDepth 100000 in
theorem zu_X12_wind : z_useok 295 = true := by decide +kernel
