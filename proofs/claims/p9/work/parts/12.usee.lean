/-! the tables of each method, checked -/
set_option maxRecDepth 100000 in
theorem zu_X12_draw : z_useok 206 = true := by decide +kernel
set_option maxRecDepth 100000 in
theorem zu_X12_eats : z_useok 207 = true := by decide +kernel
set_option maxRecDepth 100000 in
theorem zu_X12_end : z_useok 208 = true := by decide +kernel
set_option maxRecDepth 100000 in
theorem zu_X12_face : z_useok 209 = true := by decide +kernel
set_option maxRecDepth 100000 in
theorem zu_X12_fails : z_useok 210 = true := by decide +kernel
set_option maxRecDepth 100000 in
theorem zu_X12_fault : z_useok 211 = true := by decide +kernel
set_option maxRecDepth 100000 in
theorem zu_X12_feed : z_useok 212 = true := by decide +kernel
set_option maxRecDepth 100000 in
theorem zu_X12_feeds : z_useok 213 = true := by decide +kernel
set_option maxRecDepth 100000 in
theorem zu_X12_fewest : z_useok 214 = true := by decide +kernel
set_option maxRecDepth 100000 in
theorem zu_X12_firstHour : z_useok 215 = true := by decide +kernel
set_option maxRecDepth 100000 in
theorem zu_X12_firstOf : z_useok 216 = true := by decide +kernel
set_option maxRecDepth 100000 in
theorem zu_X12_full : z_useok 217 = true := by decide +kernel
set_option maxRecDepth 100000 in
theorem zu_X12_go : z_useok 218 = true := by decide +kernel
set_option maxRecDepth 100000 in
theorem zu_X12_goHour : z_useok 219 = true := by decide +kernel
set_option maxRecDepth 100000 in
theorem zu_X12_goThrough : z_useok 220 = true := by decide +kernel
set_option maxRecDepth 100000 in
theorem zu_X12_goTrial : z_useok 221 = true := by decide +kernel
set_option maxRecDepth 100000 in
theorem zu_X12_goesIn : z_useok 222 = true := by decide +kernel
set_option maxRecDepth 100000 in
theorem zu_X12_goesTo : z_useok 223 = true := by decide +kernel
set_option maxRecDepth 100000 in
theorem zu_X12_hang : z_useok 224 = true := by decide +kernel
set_option maxRecDepth 100000 in
theorem zu_X12_has : z_useok 225 = true := by decide +kernel
set_option maxRecDepth 100000 in
theorem zu_X12_hasRota : z_useok 226 = true := by decide +kernel
set_option maxRecDepth 100000 in
theorem zu_X12_hear : z_useok 227 = true := by decide +kernel
set_option maxRecDepth 100000 in
theorem zu_X12_here : z_useok 228 = true := by decide +kernel
set_option maxRecDepth 100000 in
theorem zu_X12_image : z_useok 229 = true := by decide +kernel
set_option maxRecDepth 100000 in
theorem zu_X12_init : z_useok 230 = true := by decide +kernel
set_option maxRecDepth 100000 in
theorem zu_X12_isAmong : z_useok 231 = true := by decide +kernel
set_option maxRecDepth 100000 in
theorem zu_X12_isBorn : z_useok 232 = true := by decide +kernel
set_option maxRecDepth 100000 in
theorem zu_X12_isClock : z_useok 233 = true := by decide +kernel
set_option maxRecDepth 100000 in
theorem zu_X12_isDigit : z_useok 234 = true := by decide +kernel
set_option maxRecDepth 100000 in
theorem zu_X12_isHere : z_useok 235 = true := by decide +kernel
set_option maxRecDepth 100000 in
theorem zu_X12_isIn : z_useok 236 = true := by decide +kernel
set_option maxRecDepth 100000 in
theorem zu_X12_isLiving : z_useok 237 = true := by decide +kernel
set_option maxRecDepth 100000 in
theorem zu_X12_isPerson : z_useok 238 = true := by decide +kernel
set_option maxRecDepth 100000 in
theorem zu_X12_isRest : z_useok 239 = true := by decide +kernel
set_option maxRecDepth 100000 in
theorem zu_X12_isRoom : z_useok 240 = true := by decide +kernel
set_option maxRecDepth 100000 in
theorem zu_X12_isRota : z_useok 241 = true := by decide +kernel
set_option maxRecDepth 100000 in
theorem zu_X12_isSign : z_useok 242 = true := by decide +kernel
set_option maxRecDepth 100000 in
theorem zu_X12_isSo : z_useok 243 = true := by decide +kernel
set_option maxRecDepth 100000 in
theorem zu_X12_isStill : z_useok 244 = true := by decide +kernel
set_option maxRecDepth 100000 in
theorem zu_X12_isWhole : z_useok 245 = true := by decide +kernel
