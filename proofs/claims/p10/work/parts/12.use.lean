/-! the tables of each method, checked -/
set_option maxRecDepth 100000 in
theorem zu_J7_fill_53178 : z_useok 28 = true := by decide +kernel
set_option maxRecDepth 100000 in
theorem zu_X3_bear : z_useok 59 = true := by decide +kernel
set_option maxRecDepth 100000 in
theorem zu_X3_choice : z_useok 60 = true := by decide +kernel
set_option maxRecDepth 100000 in
theorem zu_X3_digest : z_useok 61 = true := by decide +kernel
set_option maxRecDepth 100000 in
theorem zu_X3_goWild : z_useok 62 = true := by decide +kernel
set_option maxRecDepth 100000 in
theorem zu_X3_isStill : z_useok 64 = true := by decide +kernel
set_option maxRecDepth 100000 in
theorem zu_X3_living : z_useok 65 = true := by decide +kernel
set_option maxRecDepth 100000 in
theorem zu_X3_look : z_useok 66 = true := by decide +kernel
set_option maxRecDepth 100000 in
theorem zu_X3_mate : z_useok 67 = true := by decide +kernel
set_option maxRecDepth 100000 in
theorem zu_X3_pass : z_useok 68 = true := by decide +kernel
set_option maxRecDepth 100000 in
theorem zu_X3_prepare : z_useok 69 = true := by decide +kernel
set_option maxRecDepth 100000 in
theorem zu_X3_starve : z_useok 70 = true := by decide +kernel
set_option maxRecDepth 100000 in
theorem zu_X3_strike : z_useok 71 = true := by decide +kernel
set_option maxRecDepth 100000 in
theorem zu_X3_walk : z_useok 72 = true := by decide +kernel
set_option maxRecDepth 100000 in
theorem zu_X3_weigh : z_useok 73 = true := by decide +kernel
set_option maxRecDepth 100000 in
theorem zu_X6_seenFrom : z_useok 95 = true := by decide +kernel
set_option maxRecDepth 100000 in
theorem zu_X9_worth : z_useok 114 = true := by decide +kernel
set_option maxRecDepth 100000 in
theorem zu_X11_isClock : z_useok 150 = true := by decide +kernel
set_option maxRecDepth 100000 in
theorem zu_X11_isLiving : z_useok 151 = true := by decide +kernel
set_option maxRecDepth 100000 in
theorem zu_X11_isPerson : z_useok 152 = true := by decide +kernel
set_option maxRecDepth 100000 in
theorem zu_X11_isRoom : z_useok 153 = true := by decide +kernel
set_option maxRecDepth 100000 in
theorem zu_X11_living : z_useok 158 = true := by decide +kernel
set_option maxRecDepth 100000 in
theorem zu_X11_power : z_useok 167 = true := by decide +kernel
set_option maxRecDepth 100000 in
theorem zu_X11_truth : z_useok 182 = true := by decide +kernel
set_option maxRecDepth 100000 in
theorem zu_X12_isIn : z_useok 236 = true := by decide +kernel
