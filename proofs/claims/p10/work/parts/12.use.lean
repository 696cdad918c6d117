/-! the tables of each method, checked -/
set_option maxRecDepth 100000 in
theorem zu_J6_compare_7cf53 : z_useok 26 = true := by decide +kernel
set_option maxRecDepth 100000 in
theorem zu_J7_fill_53178 : z_useok 28 = true := by decide +kernel
set_option maxRecDepth 100000 in
theorem zu_X0_draw : z_useok 36 = true := by decide +kernel
set_option maxRecDepth 100000 in
theorem zu_X1_agrees : z_useok 39 = true := by decide +kernel
set_option maxRecDepth 100000 in
theorem zu_X1_hold : z_useok 41 = true := by decide +kernel
set_option maxRecDepth 100000 in
theorem zu_X1_lastHeard : z_useok 43 = true := by decide +kernel
set_option maxRecDepth 100000 in
theorem zu_X3_bear : z_useok 59 = true := by decide +kernel
set_option maxRecDepth 100000 in
theorem zu_X3_choice : z_useok 60 = true := by decide +kernel
set_option maxRecDepth 100000 in
theorem zu_X3_digest : z_useok 61 = true := by decide +kernel
set_option maxRecDepth 100000 in
theorem zu_X3_goWild : z_useok 62 = true := by decide +kernel
set_option maxRecDepth 100000 in
theorem zu_X3_isStill : z_useok 64 = true := by decide +kernel
set_option maxRecDepth 100000 in
theorem zu_X3_living : z_useok 65 = true := by decide +kernel
set_option maxRecDepth 100000 in
theorem zu_X3_look : z_useok 66 = true := by decide +kernel
set_option maxRecDepth 100000 in
theorem zu_X3_mate : z_useok 67 = true := by decide +kernel
set_option maxRecDepth 100000 in
theorem zu_X3_pass : z_useok 68 = true := by decide +kernel
set_option maxRecDepth 100000 in
theorem zu_X3_prepare : z_useok 69 = true := by decide +kernel
set_option maxRecDepth 100000 in
theorem zu_X3_starve : z_useok 70 = true := by decide +kernel
set_option maxRecDepth 100000 in
theorem zu_X3_strike : z_useok 71 = true := by decide +kernel
set_option maxRecDepth 100000 in
theorem zu_X3_walk : z_useok 72 = true := by decide +kernel
set_option maxRecDepth 100000 in
theorem zu_X3_weigh : z_useok 73 = true := by decide +kernel
set_option maxRecDepth 100000 in
theorem zu_X5_forget : z_useok 84 = true := by decide +kernel
set_option maxRecDepth 100000 in
theorem zu_X5_hoursPutBy : z_useok 85 = true := by decide +kernel
set_option maxRecDepth 100000 in
theorem zu_X5_putBy : z_useok 89 = true := by decide +kernel
set_option maxRecDepth 100000 in
theorem zu_X5_told : z_useok 92 = true := by decide +kernel
set_option maxRecDepth 100000 in
theorem zu_X6_seenFrom : z_useok 95 = true := by decide +kernel
set_option maxRecDepth 100000 in
theorem zu_X8_append : z_useok 105 = true := by decide +kernel
set_option maxRecDepth 100000 in
theorem zu_X8_here : z_useok 106 = true := by decide +kernel
set_option maxRecDepth 100000 in
theorem zu_X8_isDigit : z_useok 108 = true := by decide +kernel
set_option maxRecDepth 100000 in
theorem zu_X8_next : z_useok 109 = true := by decide +kernel
set_option maxRecDepth 100000 in
theorem zu_X8_signsIn : z_useok 110 = true := by decide +kernel
set_option maxRecDepth 100000 in
theorem zu_X8_takes : z_useok 111 = true := by decide +kernel
set_option maxRecDepth 100000 in
theorem zu_X8_takesNumber : z_useok 112 = true := by decide +kernel
set_option maxRecDepth 100000 in
theorem zu_X9_worth : z_useok 114 = true := by decide +kernel
set_option maxRecDepth 100000 in
theorem zu_X11_child : z_useok 131 = true := by decide +kernel
set_option maxRecDepth 100000 in
theorem zu_X11_count : z_useok 133 = true := by decide +kernel
set_option maxRecDepth 100000 in
theorem zu_X11_crowd : z_useok 134 = true := by decide +kernel
set_option maxRecDepth 100000 in
theorem zu_X11_deaths : z_useok 136 = true := by decide +kernel
set_option maxRecDepth 100000 in
theorem zu_X11_digits : z_useok 137 = true := by decide +kernel
set_option maxRecDepth 100000 in
theorem zu_X11_end : z_useok 138 = true := by decide +kernel
set_option maxRecDepth 100000 in
theorem zu_X11_feed : z_useok 141 = true := by decide +kernel
set_option maxRecDepth 100000 in
theorem zu_X11_hear : z_useok 147 = true := by decide +kernel
set_option maxRecDepth 100000 in
theorem zu_X11_isClock : z_useok 150 = true := by decide +kernel
set_option maxRecDepth 100000 in
theorem zu_X11_isLiving : z_useok 151 = true := by decide +kernel
set_option maxRecDepth 100000 in
theorem zu_X11_isPerson : z_useok 152 = true := by decide +kernel
set_option maxRecDepth 100000 in
theorem zu_X11_isRoom : z_useok 153 = true := by decide +kernel
set_option maxRecDepth 100000 in
theorem zu_X11_line : z_useok 157 = true := by decide +kernel
set_option maxRecDepth 100000 in
theorem zu_X11_living : z_useok 158 = true := by decide +kernel
set_option maxRecDepth 100000 in
theorem zu_X11_log : z_useok 159 = true := by decide +kernel
set_option maxRecDepth 100000 in
theorem zu_X11_middle : z_useok 162 = true := by decide +kernel
set_option maxRecDepth 100000 in
theorem zu_X11_near : z_useok 164 = true := by decide +kernel
set_option maxRecDepth 100000 in
theorem zu_X11_person : z_useok 166 = true := by decide +kernel
set_option maxRecDepth 100000 in
theorem zu_X11_power : z_useok 167 = true := by decide +kernel
set_option maxRecDepth 100000 in
theorem zu_X11_ring : z_useok 168 = true := by decide +kernel
set_option maxRecDepth 100000 in
theorem zu_X11_seen : z_useok 170 = true := by decide +kernel
set_option maxRecDepth 100000 in
theorem zu_X11_sees : z_useok 171 = true := by decide +kernel
set_option maxRecDepth 100000 in
theorem zu_X11_shows : z_useok 173 = true := by decide +kernel
set_option maxRecDepth 100000 in
theorem zu_X11_slowerThan : z_useok 174 = true := by decide +kernel
set_option maxRecDepth 100000 in
theorem zu_X11_starvesIn : z_useok 177 = true := by decide +kernel
set_option maxRecDepth 100000 in
theorem zu_X11_still : z_useok 178 = true := by decide +kernel
set_option maxRecDepth 100000 in
theorem zu_X11_truth : z_useok 182 = true := by decide +kernel
set_option maxRecDepth 100000 in
theorem zu_X12_isIn : z_useok 236 = true := by decide +kernel
