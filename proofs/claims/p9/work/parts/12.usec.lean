/-! the tables of each method, checked -/
set_option maxRecDepth 100000 in
theorem zu_X11_act : z_useok 126 = true := by decide +kernel
set_option maxRecDepth 100000 in
theorem zu_X11_ahead : z_useok 127 = true := by decide +kernel
set_option maxRecDepth 100000 in
theorem zu_X11_back : z_useok 128 = true := by decide +kernel
set_option maxRecDepth 100000 in
theorem zu_X11_best : z_useok 129 = true := by decide +kernel
set_option maxRecDepth 100000 in
theorem zu_X11_blind : z_useok 130 = true := by decide +kernel
set_option maxRecDepth 100000 in
theorem zu_X11_child : z_useok 131 = true := by decide +kernel
set_option maxRecDepth 100000 in
theorem zu_X11_clock : z_useok 132 = true := by decide +kernel
set_option maxRecDepth 100000 in
theorem zu_X11_count : z_useok 133 = true := by decide +kernel
set_option maxRecDepth 100000 in
theorem zu_X11_crowd : z_useok 134 = true := by decide +kernel
set_option maxRecDepth 100000 in
theorem zu_X11_crowds : z_useok 135 = true := by decide +kernel
set_option maxRecDepth 100000 in
theorem zu_X11_deaths : z_useok 136 = true := by decide +kernel
set_option maxRecDepth 100000 in
theorem zu_X11_digits : z_useok 137 = true := by decide +kernel
set_option maxRecDepth 100000 in
theorem zu_X11_end : z_useok 138 = true := by decide +kernel
set_option maxRecDepth 100000 in
theorem zu_X11_face : z_useok 139 = true := by decide +kernel
set_option maxRecDepth 100000 in
theorem zu_X11_fault : z_useok 140 = true := by decide +kernel
set_option maxRecDepth 100000 in
theorem zu_X11_feed : z_useok 141 = true := by decide +kernel
set_option maxRecDepth 100000 in
theorem zu_X11_fewest : z_useok 142 = true := by decide +kernel
set_option maxRecDepth 100000 in
theorem zu_X11_firstOf : z_useok 143 = true := by decide +kernel
set_option maxRecDepth 100000 in
theorem zu_X11_full : z_useok 144 = true := by decide +kernel
set_option maxRecDepth 100000 in
theorem zu_X11_go : z_useok 145 = true := by decide +kernel
set_option maxRecDepth 100000 in
theorem zu_X11_hang : z_useok 146 = true := by decide +kernel
set_option maxRecDepth 100000 in
theorem zu_X11_hear : z_useok 147 = true := by decide +kernel
set_option maxRecDepth 100000 in
theorem zu_X11_image : z_useok 148 = true := by decide +kernel
set_option maxRecDepth 100000 in
theorem zu_X11_init : z_useok 149 = true := by decide +kernel
set_option maxRecDepth 100000 in
theorem zu_X11_isClock : z_useok 150 = true := by decide +kernel
set_option maxRecDepth 100000 in
theorem zu_X11_isLiving : z_useok 151 = true := by decide +kernel
set_option maxRecDepth 100000 in
theorem zu_X11_isPerson : z_useok 152 = true := by decide +kernel
set_option maxRecDepth 100000 in
theorem zu_X11_isRoom : z_useok 153 = true := by decide +kernel
set_option maxRecDepth 100000 in
theorem zu_X11_kinds : z_useok 154 = true := by decide +kernel
set_option maxRecDepth 100000 in
theorem zu_X11_later : z_useok 155 = true := by decide +kernel
set_option maxRecDepth 100000 in
theorem zu_X11_learn : z_useok 156 = true := by decide +kernel
set_option maxRecDepth 100000 in
theorem zu_X11_line : z_useok 157 = true := by decide +kernel
set_option maxRecDepth 100000 in
theorem zu_X11_living : z_useok 158 = true := by decide +kernel
set_option maxRecDepth 100000 in
theorem zu_X11_log : z_useok 159 = true := by decide +kernel
set_option maxRecDepth 100000 in
theorem zu_X11_looks : z_useok 160 = true := by decide +kernel
set_option maxRecDepth 100000 in
theorem zu_X11_lures : z_useok 161 = true := by decide +kernel
set_option maxRecDepth 100000 in
theorem zu_X11_middle : z_useok 162 = true := by decide +kernel
set_option maxRecDepth 100000 in
theorem zu_X11_moveIn : z_useok 163 = true := by decide +kernel
set_option maxRecDepth 100000 in
theorem zu_X11_near : z_useok 164 = true := by decide +kernel
set_option maxRecDepth 100000 in
theorem zu_X11_paint : z_useok 165 = true := by decide +kernel
