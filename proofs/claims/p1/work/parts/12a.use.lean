/-! the tables of each method, checked -/
set_option maxRecDepth 100000 in
theorem zu_J0_charAt_5068e : z_useok 2 = true := by decide +kernel
set_option maxRecDepth 100000 in
theorem zu_J0_checkIndex_df160 : z_useok 4 = true := by decide +kernel
set_option maxRecDepth 100000 in
theorem zu_J0_coder_7d493 : z_useok 5 = true := by decide +kernel
set_option maxRecDepth 100000 in
theorem zu_J0_isLatin1_aae02 : z_useok 8 = true := by decide +kernel
set_option maxRecDepth 100000 in
theorem zu_J0_length_8abf5 : z_useok 9 = true := by decide +kernel
set_option maxRecDepth 100000 in
theorem zu_J1_charAt_3b067 : z_useok 11 = true := by decide +kernel
set_option maxRecDepth 100000 in
theorem zu_J3_checkIndex_8e157 : z_useok 24 = true := by decide +kernel
set_option maxRecDepth 100000 in
theorem zu_J7_fill_53178 : z_useok 28 = true := by decide +kernel
set_option maxRecDepth 100000 in
theorem zu_X0_init : z_useok 37 = true := by decide +kernel
set_option maxRecDepth 100000 in
theorem zu_X1_init : z_useok 42 = true := by decide +kernel
set_option maxRecDepth 100000 in
theorem zu_X2_init : z_useok 50 = true := by decide +kernel
set_option maxRecDepth 100000 in
theorem zu_X3_init : z_useok 63 = true := by decide +kernel
set_option maxRecDepth 100000 in
theorem zu_X3_living : z_useok 65 = true := by decide +kernel
set_option maxRecDepth 100000 in
theorem zu_X4_clause : z_useok 74 = true := by decide +kernel
set_option maxRecDepth 100000 in
theorem zu_X4_init : z_useok 75 = true := by decide +kernel
set_option maxRecDepth 100000 in
theorem zu_X4_read : z_useok 79 = true := by decide +kernel
set_option maxRecDepth 100000 in
theorem zu_X5_hoursPutBy : z_useok 85 = true := by decide +kernel
set_option maxRecDepth 100000 in
theorem zu_X5_init : z_useok 86 = true := by decide +kernel
set_option maxRecDepth 100000 in
theorem zu_X5_restore : z_useok 90 = true := by decide +kernel
set_option maxRecDepth 100000 in
theorem zu_X5_takeBack : z_useok 91 = true := by decide +kernel
set_option maxRecDepth 100000 in
theorem zu_X5_told : z_useok 92 = true := by decide +kernel
set_option maxRecDepth 100000 in
theorem zu_X6_init : z_useok 94 = true := by decide +kernel
set_option maxRecDepth 100000 in
theorem zu_X6_seenFrom : z_useok 95 = true := by decide +kernel
set_option maxRecDepth 100000 in
theorem zu_X7_init : z_useok 100 = true := by decide +kernel
set_option maxRecDepth 100000 in
theorem zu_X8_here : z_useok 106 = true := by decide +kernel
set_option maxRecDepth 100000 in
theorem zu_X8_init : z_useok 107 = true := by decide +kernel
set_option maxRecDepth 100000 in
theorem zu_X8_next : z_useok 109 = true := by decide +kernel
set_option maxRecDepth 100000 in
theorem zu_X8_takes : z_useok 111 = true := by decide +kernel
set_option maxRecDepth 100000 in
theorem zu_X10_clause : z_useok 116 = true := by decide +kernel
set_option maxRecDepth 100000 in
theorem zu_X10_init : z_useok 120 = true := by decide +kernel
set_option maxRecDepth 100000 in
theorem zu_X10_read : z_useok 121 = true := by decide +kernel
set_option maxRecDepth 100000 in
theorem zu_X11_ahead : z_useok 127 = true := by decide +kernel
set_option maxRecDepth 100000 in
theorem zu_X11_back : z_useok 128 = true := by decide +kernel
set_option maxRecDepth 100000 in
theorem zu_X11_best : z_useok 129 = true := by decide +kernel
set_option maxRecDepth 100000 in
theorem zu_X11_blind : z_useok 130 = true := by decide +kernel
set_option maxRecDepth 100000 in
theorem zu_X11_child : z_useok 131 = true := by decide +kernel
set_option maxRecDepth 100000 in
theorem zu_X11_count : z_useok 133 = true := by decide +kernel
set_option maxRecDepth 100000 in
theorem zu_X11_crowd : z_useok 134 = true := by decide +kernel
set_option maxRecDepth 100000 in
theorem zu_X11_crowds : z_useok 135 = true := by decide +kernel
set_option maxRecDepth 100000 in
theorem zu_X11_deaths : z_useok 136 = true := by decide +kernel
set_option maxRecDepth 100000 in
theorem zu_X11_end : z_useok 138 = true := by decide +kernel
set_option maxRecDepth 100000 in
theorem zu_X11_face : z_useok 139 = true := by decide +kernel
set_option maxRecDepth 100000 in
theorem zu_X11_fault : z_useok 140 = true := by decide +kernel
set_option maxRecDepth 100000 in
theorem zu_X11_fewest : z_useok 142 = true := by decide +kernel
set_option maxRecDepth 100000 in
theorem zu_X11_firstOf : z_useok 143 = true := by decide +kernel
set_option maxRecDepth 100000 in
theorem zu_X11_full : z_useok 144 = true := by decide +kernel
set_option maxRecDepth 100000 in
theorem zu_X11_go : z_useok 145 = true := by decide +kernel
set_option maxRecDepth 100000 in
theorem zu_X11_hang : z_useok 146 = true := by decide +kernel
set_option maxRecDepth 100000 in
theorem zu_X11_hear : z_useok 147 = true := by decide +kernel
set_option maxRecDepth 100000 in
theorem zu_X11_image : z_useok 148 = true := by decide +kernel
set_option maxRecDepth 100000 in
theorem zu_X11_init : z_useok 149 = true := by decide +kernel
set_option maxRecDepth 100000 in
theorem zu_X11_isClock : z_useok 150 = true := by decide +kernel
set_option maxRecDepth 100000 in
theorem zu_X11_isLiving : z_useok 151 = true := by decide +kernel
set_option maxRecDepth 100000 in
theorem zu_X11_isPerson : z_useok 152 = true := by decide +kernel
set_option maxRecDepth 100000 in
theorem zu_X11_kinds : z_useok 154 = true := by decide +kernel
set_option maxRecDepth 100000 in
theorem zu_X11_later : z_useok 155 = true := by decide +kernel
set_option maxRecDepth 100000 in
theorem zu_X11_living : z_useok 158 = true := by decide +kernel
set_option maxRecDepth 100000 in
theorem zu_X11_log : z_useok 159 = true := by decide +kernel
set_option maxRecDepth 100000 in
theorem zu_X11_looks : z_useok 160 = true := by decide +kernel
set_option maxRecDepth 100000 in
theorem zu_X11_lures : z_useok 161 = true := by decide +kernel
set_option maxRecDepth 100000 in
theorem zu_X11_middle : z_useok 162 = true := by decide +kernel
set_option maxRecDepth 100000 in
theorem zu_X11_near : z_useok 164 = true := by decide +kernel
set_option maxRecDepth 100000 in
theorem zu_X11_paint : z_useok 165 = true := by decide +kernel
set_option maxRecDepth 100000 in
theorem zu_X11_person : z_useok 166 = true := by decide +kernel
set_option maxRecDepth 100000 in
theorem zu_X11_ring : z_useok 168 = true := by decide +kernel
set_option maxRecDepth 100000 in
theorem zu_X11_rota : z_useok 169 = true := by decide +kernel
set_option maxRecDepth 100000 in
theorem zu_X11_seen : z_useok 170 = true := by decide +kernel
set_option maxRecDepth 100000 in
theorem zu_X11_sees : z_useok 171 = true := by decide +kernel
set_option maxRecDepth 100000 in
theorem zu_X11_send : z_useok 172 = true := by decide +kernel
