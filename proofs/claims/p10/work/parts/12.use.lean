/-! the tables of each method, checked -/
set_option maxRecDepth 100000 in
theorem zu_J0_coder_7d493 : z_useok 5 = true := by decide +kernel
set_option maxRecDepth 100000 in
theorem zu_J0_indexOf_0f7a4 : z_useok 6 = true := by decide +kernel
set_option maxRecDepth 100000 in
theorem zu_J0_indexOf_7cf53 : z_useok 7 = true := by decide +kernel
set_option maxRecDepth 100000 in
theorem zu_J0_isLatin1_aae02 : z_useok 8 = true := by decide +kernel
set_option maxRecDepth 100000 in
theorem zu_J0_length_8abf5 : z_useok 9 = true := by decide +kernel
set_option maxRecDepth 100000 in
theorem zu_J1_canEncode_9a6ad : z_useok 10 = true := by decide +kernel
set_option maxRecDepth 100000 in
theorem zu_J1_indexOfChar_4cfef : z_useok 12 = true := by decide +kernel
set_option maxRecDepth 100000 in
theorem zu_J1_indexOf_4cfef : z_useok 13 = true := by decide +kernel
set_option maxRecDepth 100000 in
theorem zu_J6_bitCount_0f7a4 : z_useok 25 = true := by decide +kernel
set_option maxRecDepth 100000 in
theorem zu_J6_compare_7cf53 : z_useok 26 = true := by decide +kernel
set_option maxRecDepth 100000 in
theorem zu_J7_fill_53178 : z_useok 28 = true := by decide +kernel
set_option maxRecDepth 100000 in
theorem zu_X0_draw : z_useok 36 = true := by decide +kernel
set_option maxRecDepth 100000 in
theorem zu_X0_scatter : z_useok 38 = true := by decide +kernel
set_option maxRecDepth 100000 in
theorem zu_X1_agrees : z_useok 39 = true := by decide +kernel
set_option maxRecDepth 100000 in
theorem zu_X1_fits : z_useok 40 = true := by decide +kernel
set_option maxRecDepth 100000 in
theorem zu_X1_hold : z_useok 41 = true := by decide +kernel
set_option maxRecDepth 100000 in
theorem zu_X1_lastHeard : z_useok 43 = true := by decide +kernel
set_option maxRecDepth 100000 in
theorem zu_X1_roomOf : z_useok 44 = true := by decide +kernel
set_option maxRecDepth 100000 in
theorem zu_X1_ways : z_useok 45 = true := by decide +kernel
set_option maxRecDepth 100000 in
theorem zu_X2_begin : z_useok 46 = true := by decide +kernel
set_option maxRecDepth 100000 in
theorem zu_X2_fat : z_useok 47 = true := by decide +kernel
set_option maxRecDepth 100000 in
theorem zu_X2_first : z_useok 48 = true := by decide +kernel
set_option maxRecDepth 100000 in
theorem zu_X2_fullBehind : z_useok 49 = true := by decide +kernel
set_option maxRecDepth 100000 in
theorem zu_X2_isRest : z_useok 51 = true := by decide +kernel
set_option maxRecDepth 100000 in
theorem zu_X2_laterBy : z_useok 52 = true := by decide +kernel
set_option maxRecDepth 100000 in
theorem zu_X2_livingOf : z_useok 53 = true := by decide +kernel
set_option maxRecDepth 100000 in
theorem zu_X2_nextLook : z_useok 54 = true := by decide +kernel
set_option maxRecDepth 100000 in
theorem zu_X2_pass : z_useok 55 = true := by decide +kernel
set_option maxRecDepth 100000 in
theorem zu_X2_play : z_useok 56 = true := by decide +kernel
set_option maxRecDepth 100000 in
theorem zu_X2_rests : z_useok 57 = true := by decide +kernel
set_option maxRecDepth 100000 in
theorem zu_X2_spare : z_useok 58 = true := by decide +kernel
set_option maxRecDepth 100000 in
theorem zu_X3_bear : z_useok 59 = true := by decide +kernel
set_option maxRecDepth 100000 in
theorem zu_X3_choice : z_useok 60 = true := by decide +kernel
set_option maxRecDepth 100000 in
theorem zu_X3_digest : z_useok 61 = true := by decide +kernel
set_option maxRecDepth 100000 in
theorem zu_X3_goWild : z_useok 62 = true := by decide +kernel
set_option maxRecDepth 100000 in
theorem zu_X3_isStill : z_useok 64 = true := by decide +kernel
set_option maxRecDepth 100000 in
theorem zu_X3_living : z_useok 65 = true := by decide +kernel
set_option maxRecDepth 100000 in
theorem zu_X3_look : z_useok 66 = true := by decide +kernel
set_option maxRecDepth 100000 in
theorem zu_X3_mate : z_useok 67 = true := by decide +kernel
set_option maxRecDepth 100000 in
theorem zu_X3_pass : z_useok 68 = true := by decide +kernel
set_option maxRecDepth 100000 in
theorem zu_X3_prepare : z_useok 69 = true := by decide +kernel
set_option maxRecDepth 100000 in
theorem zu_X3_starve : z_useok 70 = true := by decide +kernel
set_option maxRecDepth 100000 in
theorem zu_X3_strike : z_useok 71 = true := by decide +kernel
set_option maxRecDepth 100000 in
theorem zu_X3_walk : z_useok 72 = true := by decide +kernel
set_option maxRecDepth 100000 in
theorem zu_X3_weigh : z_useok 73 = true := by decide +kernel
set_option maxRecDepth 100000 in
theorem zu_X4_clause : z_useok 74 = true := by decide +kernel
set_option maxRecDepth 100000 in
theorem zu_X4_isWhole : z_useok 76 = true := by decide +kernel
set_option maxRecDepth 100000 in
theorem zu_X4_oneClock : z_useok 77 = true := by decide +kernel
set_option maxRecDepth 100000 in
theorem zu_X4_onePerson : z_useok 78 = true := by decide +kernel
set_option maxRecDepth 100000 in
theorem zu_X4_read : z_useok 79 = true := by decide +kernel
set_option maxRecDepth 100000 in
theorem zu_X4_room : z_useok 80 = true := by decide +kernel
set_option maxRecDepth 100000 in
theorem zu_X4_takesItems : z_useok 81 = true := by decide +kernel
set_option maxRecDepth 100000 in
theorem zu_X4_takesWay : z_useok 82 = true := by decide +kernel
set_option maxRecDepth 100000 in
theorem zu_X4_waysAreTold : z_useok 83 = true := by decide +kernel
set_option maxRecDepth 100000 in
theorem zu_X5_forget : z_useok 84 = true := by decide +kernel
set_option maxRecDepth 100000 in
theorem zu_X5_hoursPutBy : z_useok 85 = true := by decide +kernel
set_option maxRecDepth 100000 in
theorem zu_X5_keep : z_useok 87 = true := by decide +kernel
set_option maxRecDepth 100000 in
theorem zu_X5_keepImage : z_useok 88 = true := by decide +kernel
set_option maxRecDepth 100000 in
theorem zu_X5_putBy : z_useok 89 = true := by decide +kernel
set_option maxRecDepth 100000 in
theorem zu_X5_restore : z_useok 90 = true := by decide +kernel
set_option maxRecDepth 100000 in
theorem zu_X5_takeBack : z_useok 91 = true := by decide +kernel
set_option maxRecDepth 100000 in
theorem zu_X5_told : z_useok 92 = true := by decide +kernel
set_option maxRecDepth 100000 in
theorem zu_X6_copy : z_useok 93 = true := by decide +kernel
set_option maxRecDepth 100000 in
theorem zu_X6_seenFrom : z_useok 95 = true := by decide +kernel
set_option maxRecDepth 100000 in
theorem zu_X7_bestWay : z_useok 96 = true := by decide +kernel
set_option maxRecDepth 100000 in
theorem zu_X7_fewestLookers : z_useok 97 = true := by decide +kernel
set_option maxRecDepth 100000 in
theorem zu_X7_hangAll : z_useok 98 = true := by decide +kernel
set_option maxRecDepth 100000 in
theorem zu_X7_hasBlind : z_useok 99 = true := by decide +kernel
set_option maxRecDepth 100000 in
theorem zu_X7_lasts : z_useok 101 = true := by decide +kernel
set_option maxRecDepth 100000 in
theorem zu_X7_livingBehind : z_useok 102 = true := by decide +kernel
set_option maxRecDepth 100000 in
theorem zu_X7_rotas : z_useok 103 = true := by decide +kernel
set_option maxRecDepth 100000 in
theorem zu_X7_sendSet : z_useok 104 = true := by decide +kernel
set_option maxRecDepth 100000 in
theorem zu_X8_append : z_useok 105 = true := by decide +kernel
set_option maxRecDepth 100000 in
theorem zu_X8_here : z_useok 106 = true := by decide +kernel
set_option maxRecDepth 100000 in
theorem zu_X8_isDigit : z_useok 108 = true := by decide +kernel
set_option maxRecDepth 100000 in
theorem zu_X8_next : z_useok 109 = true := by decide +kernel
set_option maxRecDepth 100000 in
theorem zu_X8_signsIn : z_useok 110 = true := by decide +kernel
set_option maxRecDepth 100000 in
theorem zu_X8_takes : z_useok 111 = true := by decide +kernel
set_option maxRecDepth 100000 in
theorem zu_X8_takesNumber : z_useok 112 = true := by decide +kernel
set_option maxRecDepth 100000 in
theorem zu_X9_worth : z_useok 114 = true := by decide +kernel
set_option maxRecDepth 100000 in
theorem zu_X11_act : z_useok 126 = true := by decide +kernel
set_option maxRecDepth 100000 in
theorem zu_X11_ahead : z_useok 127 = true := by decide +kernel
set_option maxRecDepth 100000 in
theorem zu_X11_back : z_useok 128 = true := by decide +kernel
set_option maxRecDepth 100000 in
theorem zu_X11_best : z_useok 129 = true := by decide +kernel
set_option maxRecDepth 100000 in
theorem zu_X11_blind : z_useok 130 = true := by decide +kernel
set_option maxRecDepth 100000 in
theorem zu_X11_child : z_useok 131 = true := by decide +kernel
set_option maxRecDepth 100000 in
theorem zu_X11_count : z_useok 133 = true := by decide +kernel
set_option maxRecDepth 100000 in
theorem zu_X11_crowd : z_useok 134 = true := by decide +kernel
set_option maxRecDepth 100000 in
theorem zu_X11_crowds : z_useok 135 = true := by decide +kernel
set_option maxRecDepth 100000 in
theorem zu_X11_deaths : z_useok 136 = true := by decide +kernel
set_option maxRecDepth 100000 in
theorem zu_X11_digits : z_useok 137 = true := by decide +kernel
set_option maxRecDepth 100000 in
theorem zu_X11_end : z_useok 138 = true := by decide +kernel
set_option maxRecDepth 100000 in
theorem zu_X11_face : z_useok 139 = true := by decide +kernel
set_option maxRecDepth 100000 in
theorem zu_X11_feed : z_useok 141 = true := by decide +kernel
set_option maxRecDepth 100000 in
theorem zu_X11_fewest : z_useok 142 = true := by decide +kernel
set_option maxRecDepth 100000 in
theorem zu_X11_firstOf : z_useok 143 = true := by decide +kernel
set_option maxRecDepth 100000 in
theorem zu_X11_full : z_useok 144 = true := by decide +kernel
set_option maxRecDepth 100000 in
theorem zu_X11_go : z_useok 145 = true := by decide +kernel
set_option maxRecDepth 100000 in
theorem zu_X11_hang : z_useok 146 = true := by decide +kernel
set_option maxRecDepth 100000 in
theorem zu_X11_hear : z_useok 147 = true := by decide +kernel
set_option maxRecDepth 100000 in
theorem zu_X11_image : z_useok 148 = true := by decide +kernel
set_option maxRecDepth 100000 in
theorem zu_X11_isClock : z_useok 150 = true := by decide +kernel
set_option maxRecDepth 100000 in
theorem zu_X11_isLiving : z_useok 151 = true := by decide +kernel
set_option maxRecDepth 100000 in
theorem zu_X11_isPerson : z_useok 152 = true := by decide +kernel
set_option maxRecDepth 100000 in
theorem zu_X11_isRoom : z_useok 153 = true := by decide +kernel
set_option maxRecDepth 100000 in
theorem zu_X11_kinds : z_useok 154 = true := by decide +kernel
set_option maxRecDepth 100000 in
theorem zu_X11_later : z_useok 155 = true := by decide +kernel
set_option maxRecDepth 100000 in
theorem zu_X11_line : z_useok 157 = true := by decide +kernel
set_option maxRecDepth 100000 in
theorem zu_X11_living : z_useok 158 = true := by decide +kernel
set_option maxRecDepth 100000 in
theorem zu_X11_log : z_useok 159 = true := by decide +kernel
set_option maxRecDepth 100000 in
theorem zu_X11_looks : z_useok 160 = true := by decide +kernel
set_option maxRecDepth 100000 in
theorem zu_X11_lures : z_useok 161 = true := by decide +kernel
set_option maxRecDepth 100000 in
theorem zu_X11_middle : z_useok 162 = true := by decide +kernel
set_option maxRecDepth 100000 in
theorem zu_X11_near : z_useok 164 = true := by decide +kernel
set_option maxRecDepth 100000 in
theorem zu_X11_paint : z_useok 165 = true := by decide +kernel
set_option maxRecDepth 100000 in
theorem zu_X11_person : z_useok 166 = true := by decide +kernel
set_option maxRecDepth 100000 in
theorem zu_X11_power : z_useok 167 = true := by decide +kernel
set_option maxRecDepth 100000 in
theorem zu_X11_ring : z_useok 168 = true := by decide +kernel
set_option maxRecDepth 100000 in
theorem zu_X11_rota : z_useok 169 = true := by decide +kernel
set_option maxRecDepth 100000 in
theorem zu_X11_seen : z_useok 170 = true := by decide +kernel
set_option maxRecDepth 100000 in
theorem zu_X11_sees : z_useok 171 = true := by decide +kernel
set_option maxRecDepth 100000 in
theorem zu_X11_send : z_useok 172 = true := by decide +kernel
set_option maxRecDepth 100000 in
theorem zu_X11_shows : z_useok 173 = true := by decide +kernel
set_option maxRecDepth 100000 in
theorem zu_X11_slowerThan : z_useok 174 = true := by decide +kernel
set_option maxRecDepth 100000 in
theorem zu_X11_spared : z_useok 175 = true := by decide +kernel
set_option maxRecDepth 100000 in
theorem zu_X11_starves : z_useok 176 = true := by decide +kernel
set_option maxRecDepth 100000 in
theorem zu_X11_starvesIn : z_useok 177 = true := by decide +kernel
set_option maxRecDepth 100000 in
theorem zu_X11_still : z_useok 178 = true := by decide +kernel
set_option maxRecDepth 100000 in
theorem zu_X11_thief : z_useok 181 = true := by decide +kernel
set_option maxRecDepth 100000 in
theorem zu_X11_truth : z_useok 182 = true := by decide +kernel
set_option maxRecDepth 100000 in
theorem zu_X11_undo : z_useok 183 = true := by decide +kernel
set_option maxRecDepth 100000 in
theorem zu_X11_wild : z_useok 184 = true := by decide +kernel
set_option maxRecDepth 100000 in
theorem zu_X11_wind : z_useok 185 = true := by decide +kernel
set_option maxRecDepth 100000 in
theorem zu_X12_isIn : z_useok 236 = true := by decide +kernel
