/-! the tables of each method, checked -/
set_option maxRecDepth 100000 in
theorem zu_J0_charAt_5068e : z_useok 2 = true := by decide +kernel
set_option maxRecDepth 100000 in
theorem zu_J0_checkBoundsBeginEnd_23922 : z_useok 3 = true := by decide +kernel
set_option maxRecDepth 100000 in
theorem zu_J0_checkIndex_df160 : z_useok 4 = true := by decide +kernel
set_option maxRecDepth 100000 in
theorem zu_J0_coder_7d493 : z_useok 5 = true := by decide +kernel
set_option maxRecDepth 100000 in
theorem zu_J0_indexOf_0f7a4 : z_useok 6 = true := by decide +kernel
set_option maxRecDepth 100000 in
theorem zu_J0_indexOf_7cf53 : z_useok 7 = true := by decide +kernel
set_option maxRecDepth 100000 in
theorem zu_J0_isLatin1_aae02 : z_useok 8 = true := by decide +kernel
set_option maxRecDepth 100000 in
theorem zu_J0_length_8abf5 : z_useok 9 = true := by decide +kernel
set_option maxRecDepth 100000 in
theorem zu_J1_canEncode_9a6ad : z_useok 10 = true := by decide +kernel
set_option maxRecDepth 100000 in
theorem zu_J1_charAt_3b067 : z_useok 11 = true := by decide +kernel
set_option maxRecDepth 100000 in
theorem zu_J1_indexOfChar_4cfef : z_useok 12 = true := by decide +kernel
set_option maxRecDepth 100000 in
theorem zu_J1_indexOf_4cfef : z_useok 13 = true := by decide +kernel
set_option maxRecDepth 100000 in
theorem zu_J2_charAt_3b067 : z_useok 14 = true := by decide +kernel
set_option maxRecDepth 100000 in
theorem zu_J2_checkBoundsBeginEnd_d044e : z_useok 15 = true := by decide +kernel
set_option maxRecDepth 100000 in
theorem zu_J2_checkIndex_2214a : z_useok 16 = true := by decide +kernel
set_option maxRecDepth 100000 in
theorem zu_J2_getChar_3b067 : z_useok 17 = true := by decide +kernel
set_option maxRecDepth 100000 in
theorem zu_J2_indexOfCharUnsafe_4cfef : z_useok 18 = true := by decide +kernel
set_option maxRecDepth 100000 in
theorem zu_J2_indexOfChar_4cfef : z_useok 19 = true := by decide +kernel
set_option maxRecDepth 100000 in
theorem zu_J2_indexOfSupplementary_4cfef : z_useok 20 = true := by decide +kernel
set_option maxRecDepth 100000 in
theorem zu_J2_indexOf_4cfef : z_useok 21 = true := by decide +kernel
set_option maxRecDepth 100000 in
theorem zu_J2_length_9d52b : z_useok 22 = true := by decide +kernel
set_option maxRecDepth 100000 in
theorem zu_J3_checkFromToIndex_8c36e : z_useok 23 = true := by decide +kernel
set_option maxRecDepth 100000 in
theorem zu_J3_checkIndex_8e157 : z_useok 24 = true := by decide +kernel
set_option maxRecDepth 100000 in
theorem zu_J6_bitCount_0f7a4 : z_useok 25 = true := by decide +kernel
set_option maxRecDepth 100000 in
theorem zu_J6_compare_7cf53 : z_useok 26 = true := by decide +kernel
set_option maxRecDepth 100000 in
theorem zu_J7_copyOf_59c91 : z_useok 27 = true := by decide +kernel
set_option maxRecDepth 100000 in
theorem zu_J7_fill_53178 : z_useok 28 = true := by decide +kernel
set_option maxRecDepth 100000 in
theorem zu_J11_highSurrogate_5068e : z_useok 33 = true := by decide +kernel
set_option maxRecDepth 100000 in
theorem zu_J11_isValidCodePoint_9a6ad : z_useok 34 = true := by decide +kernel
set_option maxRecDepth 100000 in
theorem zu_J11_lowSurrogate_5068e : z_useok 35 = true := by decide +kernel
set_option maxRecDepth 100000 in
theorem zu_X0_draw : z_useok 36 = true := by decide +kernel
set_option maxRecDepth 100000 in
theorem zu_X0_init : z_useok 37 = true := by decide +kernel
set_option maxRecDepth 100000 in
theorem zu_X0_scatter : z_useok 38 = true := by decide +kernel
set_option maxRecDepth 100000 in
theorem zu_X1_agrees : z_useok 39 = true := by decide +kernel
set_option maxRecDepth 100000 in
theorem zu_X1_fits : z_useok 40 = true := by decide +kernel
set_option maxRecDepth 100000 in
theorem zu_X1_hold : z_useok 41 = true := by decide +kernel
set_option maxRecDepth 100000 in
theorem zu_X1_init : z_useok 42 = true := by decide +kernel
set_option maxRecDepth 100000 in
theorem zu_X1_lastHeard : z_useok 43 = true := by decide +kernel
set_option maxRecDepth 100000 in
theorem zu_X1_roomOf : z_useok 44 = true := by decide +kernel
set_option maxRecDepth 100000 in
theorem zu_X1_ways : z_useok 45 = true := by decide +kernel
set_option maxRecDepth 100000 in
theorem zu_X2_begin : z_useok 46 = true := by decide +kernel
set_option maxRecDepth 100000 in
theorem zu_X2_fat : z_useok 47 = true := by decide +kernel
set_option maxRecDepth 100000 in
theorem zu_X2_first : z_useok 48 = true := by decide +kernel
set_option maxRecDepth 100000 in
theorem zu_X2_fullBehind : z_useok 49 = true := by decide +kernel
set_option maxRecDepth 100000 in
theorem zu_X2_init : z_useok 50 = true := by decide +kernel
set_option maxRecDepth 100000 in
theorem zu_X2_isRest : z_useok 51 = true := by decide +kernel
set_option maxRecDepth 100000 in
theorem zu_X2_laterBy : z_useok 52 = true := by decide +kernel
set_option maxRecDepth 100000 in
theorem zu_X2_livingOf : z_useok 53 = true := by decide +kernel
set_option maxRecDepth 100000 in
theorem zu_X2_nextLook : z_useok 54 = true := by decide +kernel
set_option maxRecDepth 100000 in
theorem zu_X2_pass : z_useok 55 = true := by decide +kernel
set_option maxRecDepth 100000 in
theorem zu_X2_play : z_useok 56 = true := by decide +kernel
set_option maxRecDepth 100000 in
theorem zu_X2_rests : z_useok 57 = true := by decide +kernel
set_option maxRecDepth 100000 in
theorem zu_X2_spare : z_useok 58 = true := by decide +kernel
set_option maxRecDepth 100000 in
theorem zu_X3_bear : z_useok 59 = true := by decide +kernel
set_option maxRecDepth 100000 in
theorem zu_X3_choice : z_useok 60 = true := by decide +kernel
set_option maxRecDepth 100000 in
theorem zu_X3_digest : z_useok 61 = true := by decide +kernel
set_option maxRecDepth 100000 in
theorem zu_X3_goWild : z_useok 62 = true := by decide +kernel
set_option maxRecDepth 100000 in
theorem zu_X3_init : z_useok 63 = true := by decide +kernel
set_option maxRecDepth 100000 in
theorem zu_X3_isStill : z_useok 64 = true := by decide +kernel
set_option maxRecDepth 100000 in
theorem zu_X3_living : z_useok 65 = true := by decide +kernel
set_option maxRecDepth 100000 in
theorem zu_X3_look : z_useok 66 = true := by decide +kernel
set_option maxRecDepth 100000 in
theorem zu_X3_mate : z_useok 67 = true := by decide +kernel
set_option maxRecDepth 100000 in
theorem zu_X3_pass : z_useok 68 = true := by decide +kernel
set_option maxRecDepth 100000 in
theorem zu_X3_prepare : z_useok 69 = true := by decide +kernel
set_option maxRecDepth 100000 in
theorem zu_X3_starve : z_useok 70 = true := by decide +kernel
set_option maxRecDepth 100000 in
theorem zu_X3_strike : z_useok 71 = true := by decide +kernel
set_option maxRecDepth 100000 in
theorem zu_X3_walk : z_useok 72 = true := by decide +kernel
set_option maxRecDepth 100000 in
theorem zu_X3_weigh : z_useok 73 = true := by decide +kernel
set_option maxRecDepth 100000 in
theorem zu_X4_clause : z_useok 74 = true := by decide +kernel
set_option maxRecDepth 100000 in
theorem zu_X4_init : z_useok 75 = true := by decide +kernel
set_option maxRecDepth 100000 in
theorem zu_X4_isWhole : z_useok 76 = true := by decide +kernel
set_option maxRecDepth 100000 in
theorem zu_X4_oneClock : z_useok 77 = true := by decide +kernel
set_option maxRecDepth 100000 in
theorem zu_X4_onePerson : z_useok 78 = true := by decide +kernel
set_option maxRecDepth 100000 in
theorem zu_X4_read : z_useok 79 = true := by decide +kernel
set_option maxRecDepth 100000 in
theorem zu_X4_room : z_useok 80 = true := by decide +kernel
set_option maxRecDepth 100000 in
theorem zu_X4_takesItems : z_useok 81 = true := by decide +kernel
set_option maxRecDepth 100000 in
theorem zu_X4_takesWay : z_useok 82 = true := by decide +kernel
set_option maxRecDepth 100000 in
theorem zu_X4_waysAreTold : z_useok 83 = true := by decide +kernel
set_option maxRecDepth 100000 in
theorem zu_X5_forget : z_useok 84 = true := by decide +kernel
set_option maxRecDepth 100000 in
theorem zu_X5_hoursPutBy : z_useok 85 = true := by decide +kernel
set_option maxRecDepth 100000 in
theorem zu_X5_init : z_useok 86 = true := by decide +kernel
set_option maxRecDepth 100000 in
theorem zu_X5_keep : z_useok 87 = true := by decide +kernel
set_option maxRecDepth 100000 in
theorem zu_X5_keepImage : z_useok 88 = true := by decide +kernel
set_option maxRecDepth 100000 in
theorem zu_X5_putBy : z_useok 89 = true := by decide +kernel
set_option maxRecDepth 100000 in
theorem zu_X5_restore : z_useok 90 = true := by decide +kernel
set_option maxRecDepth 100000 in
theorem zu_X5_takeBack : z_useok 91 = true := by decide +kernel
set_option maxRecDepth 100000 in
theorem zu_X5_told : z_useok 92 = true := by decide +kernel
set_option maxRecDepth 100000 in
theorem zu_X6_copy : z_useok 93 = true := by decide +kernel
set_option maxRecDepth 100000 in
theorem zu_X6_init : z_useok 94 = true := by decide +kernel
set_option maxRecDepth 100000 in
theorem zu_X6_seenFrom : z_useok 95 = true := by decide +kernel
set_option maxRecDepth 100000 in
theorem zu_X7_bestWay : z_useok 96 = true := by decide +kernel
set_option maxRecDepth 100000 in
theorem zu_X7_fewestLookers : z_useok 97 = true := by decide +kernel
set_option maxRecDepth 100000 in
theorem zu_X7_hangAll : z_useok 98 = true := by decide +kernel
set_option maxRecDepth 100000 in
theorem zu_X7_hasBlind : z_useok 99 = true := by decide +kernel
set_option maxRecDepth 100000 in
theorem zu_X7_init : z_useok 100 = true := by decide +kernel
set_option maxRecDepth 100000 in
theorem zu_X7_lasts : z_useok 101 = true := by decide +kernel
set_option maxRecDepth 100000 in
theorem zu_X7_livingBehind : z_useok 102 = true := by decide +kernel
set_option maxRecDepth 100000 in
theorem zu_X7_rotas : z_useok 103 = true := by decide +kernel
set_option maxRecDepth 100000 in
theorem zu_X7_sendSet : z_useok 104 = true := by decide +kernel
set_option maxRecDepth 100000 in
theorem zu_X8_append : z_useok 105 = true := by decide +kernel
set_option maxRecDepth 100000 in
theorem zu_X8_here : z_useok 106 = true := by decide +kernel
set_option maxRecDepth 100000 in
theorem zu_X8_init : z_useok 107 = true := by decide +kernel
set_option maxRecDepth 100000 in
theorem zu_X8_isDigit : z_useok 108 = true := by decide +kernel
set_option maxRecDepth 100000 in
theorem zu_X8_next : z_useok 109 = true := by decide +kernel
set_option maxRecDepth 100000 in
theorem zu_X8_signsIn : z_useok 110 = true := by decide +kernel
set_option maxRecDepth 100000 in
theorem zu_X8_takes : z_useok 111 = true := by decide +kernel
set_option maxRecDepth 100000 in
theorem zu_X8_takesNumber : z_useok 112 = true := by decide +kernel
set_option maxRecDepth 100000 in
theorem zu_X9_init : z_useok 113 = true := by decide +kernel
set_option maxRecDepth 100000 in
theorem zu_X9_worth : z_useok 114 = true := by decide +kernel
set_option maxRecDepth 100000 in
theorem zu_X10_atom : z_useok 115 = true := by decide +kernel
set_option maxRecDepth 100000 in
theorem zu_X10_clause : z_useok 116 = true := by decide +kernel
set_option maxRecDepth 100000 in
theorem zu_X10_condition : z_useok 117 = true := by decide +kernel
set_option maxRecDepth 100000 in
theorem zu_X10_deeperUnit : z_useok 118 = true := by decide +kernel
set_option maxRecDepth 100000 in
theorem zu_X10_emit : z_useok 119 = true := by decide +kernel
set_option maxRecDepth 100000 in
theorem zu_X10_init : z_useok 120 = true := by decide +kernel
set_option maxRecDepth 100000 in
theorem zu_X10_read : z_useok 121 = true := by decide +kernel
set_option maxRecDepth 100000 in
theorem zu_X10_sum : z_useok 122 = true := by decide +kernel
set_option maxRecDepth 100000 in
theorem zu_X10_term : z_useok 123 = true := by decide +kernel
set_option maxRecDepth 100000 in
theorem zu_X10_truths : z_useok 124 = true := by decide +kernel
set_option maxRecDepth 100000 in
theorem zu_X10_unit : z_useok 125 = true := by decide +kernel
set_option maxRecDepth 100000 in
theorem zu_X11_act : z_useok 126 = true := by decide +kernel
set_option maxRecDepth 100000 in
theorem zu_X11_ahead : z_useok 127 = true := by decide +kernel
set_option maxRecDepth 100000 in
theorem zu_X11_back : z_useok 128 = true := by decide +kernel
set_option maxRecDepth 100000 in
theorem zu_X11_best : z_useok 129 = true := by decide +kernel
set_option maxRecDepth 100000 in
theorem zu_X11_blind : z_useok 130 = true := by decide +kernel
set_option maxRecDepth 100000 in
theorem zu_X11_child : z_useok 131 = true := by decide +kernel
set_option maxRecDepth 100000 in
theorem zu_X11_clock : z_useok 132 = true := by decide +kernel
set_option maxRecDepth 100000 in
theorem zu_X11_count : z_useok 133 = true := by decide +kernel
set_option maxRecDepth 100000 in
theorem zu_X11_crowd : z_useok 134 = true := by decide +kernel
set_option maxRecDepth 100000 in
theorem zu_X11_crowds : z_useok 135 = true := by decide +kernel
set_option maxRecDepth 100000 in
theorem zu_X11_deaths : z_useok 136 = true := by decide +kernel
set_option maxRecDepth 100000 in
theorem zu_X11_digits : z_useok 137 = true := by decide +kernel
set_option maxRecDepth 100000 in
theorem zu_X11_end : z_useok 138 = true := by decide +kernel
set_option maxRecDepth 100000 in
theorem zu_X11_face : z_useok 139 = true := by decide +kernel
set_option maxRecDepth 100000 in
theorem zu_X11_fault : z_useok 140 = true := by decide +kernel
set_option maxRecDepth 100000 in
theorem zu_X11_feed : z_useok 141 = true := by decide +kernel
set_option maxRecDepth 100000 in
theorem zu_X11_fewest : z_useok 142 = true := by decide +kernel
set_option maxRecDepth 100000 in
theorem zu_X11_firstOf : z_useok 143 = true := by decide +kernel
set_option maxRecDepth 100000 in
theorem zu_X11_full : z_useok 144 = true := by decide +kernel
set_option maxRecDepth 100000 in
theorem zu_X11_go : z_useok 145 = true := by decide +kernel
set_option maxRecDepth 100000 in
theorem zu_X11_hang : z_useok 146 = true := by decide +kernel
set_option maxRecDepth 100000 in
theorem zu_X11_hear : z_useok 147 = true := by decide +kernel
set_option maxRecDepth 100000 in
theorem zu_X11_image : z_useok 148 = true := by decide +kernel
set_option maxRecDepth 100000 in
theorem zu_X11_init : z_useok 149 = true := by decide +kernel
set_option maxRecDepth 100000 in
theorem zu_X11_isClock : z_useok 150 = true := by decide +kernel
set_option maxRecDepth 100000 in
theorem zu_X11_isLiving : z_useok 151 = true := by decide +kernel
set_option maxRecDepth 100000 in
theorem zu_X11_isPerson : z_useok 152 = true := by decide +kernel
set_option maxRecDepth 100000 in
theorem zu_X11_isRoom : z_useok 153 = true := by decide +kernel
set_option maxRecDepth 100000 in
theorem zu_X11_kinds : z_useok 154 = true := by decide +kernel
set_option maxRecDepth 100000 in
theorem zu_X11_later : z_useok 155 = true := by decide +kernel
set_option maxRecDepth 100000 in
theorem zu_X11_learn : z_useok 156 = true := by decide +kernel
set_option maxRecDepth 100000 in
theorem zu_X11_line : z_useok 157 = true := by decide +kernel
set_option maxRecDepth 100000 in
theorem zu_X11_living : z_useok 158 = true := by decide +kernel
set_option maxRecDepth 100000 in
theorem zu_X11_log : z_useok 159 = true := by decide +kernel
set_option maxRecDepth 100000 in
theorem zu_X11_looks : z_useok 160 = true := by decide +kernel
set_option maxRecDepth 100000 in
theorem zu_X11_lures : z_useok 161 = true := by decide +kernel
set_option maxRecDepth 100000 in
theorem zu_X11_middle : z_useok 162 = true := by decide +kernel
set_option maxRecDepth 100000 in
theorem zu_X11_moveIn : z_useok 163 = true := by decide +kernel
set_option maxRecDepth 100000 in
theorem zu_X11_near : z_useok 164 = true := by decide +kernel
set_option maxRecDepth 100000 in
theorem zu_X11_paint : z_useok 165 = true := by decide +kernel
set_option maxRecDepth 100000 in
theorem zu_X11_person : z_useok 166 = true := by decide +kernel
set_option maxRecDepth 100000 in
theorem zu_X11_power : z_useok 167 = true := by decide +kernel
set_option maxRecDepth 100000 in
theorem zu_X11_ring : z_useok 168 = true := by decide +kernel
set_option maxRecDepth 100000 in
theorem zu_X11_rota : z_useok 169 = true := by decide +kernel
set_option maxRecDepth 100000 in
theorem zu_X11_seen : z_useok 170 = true := by decide +kernel
set_option maxRecDepth 100000 in
theorem zu_X11_sees : z_useok 171 = true := by decide +kernel
set_option maxRecDepth 100000 in
theorem zu_X11_send : z_useok 172 = true := by decide +kernel
set_option maxRecDepth 100000 in
theorem zu_X11_shows : z_useok 173 = true := by decide +kernel
set_option maxRecDepth 100000 in
theorem zu_X11_slowerThan : z_useok 174 = true := by decide +kernel
set_option maxRecDepth 100000 in
theorem zu_X11_spared : z_useok 175 = true := by decide +kernel
set_option maxRecDepth 100000 in
theorem zu_X11_starves : z_useok 176 = true := by decide +kernel
set_option maxRecDepth 100000 in
theorem zu_X11_starvesIn : z_useok 177 = true := by decide +kernel
set_option maxRecDepth 100000 in
theorem zu_X11_still : z_useok 178 = true := by decide +kernel
set_option maxRecDepth 100000 in
theorem zu_X11_taste : z_useok 179 = true := by decide +kernel
set_option maxRecDepth 100000 in
theorem zu_X11_text : z_useok 180 = true := by decide +kernel
set_option maxRecDepth 100000 in
theorem zu_X11_thief : z_useok 181 = true := by decide +kernel
set_option maxRecDepth 100000 in
theorem zu_X11_truth : z_useok 182 = true := by decide +kernel
set_option maxRecDepth 100000 in
theorem zu_X11_undo : z_useok 183 = true := by decide +kernel
set_option maxRecDepth 100000 in
theorem zu_X11_wild : z_useok 184 = true := by decide +kernel
set_option maxRecDepth 100000 in
theorem zu_X11_wind : z_useok 185 = true := by decide +kernel
set_option maxRecDepth 100000 in
theorem zu_X12_ahead : z_useok 186 = true := by decide +kernel
set_option maxRecDepth 100000 in
theorem zu_X12_askFirst : z_useok 187 = true := by decide +kernel
set_option maxRecDepth 100000 in
theorem zu_X12_atom : z_useok 188 = true := by decide +kernel
set_option maxRecDepth 100000 in
theorem zu_X12_back : z_useok 189 = true := by decide +kernel
set_option maxRecDepth 100000 in
theorem zu_X12_best : z_useok 190 = true := by decide +kernel
set_option maxRecDepth 100000 in
theorem zu_X12_blind : z_useok 191 = true := by decide +kernel
set_option maxRecDepth 100000 in
theorem zu_X12_bytesIn : z_useok 192 = true := by decide +kernel
set_option maxRecDepth 100000 in
theorem zu_X12_canSee : z_useok 193 = true := by decide +kernel
set_option maxRecDepth 100000 in
theorem zu_X12_child : z_useok 194 = true := by decide +kernel
set_option maxRecDepth 100000 in
theorem zu_X12_clause : z_useok 195 = true := by decide +kernel
set_option maxRecDepth 100000 in
theorem zu_X12_clock : z_useok 196 = true := by decide +kernel
set_option maxRecDepth 100000 in
theorem zu_X12_compares : z_useok 197 = true := by decide +kernel
set_option maxRecDepth 100000 in
theorem zu_X12_condition : z_useok 198 = true := by decide +kernel
set_option maxRecDepth 100000 in
theorem zu_X12_copy : z_useok 199 = true := by decide +kernel
set_option maxRecDepth 100000 in
theorem zu_X12_count : z_useok 200 = true := by decide +kernel
set_option maxRecDepth 100000 in
theorem zu_X12_crowd : z_useok 201 = true := by decide +kernel
set_option maxRecDepth 100000 in
theorem zu_X12_crowds : z_useok 202 = true := by decide +kernel
set_option maxRecDepth 100000 in
theorem zu_X12_deathOf : z_useok 203 = true := by decide +kernel
set_option maxRecDepth 100000 in
theorem zu_X12_deaths : z_useok 204 = true := by decide +kernel
set_option maxRecDepth 100000 in
theorem zu_X12_digitsOf : z_useok 205 = true := by decide +kernel
set_option maxRecDepth 100000 in
theorem zu_X12_draw : z_useok 206 = true := by decide +kernel
set_option maxRecDepth 100000 in
theorem zu_X12_eats : z_useok 207 = true := by decide +kernel
set_option maxRecDepth 100000 in
theorem zu_X12_end : z_useok 208 = true := by decide +kernel
set_option maxRecDepth 100000 in
theorem zu_X12_face : z_useok 209 = true := by decide +kernel
set_option maxRecDepth 100000 in
theorem zu_X12_fails : z_useok 210 = true := by decide +kernel
set_option maxRecDepth 100000 in
theorem zu_X12_fault : z_useok 211 = true := by decide +kernel
set_option maxRecDepth 100000 in
theorem zu_X12_feed : z_useok 212 = true := by decide +kernel
set_option maxRecDepth 100000 in
theorem zu_X12_feeds : z_useok 213 = true := by decide +kernel
set_option maxRecDepth 100000 in
theorem zu_X12_fewest : z_useok 214 = true := by decide +kernel
set_option maxRecDepth 100000 in
theorem zu_X12_firstHour : z_useok 215 = true := by decide +kernel
set_option maxRecDepth 100000 in
theorem zu_X12_firstOf : z_useok 216 = true := by decide +kernel
set_option maxRecDepth 100000 in
theorem zu_X12_full : z_useok 217 = true := by decide +kernel
set_option maxRecDepth 100000 in
theorem zu_X12_go : z_useok 218 = true := by decide +kernel
set_option maxRecDepth 100000 in
theorem zu_X12_goHour : z_useok 219 = true := by decide +kernel
set_option maxRecDepth 100000 in
theorem zu_X12_goThrough : z_useok 220 = true := by decide +kernel
set_option maxRecDepth 100000 in
theorem zu_X12_goTrial : z_useok 221 = true := by decide +kernel
set_option maxRecDepth 100000 in
theorem zu_X12_goesIn : z_useok 222 = true := by decide +kernel
set_option maxRecDepth 100000 in
theorem zu_X12_goesTo : z_useok 223 = true := by decide +kernel
set_option maxRecDepth 100000 in
theorem zu_X12_hang : z_useok 224 = true := by decide +kernel
set_option maxRecDepth 100000 in
theorem zu_X12_has : z_useok 225 = true := by decide +kernel
set_option maxRecDepth 100000 in
theorem zu_X12_hasRota : z_useok 226 = true := by decide +kernel
set_option maxRecDepth 100000 in
theorem zu_X12_hear : z_useok 227 = true := by decide +kernel
set_option maxRecDepth 100000 in
theorem zu_X12_here : z_useok 228 = true := by decide +kernel
set_option maxRecDepth 100000 in
theorem zu_X12_image : z_useok 229 = true := by decide +kernel
set_option maxRecDepth 100000 in
theorem zu_X12_init : z_useok 230 = true := by decide +kernel
set_option maxRecDepth 100000 in
theorem zu_X12_isAmong : z_useok 231 = true := by decide +kernel
set_option maxRecDepth 100000 in
theorem zu_X12_isBorn : z_useok 232 = true := by decide +kernel
set_option maxRecDepth 100000 in
theorem zu_X12_isClock : z_useok 233 = true := by decide +kernel
set_option maxRecDepth 100000 in
theorem zu_X12_isDigit : z_useok 234 = true := by decide +kernel
set_option maxRecDepth 100000 in
theorem zu_X12_isHere : z_useok 235 = true := by decide +kernel
set_option maxRecDepth 100000 in
theorem zu_X12_isIn : z_useok 236 = true := by decide +kernel
set_option maxRecDepth 100000 in
theorem zu_X12_isLiving : z_useok 237 = true := by decide +kernel
set_option maxRecDepth 100000 in
theorem zu_X12_isPerson : z_useok 238 = true := by decide +kernel
set_option maxRecDepth 100000 in
theorem zu_X12_isRest : z_useok 239 = true := by decide +kernel
set_option maxRecDepth 100000 in
theorem zu_X12_isRoom : z_useok 240 = true := by decide +kernel
set_option maxRecDepth 100000 in
theorem zu_X12_isRota : z_useok 241 = true := by decide +kernel
set_option maxRecDepth 100000 in
theorem zu_X12_isSign : z_useok 242 = true := by decide +kernel
set_option maxRecDepth 100000 in
theorem zu_X12_isSo : z_useok 243 = true := by decide +kernel
set_option maxRecDepth 100000 in
theorem zu_X12_isStill : z_useok 244 = true := by decide +kernel
set_option maxRecDepth 100000 in
theorem zu_X12_isWhole : z_useok 245 = true := by decide +kernel
set_option maxRecDepth 100000 in
theorem zu_X12_kinds : z_useok 246 = true := by decide +kernel
set_option maxRecDepth 100000 in
theorem zu_X12_later : z_useok 247 = true := by decide +kernel
set_option maxRecDepth 100000 in
theorem zu_X12_layGains : z_useok 248 = true := by decide +kernel
set_option maxRecDepth 100000 in
theorem zu_X12_leastOf : z_useok 249 = true := by decide +kernel
set_option maxRecDepth 100000 in
theorem zu_X12_lives : z_useok 250 = true := by decide +kernel
set_option maxRecDepth 100000 in
theorem zu_X12_living : z_useok 251 = true := by decide +kernel
set_option maxRecDepth 100000 in
theorem zu_X12_log : z_useok 252 = true := by decide +kernel
set_option maxRecDepth 100000 in
theorem zu_X12_look : z_useok 253 = true := by decide +kernel
set_option maxRecDepth 100000 in
theorem zu_X12_looks : z_useok 254 = true := by decide +kernel
set_option maxRecDepth 100000 in
theorem zu_X12_looksAt : z_useok 255 = true := by decide +kernel
set_option maxRecDepth 100000 in
theorem zu_X12_lures : z_useok 256 = true := by decide +kernel
set_option maxRecDepth 100000 in
theorem zu_X12_middle : z_useok 257 = true := by decide +kernel
set_option maxRecDepth 100000 in
theorem zu_X12_mostOf : z_useok 258 = true := by decide +kernel
set_option maxRecDepth 100000 in
theorem zu_X12_near : z_useok 259 = true := by decide +kernel
set_option maxRecDepth 100000 in
theorem zu_X12_paint : z_useok 260 = true := by decide +kernel
set_option maxRecDepth 100000 in
theorem zu_X12_part : z_useok 261 = true := by decide +kernel
set_option maxRecDepth 100000 in
theorem zu_X12_person : z_useok 262 = true := by decide +kernel
set_option maxRecDepth 100000 in
theorem zu_X12_placeOf : z_useok 263 = true := by decide +kernel
set_option maxRecDepth 100000 in
theorem zu_X12_power : z_useok 264 = true := by decide +kernel
set_option maxRecDepth 100000 in
theorem zu_X12_put : z_useok 265 = true := by decide +kernel
set_option maxRecDepth 100000 in
theorem zu_X12_readClause : z_useok 266 = true := by decide +kernel
set_option maxRecDepth 100000 in
theorem zu_X12_readHouse : z_useok 267 = true := by decide +kernel
set_option maxRecDepth 100000 in
theorem zu_X12_readItem : z_useok 268 = true := by decide +kernel
set_option maxRecDepth 100000 in
theorem zu_X12_readItems : z_useok 269 = true := by decide +kernel
set_option maxRecDepth 100000 in
theorem zu_X12_readWay : z_useok 270 = true := by decide +kernel
set_option maxRecDepth 100000 in
theorem zu_X12_remember : z_useok 271 = true := by decide +kernel
set_option maxRecDepth 100000 in
theorem zu_X12_ring : z_useok 272 = true := by decide +kernel
set_option maxRecDepth 100000 in
theorem zu_X12_rota : z_useok 273 = true := by decide +kernel
set_option maxRecDepth 100000 in
theorem zu_X12_seen : z_useok 274 = true := by decide +kernel
set_option maxRecDepth 100000 in
theorem zu_X12_sees : z_useok 275 = true := by decide +kernel
set_option maxRecDepth 100000 in
theorem zu_X12_send : z_useok 276 = true := by decide +kernel
set_option maxRecDepth 100000 in
theorem zu_X12_sets : z_useok 277 = true := by decide +kernel
set_option maxRecDepth 100000 in
theorem zu_X12_shows : z_useok 278 = true := by decide +kernel
set_option maxRecDepth 100000 in
theorem zu_X12_spared : z_useok 279 = true := by decide +kernel
set_option maxRecDepth 100000 in
theorem zu_X12_starts : z_useok 280 = true := by decide +kernel
set_option maxRecDepth 100000 in
theorem zu_X12_starves : z_useok 281 = true := by decide +kernel
set_option maxRecDepth 100000 in
theorem zu_X12_still : z_useok 282 = true := by decide +kernel
set_option maxRecDepth 100000 in
theorem zu_X12_sum : z_useok 283 = true := by decide +kernel
set_option maxRecDepth 100000 in
theorem zu_X12_takes : z_useok 284 = true := by decide +kernel
set_option maxRecDepth 100000 in
theorem zu_X12_taste : z_useok 285 = true := by decide +kernel
set_option maxRecDepth 100000 in
theorem zu_X12_tasteOf : z_useok 286 = true := by decide +kernel
set_option maxRecDepth 100000 in
theorem zu_X12_term : z_useok 287 = true := by decide +kernel
set_option maxRecDepth 100000 in
theorem zu_X12_text : z_useok 288 = true := by decide +kernel
set_option maxRecDepth 100000 in
theorem zu_X12_thief : z_useok 289 = true := by decide +kernel
set_option maxRecDepth 100000 in
theorem zu_X12_undo : z_useok 290 = true := by decide +kernel
set_option maxRecDepth 100000 in
theorem zu_X12_unit : z_useok 291 = true := by decide +kernel
set_option maxRecDepth 100000 in
theorem zu_X12_usual : z_useok 292 = true := by decide +kernel
set_option maxRecDepth 100000 in
theorem zu_X12_wild : z_useok 293 = true := by decide +kernel
set_option maxRecDepth 100000 in
theorem zu_X12_wind : z_useok 294 = true := by decide +kernel
set_option maxRecDepth 100000 in
theorem zu_X12_within : z_useok 295 = true := by decide +kernel
set_option maxRecDepth 100000 in
theorem zu_X12_worthNow : z_useok 296 = true := by decide +kernel
set_option maxRecDepth 100000 in
theorem zu_X12_writes : z_useok 297 = true := by decide +kernel
