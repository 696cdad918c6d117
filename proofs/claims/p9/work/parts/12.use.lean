/-! the tables of each method, checked -/
set_option maxRecDepth 100000 in
theorem zu_J0_charAt_5068e : z_useok 2 = true := by decide +kernel
set_option maxRecDepth 100000 in
theorem zu_J0_checkBoundsBeginEnd_23922 : z_useok 3 = true := by decide +kernel
set_option maxRecDepth 100000 in
theorem zu_J0_checkIndex_df160 : z_useok 4 = true := by decide +kernel
set_option maxRecDepth 100000 in
theorem zu_J0_coder_7d493 : z_useok 5 = true := by decide +kernel
set_option maxRecDepth 100000 in
theorem zu_J0_indexOf_0f7a4 : z_useok 6 = true := by decide +kernel
set_option maxRecDepth 100000 in
theorem zu_J0_indexOf_7cf53 : z_useok 7 = true := by decide +kernel
set_option maxRecDepth 100000 in
theorem zu_J0_isLatin1_aae02 : z_useok 8 = true := by decide +kernel
set_option maxRecDepth 100000 in
theorem zu_J0_length_8abf5 : z_useok 9 = true := by decide +kernel
set_option maxRecDepth 100000 in
theorem zu_J1_canEncode_9a6ad : z_useok 10 = true := by decide +kernel
set_option maxRecDepth 100000 in
theorem zu_J1_charAt_3b067 : z_useok 11 = true := by decide +kernel
set_option maxRecDepth 100000 in
theorem zu_J1_indexOfChar_4cfef : z_useok 12 = true := by decide +kernel
set_option maxRecDepth 100000 in
theorem zu_J1_indexOf_4cfef : z_useok 13 = true := by decide +kernel
set_option maxRecDepth 100000 in
theorem zu_J2_charAt_3b067 : z_useok 14 = true := by decide +kernel
set_option maxRecDepth 100000 in
theorem zu_J2_checkBoundsBeginEnd_d044e : z_useok 15 = true := by decide +kernel
set_option maxRecDepth 100000 in
theorem zu_J2_checkIndex_2214a : z_useok 16 = true := by decide +kernel
set_option maxRecDepth 100000 in
theorem zu_J2_getChar_3b067 : z_useok 17 = true := by decide +kernel
set_option maxRecDepth 100000 in
theorem zu_J2_indexOfCharUnsafe_4cfef : z_useok 18 = true := by decide +kernel
set_option maxRecDepth 100000 in
theorem zu_J2_indexOfChar_4cfef : z_useok 19 = true := by decide +kernel
set_option maxRecDepth 100000 in
theorem zu_J2_indexOfSupplementary_4cfef : z_useok 20 = true := by decide +kernel
set_option maxRecDepth 100000 in
theorem zu_J2_indexOf_4cfef : z_useok 21 = true := by decide +kernel
set_option maxRecDepth 100000 in
theorem zu_J2_length_9d52b : z_useok 22 = true := by decide +kernel
set_option maxRecDepth 100000 in
theorem zu_J3_checkFromToIndex_8c36e : z_useok 23 = true := by decide +kernel
set_option maxRecDepth 100000 in
theorem zu_J3_checkIndex_8e157 : z_useok 24 = true := by decide +kernel
set_option maxRecDepth 100000 in
theorem zu_J6_bitCount_0f7a4 : z_useok 25 = true := by decide +kernel
set_option maxRecDepth 100000 in
theorem zu_J6_compare_7cf53 : z_useok 26 = true := by decide +kernel
set_option maxRecDepth 100000 in
theorem zu_J7_copyOf_59c91 : z_useok 27 = true := by decide +kernel
set_option maxRecDepth 100000 in
theorem zu_J7_fill_53178 : z_useok 28 = true := by decide +kernel
set_option maxRecDepth 100000 in
theorem zu_J11_highSurrogate_5068e : z_useok 33 = true := by decide +kernel
set_option maxRecDepth 100000 in
theorem zu_J11_isValidCodePoint_9a6ad : z_useok 34 = true := by decide +kernel
set_option maxRecDepth 100000 in
theorem zu_J11_lowSurrogate_5068e : z_useok 35 = true := by decide +kernel
set_option maxRecDepth 100000 in
theorem zu_X0_draw : z_useok 36 = true := by decide +kernel
set_option maxRecDepth 100000 in
theorem zu_X0_init : z_useok 37 = true := by decide +kernel
set_option maxRecDepth 100000 in
theorem zu_X0_scatter : z_useok 38 = true := by decide +kernel
set_option maxRecDepth 100000 in
theorem zu_X1_agrees : z_useok 39 = true := by decide +kernel
set_option maxRecDepth 100000 in
theorem zu_X1_fits : z_useok 40 = true := by decide +kernel
set_option maxRecDepth 100000 in
theorem zu_X1_hold : z_useok 41 = true := by decide +kernel
set_option maxRecDepth 100000 in
theorem zu_X1_init : z_useok 42 = true := by decide +kernel
set_option maxRecDepth 100000 in
theorem zu_X1_lastHeard : z_useok 43 = true := by decide +kernel
set_option maxRecDepth 100000 in
theorem zu_X1_roomOf : z_useok 44 = true := by decide +kernel
set_option maxRecDepth 100000 in
theorem zu_X1_ways : z_useok 45 = true := by decide +kernel
