/-! the tables of each method, checked -/
set_option maxRecDepth 100000 in
theorem zu_X2_begin : z_useok 46 = true := by decide +kernel
set_option maxRecDepth 100000 in
theorem zu_X2_fat : z_useok 47 = true := by decide +kernel
set_option maxRecDepth 100000 in
theorem zu_X2_first : z_useok 48 = true := by decide +kernel
set_option maxRecDepth 100000 in
theorem zu_X2_fullBehind : z_useok 49 = true := by decide +kernel
set_option maxRecDepth 100000 in
theorem zu_X2_init : z_useok 50 = true := by decide +kernel
set_option maxRecDepth 100000 in
theorem zu_X2_isRest : z_useok 51 = true := by decide +kernel
set_option maxRecDepth 100000 in
theorem zu_X2_laterBy : z_useok 52 = true := by decide +kernel
set_option maxRecDepth 100000 in
theorem zu_X2_livingOf : z_useok 53 = true := by decide +kernel
set_option maxRecDepth 100000 in
theorem zu_X2_nextLook : z_useok 54 = true := by decide +kernel
set_option maxRecDepth 100000 in
theorem zu_X2_pass : z_useok 55 = true := by decide +kernel
set_option maxRecDepth 100000 in
theorem zu_X2_play : z_useok 56 = true := by decide +kernel
set_option maxRecDepth 100000 in
theorem zu_X2_rests : z_useok 57 = true := by decide +kernel
set_option maxRecDepth 100000 in
theorem zu_X2_spare : z_useok 58 = true := by decide +kernel
set_option maxRecDepth 100000 in
theorem zu_X3_bear : z_useok 59 = true := by decide +kernel
set_option maxRecDepth 100000 in
theorem zu_X3_choice : z_useok 60 = true := by decide +kernel
set_option maxRecDepth 100000 in
theorem zu_X3_digest : z_useok 61 = true := by decide +kernel
set_option maxRecDepth 100000 in
theorem zu_X3_goWild : z_useok 62 = true := by decide +kernel
set_option maxRecDepth 100000 in
theorem zu_X3_init : z_useok 63 = true := by decide +kernel
set_option maxRecDepth 100000 in
theorem zu_X3_isStill : z_useok 64 = true := by decide +kernel
set_option maxRecDepth 100000 in
theorem zu_X3_living : z_useok 65 = true := by decide +kernel
set_option maxRecDepth 100000 in
theorem zu_X3_look : z_useok 66 = true := by decide +kernel
set_option maxRecDepth 100000 in
theorem zu_X3_mate : z_useok 67 = true := by decide +kernel
set_option maxRecDepth 100000 in
theorem zu_X3_pass : z_useok 68 = true := by decide +kernel
set_option maxRecDepth 100000 in
theorem zu_X3_prepare : z_useok 69 = true := by decide +kernel
set_option maxRecDepth 100000 in
theorem zu_X3_starve : z_useok 70 = true := by decide +kernel
set_option maxRecDepth 100000 in
theorem zu_X3_strike : z_useok 71 = true := by decide +kernel
set_option maxRecDepth 100000 in
theorem zu_X3_walk : z_useok 72 = true := by decide +kernel
set_option maxRecDepth 100000 in
theorem zu_X3_weigh : z_useok 73 = true := by decide +kernel
set_option maxRecDepth 100000 in
theorem zu_X4_clause : z_useok 74 = true := by decide +kernel
set_option maxRecDepth 100000 in
theorem zu_X4_init : z_useok 75 = true := by decide +kernel
set_option maxRecDepth 100000 in
theorem zu_X4_isWhole : z_useok 76 = true := by decide +kernel
set_option maxRecDepth 100000 in
theorem zu_X4_oneClock : z_useok 77 = true := by decide +kernel
set_option maxRecDepth 100000 in
theorem zu_X4_onePerson : z_useok 78 = true := by decide +kernel
set_option maxRecDepth 100000 in
theorem zu_X4_read : z_useok 79 = true := by decide +kernel
set_option maxRecDepth 100000 in
theorem zu_X4_room : z_useok 80 = true := by decide +kernel
set_option maxRecDepth 100000 in
theorem zu_X4_takesItems : z_useok 81 = true := by decide +kernel
set_option maxRecDepth 100000 in
theorem zu_X4_takesWay : z_useok 82 = true := by decide +kernel
set_option maxRecDepth 100000 in
theorem zu_X4_waysAreTold : z_useok 83 = true := by decide +kernel
set_option maxRecDepth 100000 in
theorem zu_X5_forget : z_useok 84 = true := by decide +kernel
set_option maxRecDepth 100000 in
theorem zu_X5_hoursPutBy : z_useok 85 = true := by decide +kernel
