/-! the tables of each method, checked -/
set_option maxRecDepth 100000 in
theorem zu_X5_init : z_useok 86 = true := by decide +kernel
set_option maxRecDepth 100000 in
theorem zu_X5_keep : z_useok 87 = true := by decide +kernel
set_option maxRecDepth 100000 in
theorem zu_X5_keepImage : z_useok 88 = true := by decide +kernel
set_option maxRecDepth 100000 in
theorem zu_X5_putBy : z_useok 89 = true := by decide +kernel
set_option maxRecDepth 100000 in
theorem zu_X5_restore : z_useok 90 = true := by decide +kernel
set_option maxRecDepth 100000 in
theorem zu_X5_takeBack : z_useok 91 = true := by decide +kernel
set_option maxRecDepth 100000 in
theorem zu_X5_told : z_useok 92 = true := by decide +kernel
set_option maxRecDepth 100000 in
theorem zu_X6_copy : z_useok 93 = true := by decide +kernel
set_option maxRecDepth 100000 in
theorem zu_X6_init : z_useok 94 = true := by decide +kernel
set_option maxRecDepth 100000 in
theorem zu_X6_seenFrom : z_useok 95 = true := by decide +kernel
set_option maxRecDepth 100000 in
theorem zu_X7_bestWay : z_useok 96 = true := by decide +kernel
set_option maxRecDepth 100000 in
theorem zu_X7_fewestLookers : z_useok 97 = true := by decide +kernel
set_option maxRecDepth 100000 in
theorem zu_X7_hangAll : z_useok 98 = true := by decide +kernel
set_option maxRecDepth 100000 in
theorem zu_X7_hasBlind : z_useok 99 = true := by decide +kernel
set_option maxRecDepth 100000 in
theorem zu_X7_init : z_useok 100 = true := by decide +kernel
set_option maxRecDepth 100000 in
theorem zu_X7_lasts : z_useok 101 = true := by decide +kernel
set_option maxRecDepth 100000 in
theorem zu_X7_livingBehind : z_useok 102 = true := by decide +kernel
set_option maxRecDepth 100000 in
theorem zu_X7_rotas : z_useok 103 = true := by decide +kernel
set_option maxRecDepth 100000 in
theorem zu_X7_sendSet : z_useok 104 = true := by decide +kernel
set_option maxRecDepth 100000 in
theorem zu_X8_append : z_useok 105 = true := by decide +kernel
set_option maxRecDepth 100000 in
theorem zu_X8_here : z_useok 106 = true := by decide +kernel
set_option maxRecDepth 100000 in
theorem zu_X8_init : z_useok 107 = true := by decide +kernel
set_option maxRecDepth 100000 in
theorem zu_X8_isDigit : z_useok 108 = true := by decide +kernel
set_option maxRecDepth 100000 in
theorem zu_X8_next : z_useok 109 = true := by decide +kernel
set_option maxRecDepth 100000 in
theorem zu_X8_signsIn : z_useok 110 = true := by decide +kernel
set_option maxRecDepth 100000 in
theorem zu_X8_takes : z_useok 111 = true := by decide +kernel
set_option maxRecDepth 100000 in
theorem zu_X8_takesNumber : z_useok 112 = true := by decide +kernel
set_option maxRecDepth 100000 in
theorem zu_X9_init : z_useok 113 = true := by decide +kernel
set_option maxRecDepth 100000 in
theorem zu_X9_worth : z_useok 114 = true := by decide +kernel
set_option maxRecDepth 100000 in
theorem zu_X10_atom : z_useok 115 = true := by decide +kernel
set_option maxRecDepth 100000 in
theorem zu_X10_clause : z_useok 116 = true := by decide +kernel
set_option maxRecDepth 100000 in
theorem zu_X10_condition : z_useok 117 = true := by decide +kernel
set_option maxRecDepth 100000 in
theorem zu_X10_deeperUnit : z_useok 118 = true := by decide +kernel
set_option maxRecDepth 100000 in
theorem zu_X10_emit : z_useok 119 = true := by decide +kernel
set_option maxRecDepth 100000 in
theorem zu_X10_init : z_useok 120 = true := by decide +kernel
set_option maxRecDepth 100000 in
theorem zu_X10_read : z_useok 121 = true := by decide +kernel
set_option maxRecDepth 100000 in
theorem zu_X10_sum : z_useok 122 = true := by decide +kernel
set_option maxRecDepth 100000 in
theorem zu_X10_term : z_useok 123 = true := by decide +kernel
set_option maxRecDepth 100000 in
theorem zu_X10_truths : z_useok 124 = true := by decide +kernel
set_option maxRecDepth 100000 in
theorem zu_X10_unit : z_useok 125 = true := by decide +kernel
