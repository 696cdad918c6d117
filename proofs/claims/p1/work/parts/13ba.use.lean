/-! tables of the methods of feed, checked -/
set_option maxRecDepth 100000 in
theorem zu_X8_signsIn : z_useok 110 = true := by decide +kernel
set_option maxRecDepth 100000 in
theorem zu_X12_bytesIn : z_useok 192 = true := by decide +kernel
set_option maxRecDepth 100000 in
theorem zu_X8_append : z_useok 105 = true := by decide +kernel
set_option maxRecDepth 100000 in
theorem zu_X12_put : z_useok 265 = true := by decide +kernel
set_option maxRecDepth 100000 in
theorem zu_X11_feed : z_useok 141 = true := by decide +kernel
set_option maxRecDepth 100000 in
theorem zu_X12_feed : z_useok 212 = true := by decide +kernel
set_option maxRecDepth 100000 in
theorem zu_X12_clock : z_useok 196 = true := by decide +kernel
set_option maxRecDepth 100000 in
theorem zu_X12_thrown : z_useok 290 = true := by decide +kernel
set_option maxRecDepth 100000 in
theorem zu_X11_clock : z_useok 132 = true := by decide +kernel
