/-! the tables of each method, checked -/
set_option maxRecDepth 100000 in
theorem zu_X11_init : z_useok 149 = true := by decide +kernel
set_option maxRecDepth 100000 in
theorem zu_X8_init : z_useok 107 = true := by decide +kernel
set_option maxRecDepth 100000 in
theorem zu_X4_init : z_useok 75 = true := by decide +kernel
set_option maxRecDepth 100000 in
theorem zu_X6_init : z_useok 94 = true := by decide +kernel
set_option maxRecDepth 100000 in
theorem zu_X10_init : z_useok 120 = true := by decide +kernel
set_option maxRecDepth 100000 in
theorem zu_X3_init : z_useok 63 = true := by decide +kernel
set_option maxRecDepth 100000 in
theorem zu_X5_init : z_useok 86 = true := by decide +kernel
set_option maxRecDepth 100000 in
theorem zu_X0_init : z_useok 37 = true := by decide +kernel
set_option maxRecDepth 100000 in
theorem zu_X2_init : z_useok 50 = true := by decide +kernel
set_option maxRecDepth 100000 in
theorem zu_X7_init : z_useok 100 = true := by decide +kernel
set_option maxRecDepth 100000 in
theorem zu_X1_init : z_useok 42 = true := by decide +kernel
set_option maxRecDepth 100000 in
theorem zu_X12_init : z_useok 230 = true := by decide +kernel
