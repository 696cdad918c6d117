/-! the tables of each method, checked -/
set_option maxRecDepth 100000 in
theorem zu_X12_tasteOf : z_useok 286 = true := by decide +kernel
set_option maxRecDepth 100000 in
theorem zu_X12_term : z_useok 287 = true := by decide +kernel
set_option maxRecDepth 100000 in
theorem zu_X12_text : z_useok 288 = true := by decide +kernel
set_option maxRecDepth 100000 in
theorem zu_X12_thief : z_useok 289 = true := by decide +kernel
set_option maxRecDepth 100000 in
theorem zu_X12_undo : z_useok 290 = true := by decide +kernel
set_option maxRecDepth 100000 in
theorem zu_X12_unit : z_useok 291 = true := by decide +kernel
set_option maxRecDepth 100000 in
theorem zu_X12_usual : z_useok 292 = true := by decide +kernel
set_option maxRecDepth 100000 in
theorem zu_X12_wild : z_useok 293 = true := by decide +kernel
set_option maxRecDepth 100000 in
theorem zu_X12_wind : z_useok 294 = true := by decide +kernel
set_option maxRecDepth 100000 in
theorem zu_X12_within : z_useok 295 = true := by decide +kernel
set_option maxRecDepth 100000 in
theorem zu_X12_worthNow : z_useok 296 = true := by decide +kernel
set_option maxRecDepth 100000 in
theorem zu_X12_writes : z_useok 297 = true := by decide +kernel
