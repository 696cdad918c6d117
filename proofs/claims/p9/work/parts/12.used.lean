/-! the tables of each method, checked -/
set_option maxRecDepth 100000 in
theorem zu_X11_person : z_useok 166 = true := by decide +kernel
set_option maxRecDepth 100000 in
theorem zu_X11_power : z_useok 167 = true := by decide +kernel
set_option maxRecDepth 100000 in
theorem zu_X11_ring : z_useok 168 = true := by decide +kernel
set_option maxRecDepth 100000 in
theorem zu_X11_rota : z_useok 169 = true := by decide +kernel
set_option maxRecDepth 100000 in
theorem zu_X11_seen : z_useok 170 = true := by decide +kernel
set_option maxRecDepth 100000 in
theorem zu_X11_sees : z_useok 171 = true := by decide +kernel
set_option maxRecDepth 100000 in
theorem zu_X11_send : z_useok 172 = true := by decide +kernel
set_option maxRecDepth 100000 in
theorem zu_X11_shows : z_useok 173 = true := by decide +kernel
set_option maxRecDepth 100000 in
theorem zu_X11_slowerThan : z_useok 174 = true := by decide +kernel
set_option maxRecDepth 100000 in
theorem zu_X11_spared : z_useok 175 = true := by decide +kernel
set_option maxRecDepth 100000 in
theorem zu_X11_starves : z_useok 176 = true := by decide +kernel
set_option maxRecDepth 100000 in
theorem zu_X11_starvesIn : z_useok 177 = true := by decide +kernel
set_option maxRecDepth 100000 in
theorem zu_X11_still : z_useok 178 = true := by decide +kernel
set_option maxRecDepth 100000 in
theorem zu_X11_taste : z_useok 179 = true := by decide +kernel
set_option maxRecDepth 100000 in
theorem zu_X11_text : z_useok 180 = true := by decide +kernel
set_option maxRecDepth 100000 in
theorem zu_X11_thief : z_useok 181 = true := by decide +kernel
set_option maxRecDepth 100000 in
theorem zu_X11_truth : z_useok 182 = true := by decide +kernel
set_option maxRecDepth 100000 in
theorem zu_X11_undo : z_useok 183 = true := by decide +kernel
set_option maxRecDepth 100000 in
theorem zu_X11_wild : z_useok 184 = true := by decide +kernel
set_option maxRecDepth 100000 in
theorem zu_X11_wind : z_useok 185 = true := by decide +kernel
set_option maxRecDepth 100000 in
theorem zu_X12_ahead : z_useok 186 = true := by decide +kernel
set_option maxRecDepth 100000 in
theorem zu_X12_askFirst : z_useok 187 = true := by decide +kernel
set_option maxRecDepth 100000 in
theorem zu_X12_atom : z_useok 188 = true := by decide +kernel
set_option maxRecDepth 100000 in
theorem zu_X12_back : z_useok 189 = true := by decide +kernel
set_option maxRecDepth 100000 in
theorem zu_X12_best : z_useok 190 = true := by decide +kernel
set_option maxRecDepth 100000 in
theorem zu_X12_blind : z_useok 191 = true := by decide +kernel
set_option maxRecDepth 100000 in
theorem zu_X12_bytesIn : z_useok 192 = true := by decide +kernel
set_option maxRecDepth 100000 in
theorem zu_X12_canSee : z_useok 193 = true := by decide +kernel
set_option maxRecDepth 100000 in
theorem zu_X12_child : z_useok 194 = true := by decide +kernel
set_option maxRecDepth 100000 in
theorem zu_X12_clause : z_useok 195 = true := by decide +kernel
set_option maxRecDepth 100000 in
theorem zu_X12_clock : z_useok 196 = true := by decide +kernel
set_option maxRecDepth 100000 in
theorem zu_X12_compares : z_useok 197 = true := by decide +kernel
set_option maxRecDepth 100000 in
theorem zu_X12_condition : z_useok 198 = true := by decide +kernel
set_option maxRecDepth 100000 in
theorem zu_X12_copy : z_useok 199 = true := by decide +kernel
set_option maxRecDepth 100000 in
theorem zu_X12_count : z_useok 200 = true := by decide +kernel
set_option maxRecDepth 100000 in
theorem zu_X12_crowd : z_useok 201 = true := by decide +kernel
set_option maxRecDepth 100000 in
theorem zu_X12_crowds : z_useok 202 = true := by decide +kernel
set_option maxRecDepth 100000 in
theorem zu_X12_deathOf : z_useok 203 = true := by decide +kernel
set_option maxRecDepth 100000 in
theorem zu_X12_deaths : z_useok 204 = true := by decide +kernel
set_option maxRecDepth 100000 in
theorem zu_X12_digitsOf : z_useok 205 = true := by decide +kernel
