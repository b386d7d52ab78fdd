/-! the tables: every method that is reached is as its bytecode says: printed by wip/p1/gtab.py -/
set_option maxRecDepth 100000 in
theorem xk_140 : xr_Mok xr_mt xm_140 = true := by decide +kernel
set_option maxRecDepth 100000 in
theorem xk_141 : xr_Mok xr_mt xm_141 = true := by decide +kernel
set_option maxRecDepth 100000 in
theorem xk_142 : xr_Mok xr_mt xm_142 = true := by decide +kernel
set_option maxRecDepth 100000 in
theorem xk_143 : xr_Mok xr_mt xm_143 = true := by decide +kernel
set_option maxRecDepth 100000 in
theorem xk_144 : xr_Mok xr_mt xm_144 = true := by decide +kernel
set_option maxRecDepth 100000 in
theorem xk_145 : xr_Mok xr_mt xm_145 = true := by decide +kernel
set_option maxRecDepth 100000 in
theorem xk_146 : xr_Mok xr_mt xm_146 = true := by decide +kernel
set_option maxRecDepth 100000 in
theorem xk_147 : xr_Mok xr_mt xm_147 = true := by decide +kernel
set_option maxRecDepth 100000 in
theorem xk_148 : xr_Mok xr_mt xm_148 = true := by decide +kernel
set_option maxRecDepth 100000 in
theorem xk_149 : xr_Mok xr_mt xm_149 = true := by decide +kernel
set_option maxRecDepth 100000 in
theorem xk_150 : xr_Mok xr_mt xm_150 = true := by decide +kernel
set_option maxRecDepth 100000 in
theorem xk_151 : xr_Mok xr_mt xm_151 = true := by decide +kernel
set_option maxRecDepth 100000 in
theorem xk_152 : xr_Mok xr_mt xm_152 = true := by decide +kernel
set_option maxRecDepth 100000 in
theorem xk_153 : xr_Mok xr_mt xm_153 = true := by decide +kernel
set_option maxRecDepth 100000 in
theorem xk_154 : xr_Mok xr_mt xm_154 = true := by decide +kernel
set_option maxRecDepth 100000 in
theorem xk_155 : xr_Mok xr_mt xm_155 = true := by decide +kernel
set_option maxRecDepth 100000 in
theorem xk_156 : xr_Mok xr_mt xm_156 = true := by decide +kernel
set_option maxRecDepth 100000 in
theorem xk_157 : xr_Mok xr_mt xm_157 = true := by decide +kernel
set_option maxRecDepth 100000 in
theorem xk_158 : xr_Mok xr_mt xm_158 = true := by decide +kernel
set_option maxRecDepth 100000 in
theorem xk_159 : xr_Mok xr_mt xm_159 = true := by decide +kernel
set_option maxRecDepth 100000 in
theorem xk_160 : xr_Mok xr_mt xm_160 = true := by decide +kernel
set_option maxRecDepth 100000 in
theorem xk_161 : xr_Mok xr_mt xm_161 = true := by decide +kernel
set_option maxRecDepth 100000 in
theorem xk_162 : xr_Mok xr_mt xm_162 = true := by decide +kernel
set_option maxRecDepth 100000 in
theorem xk_163 : xr_Mok xr_mt xm_163 = true := by decide +kernel
set_option maxRecDepth 100000 in
theorem xk_164 : xr_Mok xr_mt xm_164 = true := by decide +kernel
set_option maxRecDepth 100000 in
theorem xk_165 : xr_Mok xr_mt xm_165 = true := by decide +kernel
set_option maxRecDepth 100000 in
theorem xk_166 : xr_Mok xr_mt xm_166 = true := by decide +kernel
set_option maxRecDepth 100000 in
theorem xk_167 : xr_Mok xr_mt xm_167 = true := by decide +kernel
set_option maxRecDepth 100000 in
theorem xk_168 : xr_Mok xr_mt xm_168 = true := by decide +kernel
set_option maxRecDepth 100000 in
theorem xk_169 : xr_Mok xr_mt xm_169 = true := by decide +kernel
set_option maxRecDepth 100000 in
theorem xk_170 : xr_Mok xr_mt xm_170 = true := by decide +kernel
set_option maxRecDepth 100000 in
theorem xk_171 : xr_Mok xr_mt xm_171 = true := by decide +kernel
set_option maxRecDepth 100000 in
theorem xk_172 : xr_Mok xr_mt xm_172 = true := by decide +kernel
set_option maxRecDepth 100000 in
theorem xk_173 : xr_Mok xr_mt xm_173 = true := by decide +kernel
set_option maxRecDepth 100000 in
theorem xk_174 : xr_Mok xr_mt xm_174 = true := by decide +kernel
