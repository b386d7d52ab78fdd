/-! the tables: every method that is reached is as its bytecode says: printed by wip/p1/gtab.py -/
set_option maxRecDepth 100000 in
theorem xk_175 : xr_Mok xr_mt xm_175 = true := by decide +kernel
set_option maxRecDepth 100000 in
theorem xk_176 : xr_Mok xr_mt xm_176 = true := by decide +kernel
set_option maxRecDepth 100000 in
theorem xk_177 : xr_Mok xr_mt xm_177 = true := by decide +kernel
set_option maxRecDepth 100000 in
theorem xk_178 : xr_Mok xr_mt xm_178 = true := by decide +kernel
set_option maxRecDepth 100000 in
theorem xk_179 : xr_Mok xr_mt xm_179 = true := by decide +kernel
set_option maxRecDepth 100000 in
theorem xk_180 : xr_Mok xr_mt xm_180 = true := by decide +kernel
set_option maxRecDepth 100000 in
theorem xk_181 : xr_Mok xr_mt xm_181 = true := by decide +kernel
set_option maxRecDepth 100000 in
theorem xk_182 : xr_Mok xr_mt xm_182 = true := by decide +kernel
set_option maxRecDepth 100000 in
theorem xk_183 : xr_Mok xr_mt xm_183 = true := by decide +kernel
set_option maxRecDepth 100000 in
theorem xk_184 : xr_Mok xr_mt xm_184 = true := by decide +kernel
set_option maxRecDepth 100000 in
theorem xk_185 : xr_Mok xr_mt xm_185 = true := by decide +kernel
set_option maxRecDepth 100000 in
theorem xk_186 : xr_Mok xr_mt xm_186 = true := by decide +kernel
set_option maxRecDepth 100000 in
theorem xk_187 : xr_Mok xr_mt xm_187 = true := by decide +kernel
set_option maxRecDepth 100000 in
theorem xk_188 : xr_Mok xr_mt xm_188 = true := by decide +kernel
set_option maxRecDepth 100000 in
theorem xk_189 : xr_Mok xr_mt xm_189 = true := by decide +kernel
set_option maxRecDepth 100000 in
theorem xk_190 : xr_Mok xr_mt xm_190 = true := by decide +kernel
set_option maxRecDepth 100000 in
theorem xk_191 : xr_Mok xr_mt xm_191 = true := by decide +kernel
set_option maxRecDepth 100000 in
theorem xk_192 : xr_Mok xr_mt xm_192 = true := by decide +kernel
set_option maxRecDepth 100000 in
theorem xk_193 : xr_Mok xr_mt xm_193 = true := by decide +kernel
set_option maxRecDepth 100000 in
theorem xk_194 : xr_Mok xr_mt xm_194 = true := by decide +kernel
set_option maxRecDepth 100000 in
theorem xk_195 : xr_Mok xr_mt xm_195 = true := by decide +kernel
set_option maxRecDepth 100000 in
theorem xk_196 : xr_Mok xr_mt xm_196 = true := by decide +kernel
set_option maxRecDepth 100000 in
theorem xk_197 : xr_Mok xr_mt xm_197 = true := by decide +kernel
set_option maxRecDepth 100000 in
theorem xk_198 : xr_Mok xr_mt xm_198 = true := by decide +kernel
set_option maxRecDepth 100000 in
theorem xk_199 : xr_Mok xr_mt xm_199 = true := by decide +kernel
set_option maxRecDepth 100000 in
theorem xk_200 : xr_Mok xr_mt xm_200 = true := by decide +kernel
set_option maxRecDepth 100000 in
theorem xk_201 : xr_Mok xr_mt xm_201 = true := by decide +kernel
set_option maxRecDepth 100000 in
theorem xk_202 : xr_Mok xr_mt xm_202 = true := by decide +kernel
set_option maxRecDepth 100000 in
theorem xk_203 : xr_Mok xr_mt xm_203 = true := by decide +kernel
set_option maxRecDepth 100000 in
theorem xk_204 : xr_Mok xr_mt xm_204 = true := by decide +kernel
set_option maxRecDepth 100000 in
theorem xk_205 : xr_Mok xr_mt xm_205 = true := by decide +kernel
set_option maxRecDepth 100000 in
theorem xk_206 : xr_Mok xr_mt xm_206 = true := by decide +kernel
set_option maxRecDepth 100000 in
theorem xk_207 : xr_Mok xr_mt xm_207 = true := by decide +kernel
set_option maxRecDepth 100000 in
theorem xk_208 : xr_Mok xr_mt xm_208 = true := by decide +kernel
set_option maxRecDepth 100000 in
theorem xk_209 : xr_Mok xr_mt xm_209 = true := by decide +kernel
