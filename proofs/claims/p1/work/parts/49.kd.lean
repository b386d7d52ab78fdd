/-! the tables: every method that is reached is as its bytecode says: printed by wip/p1/gtab.py -/
set_option maxRecDepth 100000 in
theorem xk_105 : xr_Mok xr_mt xm_105 = true := by decide +kernel
set_option maxRecDepth 100000 in
theorem xk_106 : xr_Mok xr_mt xm_106 = true := by decide +kernel
set_option maxRecDepth 100000 in
theorem xk_107 : xr_Mok xr_mt xm_107 = true := by decide +kernel
set_option maxRecDepth 100000 in
theorem xk_108 : xr_Mok xr_mt xm_108 = true := by decide +kernel
set_option maxRecDepth 100000 in
theorem xk_109 : xr_Mok xr_mt xm_109 = true := by decide +kernel
set_option maxRecDepth 100000 in
theorem xk_110 : xr_Mok xr_mt xm_110 = true := by decide +kernel
set_option maxRecDepth 100000 in
theorem xk_111 : xr_Mok xr_mt xm_111 = true := by decide +kernel
set_option maxRecDepth 100000 in
theorem xk_112 : xr_Mok xr_mt xm_112 = true := by decide +kernel
set_option maxRecDepth 100000 in
theorem xk_113 : xr_Mok xr_mt xm_113 = true := by decide +kernel
set_option maxRecDepth 100000 in
theorem xk_114 : xr_Mok xr_mt xm_114 = true := by decide +kernel
set_option maxRecDepth 100000 in
theorem xk_115 : xr_Mok xr_mt xm_115 = true := by decide +kernel
set_option maxRecDepth 100000 in
theorem xk_116 : xr_Mok xr_mt xm_116 = true := by decide +kernel
set_option maxRecDepth 100000 in
theorem xk_117 : xr_Mok xr_mt xm_117 = true := by decide +kernel
set_option maxRecDepth 100000 in
theorem xk_118 : xr_Mok xr_mt xm_118 = true := by decide +kernel
set_option maxRecDepth 100000 in
theorem xk_119 : xr_Mok xr_mt xm_119 = true := by decide +kernel
set_option maxRecDepth 100000 in
theorem xk_120 : xr_Mok xr_mt xm_120 = true := by decide +kernel
set_option maxRecDepth 100000 in
theorem xk_121 : xr_Mok xr_mt xm_121 = true := by decide +kernel
set_option maxRecDepth 100000 in
theorem xk_122 : xr_Mok xr_mt xm_122 = true := by decide +kernel
set_option maxRecDepth 100000 in
theorem xk_123 : xr_Mok xr_mt xm_123 = true := by decide +kernel
set_option maxRecDepth 100000 in
theorem xk_124 : xr_Mok xr_mt xm_124 = true := by decide +kernel
set_option maxRecDepth 100000 in
theorem xk_125 : xr_Mok xr_mt xm_125 = true := by decide +kernel
set_option maxRecDepth 100000 in
theorem xk_126 : xr_Mok xr_mt xm_126 = true := by decide +kernel
set_option maxRecDepth 100000 in
theorem xk_127 : xr_Mok xr_mt xm_127 = true := by decide +kernel
set_option maxRecDepth 100000 in
theorem xk_128 : xr_Mok xr_mt xm_128 = true := by decide +kernel
set_option maxRecDepth 100000 in
theorem xk_129 : xr_Mok xr_mt xm_129 = true := by decide +kernel
set_option maxRecDepth 100000 in
theorem xk_130 : xr_Mok xr_mt xm_130 = true := by decide +kernel
set_option maxRecDepth 100000 in
theorem xk_131 : xr_Mok xr_mt xm_131 = true := by decide +kernel
set_option maxRecDepth 100000 in
theorem xk_132 : xr_Mok xr_mt xm_132 = true := by decide +kernel
set_option maxRecDepth 100000 in
theorem xk_133 : xr_Mok xr_mt xm_133 = true := by decide +kernel
set_option maxRecDepth 100000 in
theorem xk_134 : xr_Mok xr_mt xm_134 = true := by decide +kernel
set_option maxRecDepth 100000 in
theorem xk_135 : xr_Mok xr_mt xm_135 = true := by decide +kernel
set_option maxRecDepth 100000 in
theorem xk_136 : xr_Mok xr_mt xm_136 = true := by decide +kernel
set_option maxRecDepth 100000 in
theorem xk_137 : xr_Mok xr_mt xm_137 = true := by decide +kernel
set_option maxRecDepth 100000 in
theorem xk_138 : xr_Mok xr_mt xm_138 = true := by decide +kernel
set_option maxRecDepth 100000 in
theorem xk_139 : xr_Mok xr_mt xm_139 = true := by decide +kernel
