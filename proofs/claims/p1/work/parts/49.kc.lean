/-! the tables: every method that is reached is as its bytecode says: printed by wip/p1/gtab.py -/
set_option maxRecDepth 100000 in
theorem xk_70 : xr_Mok xr_mt xm_70 = true := by decide +kernel
set_option maxRecDepth 100000 in
theorem xk_71 : xr_Mok xr_mt xm_71 = true := by decide +kernel
set_option maxRecDepth 100000 in
theorem xk_72 : xr_Mok xr_mt xm_72 = true := by decide +kernel
set_option maxRecDepth 100000 in
theorem xk_73 : xr_Mok xr_mt xm_73 = true := by decide +kernel
set_option maxRecDepth 100000 in
theorem xk_74 : xr_Mok xr_mt xm_74 = true := by decide +kernel
set_option maxRecDepth 100000 in
theorem xk_75 : xr_Mok xr_mt xm_75 = true := by decide +kernel
set_option maxRecDepth 100000 in
theorem xk_76 : xr_Mok xr_mt xm_76 = true := by decide +kernel
set_option maxRecDepth 100000 in
theorem xk_77 : xr_Mok xr_mt xm_77 = true := by decide +kernel
set_option maxRecDepth 100000 in
theorem xk_78 : xr_Mok xr_mt xm_78 = true := by decide +kernel
set_option maxRecDepth 100000 in
theorem xk_79 : xr_Mok xr_mt xm_79 = true := by decide +kernel
set_option maxRecDepth 100000 in
theorem xk_80 : xr_Mok xr_mt xm_80 = true := by decide +kernel
set_option maxRecDepth 100000 in
theorem xk_81 : xr_Mok xr_mt xm_81 = true := by decide +kernel
set_option maxRecDepth 100000 in
theorem xk_82 : xr_Mok xr_mt xm_82 = true := by decide +kernel
set_option maxRecDepth 100000 in
theorem xk_83 : xr_Mok xr_mt xm_83 = true := by decide +kernel
set_option maxRecDepth 100000 in
theorem xk_84 : xr_Mok xr_mt xm_84 = true := by decide +kernel
set_option maxRecDepth 100000 in
theorem xk_85 : xr_Mok xr_mt xm_85 = true := by decide +kernel
set_option maxRecDepth 100000 in
theorem xk_86 : xr_Mok xr_mt xm_86 = true := by decide +kernel
set_option maxRecDepth 100000 in
theorem xk_87 : xr_Mok xr_mt xm_87 = true := by decide +kernel
set_option maxRecDepth 100000 in
theorem xk_88 : xr_Mok xr_mt xm_88 = true := by decide +kernel
set_option maxRecDepth 100000 in
theorem xk_89 : xr_Mok xr_mt xm_89 = true := by decide +kernel
set_option maxRecDepth 100000 in
theorem xk_90 : xr_Mok xr_mt xm_90 = true := by decide +kernel
set_option maxRecDepth 100000 in
theorem xk_91 : xr_Mok xr_mt xm_91 = true := by decide +kernel
set_option maxRecDepth 100000 in
theorem xk_92 : xr_Mok xr_mt xm_92 = true := by decide +kernel
set_option maxRecDepth 100000 in
theorem xk_93 : xr_Mok xr_mt xm_93 = true := by decide +kernel
set_option maxRecDepth 100000 in
theorem xk_94 : xr_Mok xr_mt xm_94 = true := by decide +kernel
set_option maxRecDepth 100000 in
theorem xk_95 : xr_Mok xr_mt xm_95 = true := by decide +kernel
set_option maxRecDepth 100000 in
theorem xk_96 : xr_Mok xr_mt xm_96 = true := by decide +kernel
set_option maxRecDepth 100000 in
theorem xk_97 : xr_Mok xr_mt xm_97 = true := by decide +kernel
set_option maxRecDepth 100000 in
theorem xk_98 : xr_Mok xr_mt xm_98 = true := by decide +kernel
set_option maxRecDepth 100000 in
theorem xk_99 : xr_Mok xr_mt xm_99 = true := by decide +kernel
set_option maxRecDepth 100000 in
theorem xk_100 : xr_Mok xr_mt xm_100 = true := by decide +kernel
set_option maxRecDepth 100000 in
theorem xk_101 : xr_Mok xr_mt xm_101 = true := by decide +kernel
set_option maxRecDepth 100000 in
theorem xk_102 : xr_Mok xr_mt xm_102 = true := by decide +kernel
set_option maxRecDepth 100000 in
theorem xk_103 : xr_Mok xr_mt xm_103 = true := by decide +kernel
set_option maxRecDepth 100000 in
theorem xk_104 : xr_Mok xr_mt xm_104 = true := by decide +kernel
