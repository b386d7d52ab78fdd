/-! the tables: every method that is reached is as its bytecode says: printed by wip/p1/gtab.py -/
set_option maxRecDepth 100000 in
theorem xk_0 : xr_Mok xr_mt xm_0 = true := by decide +kernel
set_option maxRecDepth 100000 in
theorem xk_1 : xr_Mok xr_mt xm_1 = true := by decide +kernel
set_option maxRecDepth 100000 in
theorem xk_2 : xr_Mok xr_mt xm_2 = true := by decide +kernel
set_option maxRecDepth 100000 in
theorem xk_3 : xr_Mok xr_mt xm_3 = true := by decide +kernel
set_option maxRecDepth 100000 in
theorem xk_4 : xr_Mok xr_mt xm_4 = true := by decide +kernel
set_option maxRecDepth 100000 in
theorem xk_5 : xr_Mok xr_mt xm_5 = true := by decide +kernel
set_option maxRecDepth 100000 in
theorem xk_6 : xr_Mok xr_mt xm_6 = true := by decide +kernel
set_option maxRecDepth 100000 in
theorem xk_7 : xr_Mok xr_mt xm_7 = true := by decide +kernel
set_option maxRecDepth 100000 in
theorem xk_8 : xr_Mok xr_mt xm_8 = true := by decide +kernel
set_option maxRecDepth 100000 in
theorem xk_9 : xr_Mok xr_mt xm_9 = true := by decide +kernel
set_option maxRecDepth 100000 in
theorem xk_10 : xr_Mok xr_mt xm_10 = true := by decide +kernel
set_option maxRecDepth 100000 in
theorem xk_11 : xr_Mok xr_mt xm_11 = true := by decide +kernel
set_option maxRecDepth 100000 in
theorem xk_12 : xr_Mok xr_mt xm_12 = true := by decide +kernel
set_option maxRecDepth 100000 in
theorem xk_13 : xr_Mok xr_mt xm_13 = true := by decide +kernel
set_option maxRecDepth 100000 in
theorem xk_14 : xr_Mok xr_mt xm_14 = true := by decide +kernel
set_option maxRecDepth 100000 in
theorem xk_15 : xr_Mok xr_mt xm_15 = true := by decide +kernel
set_option maxRecDepth 100000 in
theorem xk_16 : xr_Mok xr_mt xm_16 = true := by decide +kernel
set_option maxRecDepth 100000 in
theorem xk_17 : xr_Mok xr_mt xm_17 = true := by decide +kernel
set_option maxRecDepth 100000 in
theorem xk_18 : xr_Mok xr_mt xm_18 = true := by decide +kernel
set_option maxRecDepth 100000 in
theorem xk_19 : xr_Mok xr_mt xm_19 = true := by decide +kernel
set_option maxRecDepth 100000 in
theorem xk_20 : xr_Mok xr_mt xm_20 = true := by decide +kernel
set_option maxRecDepth 100000 in
theorem xk_21 : xr_Mok xr_mt xm_21 = true := by decide +kernel
set_option maxRecDepth 100000 in
theorem xk_22 : xr_Mok xr_mt xm_22 = true := by decide +kernel
set_option maxRecDepth 100000 in
theorem xk_23 : xr_Mok xr_mt xm_23 = true := by decide +kernel
set_option maxRecDepth 100000 in
theorem xk_24 : xr_Mok xr_mt xm_24 = true := by decide +kernel
set_option maxRecDepth 100000 in
theorem xk_25 : xr_Mok xr_mt xm_25 = true := by decide +kernel
set_option maxRecDepth 100000 in
theorem xk_26 : xr_Mok xr_mt xm_26 = true := by decide +kernel
set_option maxRecDepth 100000 in
theorem xk_27 : xr_Mok xr_mt xm_27 = true := by decide +kernel
set_option maxRecDepth 100000 in
theorem xk_28 : xr_Mok xr_mt xm_28 = true := by decide +kernel
set_option maxRecDepth 100000 in
theorem xk_29 : xr_Mok xr_mt xm_29 = true := by decide +kernel
set_option maxRecDepth 100000 in
theorem xk_30 : xr_Mok xr_mt xm_30 = true := by decide +kernel
set_option maxRecDepth 100000 in
theorem xk_31 : xr_Mok xr_mt xm_31 = true := by decide +kernel
set_option maxRecDepth 100000 in
theorem xk_32 : xr_Mok xr_mt xm_32 = true := by decide +kernel
set_option maxRecDepth 100000 in
theorem xk_33 : xr_Mok xr_mt xm_33 = true := by decide +kernel
set_option maxRecDepth 100000 in
theorem xk_34 : xr_Mok xr_mt xm_34 = true := by decide +kernel
