/-! the tables: every method that is reached is as its bytecode says: printed by wip/p1/gtab.py -/
set_option maxRecDepth 100000 in
theorem xk_35 : xr_Mok xr_mt xm_35 = true := by decide +kernel
set_option maxRecDepth 100000 in
theorem xk_36 : xr_Mok xr_mt xm_36 = true := by decide +kernel
set_option maxRecDepth 100000 in
theorem xk_37 : xr_Mok xr_mt xm_37 = true := by decide +kernel
set_option maxRecDepth 100000 in
theorem xk_38 : xr_Mok xr_mt xm_38 = true := by decide +kernel
set_option maxRecDepth 100000 in
theorem xk_39 : xr_Mok xr_mt xm_39 = true := by decide +kernel
set_option maxRecDepth 100000 in
theorem xk_40 : xr_Mok xr_mt xm_40 = true := by decide +kernel
set_option maxRecDepth 100000 in
theorem xk_41 : xr_Mok xr_mt xm_41 = true := by decide +kernel
set_option maxRecDepth 100000 in
theorem xk_42 : xr_Mok xr_mt xm_42 = true := by decide +kernel
set_option maxRecDepth 100000 in
theorem xk_43 : xr_Mok xr_mt xm_43 = true := by decide +kernel
set_option maxRecDepth 100000 in
theorem xk_44 : xr_Mok xr_mt xm_44 = true := by decide +kernel
set_option maxRecDepth 100000 in
theorem xk_45 : xr_Mok xr_mt xm_45 = true := by decide +kernel
set_option maxRecDepth 100000 in
theorem xk_46 : xr_Mok xr_mt xm_46 = true := by decide +kernel
set_option maxRecDepth 100000 in
theorem xk_47 : xr_Mok xr_mt xm_47 = true := by decide +kernel
set_option maxRecDepth 100000 in
theorem xk_48 : xr_Mok xr_mt xm_48 = true := by decide +kernel
set_option maxRecDepth 100000 in
theorem xk_49 : xr_Mok xr_mt xm_49 = true := by decide +kernel
set_option maxRecDepth 100000 in
theorem xk_50 : xr_Mok xr_mt xm_50 = true := by decide +kernel
set_option maxRecDepth 100000 in
theorem xk_51 : xr_Mok xr_mt xm_51 = true := by decide +kernel
set_option maxRecDepth 100000 in
theorem xk_52 : xr_Mok xr_mt xm_52 = true := by decide +kernel
set_option maxRecDepth 100000 in
theorem xk_53 : xr_Mok xr_mt xm_53 = true := by decide +kernel
set_option maxRecDepth 100000 in
theorem xk_54 : xr_Mok xr_mt xm_54 = true := by decide +kernel
set_option maxRecDepth 100000 in
theorem xk_55 : xr_Mok xr_mt xm_55 = true := by decide +kernel
set_option maxRecDepth 100000 in
theorem xk_56 : xr_Mok xr_mt xm_56 = true := by decide +kernel
set_option maxRecDepth 100000 in
theorem xk_57 : xr_Mok xr_mt xm_57 = true := by decide +kernel
set_option maxRecDepth 100000 in
theorem xk_58 : xr_Mok xr_mt xm_58 = true := by decide +kernel
set_option maxRecDepth 100000 in
theorem xk_59 : xr_Mok xr_mt xm_59 = true := by decide +kernel
set_option maxRecDepth 100000 in
theorem xk_60 : xr_Mok xr_mt xm_60 = true := by decide +kernel
set_option maxRecDepth 100000 in
theorem xk_61 : xr_Mok xr_mt xm_61 = true := by decide +kernel
set_option maxRecDepth 100000 in
theorem xk_62 : xr_Mok xr_mt xm_62 = true := by decide +kernel
set_option maxRecDepth 100000 in
theorem xk_63 : xr_Mok xr_mt xm_63 = true := by decide +kernel
set_option maxRecDepth 100000 in
theorem xk_64 : xr_Mok xr_mt xm_64 = true := by decide +kernel
set_option maxRecDepth 100000 in
theorem xk_65 : xr_Mok xr_mt xm_65 = true := by decide +kernel
set_option maxRecDepth 100000 in
theorem xk_66 : xr_Mok xr_mt xm_66 = true := by decide +kernel
set_option maxRecDepth 100000 in
theorem xk_67 : xr_Mok xr_mt xm_67 = true := by decide +kernel
set_option maxRecDepth 100000 in
theorem xk_68 : xr_Mok xr_mt xm_68 = true := by decide +kernel
set_option maxRecDepth 100000 in
theorem xk_69 : xr_Mok xr_mt xm_69 = true := by decide +kernel
