/-! the law's own run -/
abbrev xr_no : Nat → Nat → List Value → List xr_C → Bool → Option xr_Out := fun _ _ _ _ _ => none
def xr_law (df : xr_D) (fx : xr_F) (sm : Nat → Nat → List Value → List xr_C → Bool → Option xr_Out) (scr : List Value) : Option xr_Out := xr_lp xr_K0 df fx (some scr) xr_mt 20 (xr_R df fx sm xr_mt 100000 20) xm_law 100000 xm_law.2.2.2.2.2.2 [(0, .float 0)] [] [] true 0 0
abbrev xr_vs : List Value := [.retAddr 0, .retAddr 1, .retAddr 2, .retAddr 3, .retAddr 4, .retAddr 5, .retAddr 6]
