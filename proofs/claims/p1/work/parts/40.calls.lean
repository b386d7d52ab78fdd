/-! calls, printed by wip/p1/gcalls.py -/
def xg_5_df : xr_D := []
def xg_5_ps : List (xr_F × xr_F) := [([], [])]
set_option maxRecDepth 100000 in
theorem xg_5_all : xg_5_ps.all (fun q => xt_clo q.1 q.2 && xt_go ((5, .retAddr 0, .int 63, .int (Int32.ofNat 5)) :: xg_5_df) q.2 xr_no xt_v7) = true := by decide +kernel
theorem xg_5 {p : Program} {l : Launch} {e : Env} {s : State} {m : MethodId} {below : List Frame} {meth : Method} {c : Code} {b : Nat} {xs : Nat → Int32} {D : va_G} {cy : Nat → ClassId} {sg : Nat → Nat} (h : xt_Ctx p l s m meth c b 7 xs D cy sg) (hk : xs 0 &&& 63 = Int32.ofNat 5) : xt_Goal p l e s m below meth c b :=
  xt_call h 5 hk rfl xt_sc7 xg_5_df (by decide +kernel) xg_5_ps [] 60 (by decide +kernel) xg_5_all (fun q hq => by cases hq)
def xg_6_df : xr_D := []
def xg_6_ps : List (xr_F × xr_F) := [([], [])]
set_option maxRecDepth 100000 in
theorem xg_6_all : xg_6_ps.all (fun q => xt_clo q.1 q.2 && xt_go ((5, .retAddr 0, .int 63, .int (Int32.ofNat 6)) :: xg_6_df) q.2 xr_no xt_v7) = true := by decide +kernel
theorem xg_6 {p : Program} {l : Launch} {e : Env} {s : State} {m : MethodId} {below : List Frame} {meth : Method} {c : Code} {b : Nat} {xs : Nat → Int32} {D : va_G} {cy : Nat → ClassId} {sg : Nat → Nat} (h : xt_Ctx p l s m meth c b 7 xs D cy sg) (hk : xs 0 &&& 63 = Int32.ofNat 6) : xt_Goal p l e s m below meth c b :=
  xt_call h 6 hk rfl xt_sc7 xg_6_df (by decide +kernel) xg_6_ps [] 60 (by decide +kernel) xg_6_all (fun q hq => by cases hq)
def xg_8_df : xr_D := []
def xg_8_ps : List (xr_F × xr_F) := [([(1, .retAddr 1, .int (Int32.ofNat 0), true)], [(1, .retAddr 1, .int (Int32.ofNat 0), true)]),
  ([(1, .retAddr 1, .int (Int32.ofNat 0), false)], [(1, .retAddr 1, .int (Int32.ofNat 0), false), (1, .int (Int32.ofNat 4294967295), .retAddr 1, true)])]
set_option maxRecDepth 100000 in
theorem xg_8_all : xg_8_ps.all (fun q => xt_clo q.1 q.2 && xt_go ((5, .retAddr 0, .int 63, .int (Int32.ofNat 8)) :: xg_8_df) q.2 xr_no xt_v7) = true := by decide +kernel
theorem xg_8 {p : Program} {l : Launch} {e : Env} {s : State} {m : MethodId} {below : List Frame} {meth : Method} {c : Code} {b : Nat} {xs : Nat → Int32} {D : va_G} {cy : Nat → ClassId} {sg : Nat → Nat} (h : xt_Ctx p l s m meth c b 7 xs D cy sg) (hk : xs 0 &&& 63 = Int32.ofNat 8) : xt_Goal p l e s m below meth c b :=
  xt_call h 8 hk rfl xt_sc7 xg_8_df (by decide +kernel) xg_8_ps [] 60 (by decide +kernel) xg_8_all (fun q hq => by cases hq)
def xg_9_df : xr_D := []
def xg_9_ps : List (xr_F × xr_F) := [([(1, .retAddr 1, .int (Int32.ofNat 0), true)], [(1, .retAddr 1, .int (Int32.ofNat 0), true)]),
  ([(1, .retAddr 1, .int (Int32.ofNat 0), false)], [(1, .retAddr 1, .int (Int32.ofNat 0), false), (1, .int (Int32.ofNat 4294967295), .retAddr 1, true)])]
set_option maxRecDepth 100000 in
theorem xg_9_all : xg_9_ps.all (fun q => xt_clo q.1 q.2 && xt_go ((5, .retAddr 0, .int 63, .int (Int32.ofNat 9)) :: xg_9_df) q.2 xr_no xt_v7) = true := by decide +kernel
theorem xg_9 {p : Program} {l : Launch} {e : Env} {s : State} {m : MethodId} {below : List Frame} {meth : Method} {c : Code} {b : Nat} {xs : Nat → Int32} {D : va_G} {cy : Nat → ClassId} {sg : Nat → Nat} (h : xt_Ctx p l s m meth c b 7 xs D cy sg) (hk : xs 0 &&& 63 = Int32.ofNat 9) : xt_Goal p l e s m below meth c b :=
  xt_call h 9 hk rfl xt_sc7 xg_9_df (by decide +kernel) xg_9_ps [] 60 (by decide +kernel) xg_9_all (fun q hq => by cases hq)
def xg_10_df : xr_D := []
def xg_10_ps : List (xr_F × xr_F) := [([(1, .retAddr 1, .int (Int32.ofNat 0), true)], [(1, .retAddr 1, .int (Int32.ofNat 0), true)]),
  ([(1, .retAddr 1, .int (Int32.ofNat 0), false)], [(1, .retAddr 1, .int (Int32.ofNat 0), false), (1, .int (Int32.ofNat 4294967295), .retAddr 1, true)])]
set_option maxRecDepth 100000 in
theorem xg_10_all : xg_10_ps.all (fun q => xt_clo q.1 q.2 && xt_go ((5, .retAddr 0, .int 63, .int (Int32.ofNat 10)) :: xg_10_df) q.2 xr_no xt_v7) = true := by decide +kernel
theorem xg_10 {p : Program} {l : Launch} {e : Env} {s : State} {m : MethodId} {below : List Frame} {meth : Method} {c : Code} {b : Nat} {xs : Nat → Int32} {D : va_G} {cy : Nat → ClassId} {sg : Nat → Nat} (h : xt_Ctx p l s m meth c b 7 xs D cy sg) (hk : xs 0 &&& 63 = Int32.ofNat 10) : xt_Goal p l e s m below meth c b :=
  xt_call h 10 hk rfl xt_sc7 xg_10_df (by decide +kernel) xg_10_ps [] 60 (by decide +kernel) xg_10_all (fun q hq => by cases hq)
def xg_11_df : xr_D := []
def xg_11_ps : List (xr_F × xr_F) := [([(1, .retAddr 1, .int (Int32.ofNat 0), true)], [(1, .retAddr 1, .int (Int32.ofNat 0), true)]),
  ([(1, .retAddr 1, .int (Int32.ofNat 0), false)], [(1, .retAddr 1, .int (Int32.ofNat 0), false), (1, .int (Int32.ofNat 4294967295), .retAddr 1, true)])]
set_option maxRecDepth 100000 in
theorem xg_11_all : xg_11_ps.all (fun q => xt_clo q.1 q.2 && xt_go ((5, .retAddr 0, .int 63, .int (Int32.ofNat 11)) :: xg_11_df) q.2 xr_no xt_v7) = true := by decide +kernel
theorem xg_11 {p : Program} {l : Launch} {e : Env} {s : State} {m : MethodId} {below : List Frame} {meth : Method} {c : Code} {b : Nat} {xs : Nat → Int32} {D : va_G} {cy : Nat → ClassId} {sg : Nat → Nat} (h : xt_Ctx p l s m meth c b 7 xs D cy sg) (hk : xs 0 &&& 63 = Int32.ofNat 11) : xt_Goal p l e s m below meth c b :=
  xt_call h 11 hk rfl xt_sc7 xg_11_df (by decide +kernel) xg_11_ps [] 60 (by decide +kernel) xg_11_all (fun q hq => by cases hq)
def xg_13_df : xr_D := []
def xg_13_ps : List (xr_F × xr_F) := [([(1, .retAddr 1, .int (Int32.ofNat 0), true)], [(1, .retAddr 1, .int (Int32.ofNat 0), true)]),
  ([(1, .retAddr 1, .int (Int32.ofNat 0), false)], [(1, .retAddr 1, .int (Int32.ofNat 0), false), (1, .int (Int32.ofNat 4294967295), .retAddr 1, true)])]
set_option maxRecDepth 100000 in
theorem xg_13_all : xg_13_ps.all (fun q => xt_clo q.1 q.2 && xt_go ((5, .retAddr 0, .int 63, .int (Int32.ofNat 13)) :: xg_13_df) q.2 xr_no xt_v7) = true := by decide +kernel
theorem xg_13 {p : Program} {l : Launch} {e : Env} {s : State} {m : MethodId} {below : List Frame} {meth : Method} {c : Code} {b : Nat} {xs : Nat → Int32} {D : va_G} {cy : Nat → ClassId} {sg : Nat → Nat} (h : xt_Ctx p l s m meth c b 7 xs D cy sg) (hk : xs 0 &&& 63 = Int32.ofNat 13) : xt_Goal p l e s m below meth c b :=
  xt_call h 13 hk rfl xt_sc7 xg_13_df (by decide +kernel) xg_13_ps [] 60 (by decide +kernel) xg_13_all (fun q hq => by cases hq)
def xg_14_df : xr_D := []
def xg_14_ps : List (xr_F × xr_F) := [([], [])]
set_option maxRecDepth 100000 in
theorem xg_14_all : xg_14_ps.all (fun q => xt_clo q.1 q.2 && xt_go ((5, .retAddr 0, .int 63, .int (Int32.ofNat 14)) :: xg_14_df) q.2 xr_no xt_v7) = true := by decide +kernel
theorem xg_14 {p : Program} {l : Launch} {e : Env} {s : State} {m : MethodId} {below : List Frame} {meth : Method} {c : Code} {b : Nat} {xs : Nat → Int32} {D : va_G} {cy : Nat → ClassId} {sg : Nat → Nat} (h : xt_Ctx p l s m meth c b 7 xs D cy sg) (hk : xs 0 &&& 63 = Int32.ofNat 14) : xt_Goal p l e s m below meth c b :=
  xt_call h 14 hk rfl xt_sc7 xg_14_df (by decide +kernel) xg_14_ps [] 60 (by decide +kernel) xg_14_all (fun q hq => by cases hq)
def xg_17_df : xr_D := []
def xg_17_ps : List (xr_F × xr_F) := [([(1, .retAddr 1, .int (Int32.ofNat 0), true)], [(1, .retAddr 1, .int (Int32.ofNat 0), true)]),
  ([(1, .retAddr 1, .int (Int32.ofNat 0), false)], [(1, .retAddr 1, .int (Int32.ofNat 0), false), (1, .int (Int32.ofNat 4294967295), .retAddr 1, true)])]
set_option maxRecDepth 100000 in
theorem xg_17_all : xg_17_ps.all (fun q => xt_clo q.1 q.2 && xt_go ((5, .retAddr 0, .int 63, .int (Int32.ofNat 17)) :: xg_17_df) q.2 xr_no xt_v7) = true := by decide +kernel
theorem xg_17 {p : Program} {l : Launch} {e : Env} {s : State} {m : MethodId} {below : List Frame} {meth : Method} {c : Code} {b : Nat} {xs : Nat → Int32} {D : va_G} {cy : Nat → ClassId} {sg : Nat → Nat} (h : xt_Ctx p l s m meth c b 7 xs D cy sg) (hk : xs 0 &&& 63 = Int32.ofNat 17) : xt_Goal p l e s m below meth c b :=
  xt_call h 17 hk rfl xt_sc7 xg_17_df (by decide +kernel) xg_17_ps [] 60 (by decide +kernel) xg_17_all (fun q hq => by cases hq)
def xg_24_df : xr_D := []
def xg_24_ps : List (xr_F × xr_F) := [([(1, .retAddr 1, .int (Int32.ofNat 0), true)], [(1, .retAddr 1, .int (Int32.ofNat 0), true)]),
  ([(1, .retAddr 1, .int (Int32.ofNat 0), false)], [(1, .retAddr 1, .int (Int32.ofNat 0), false), (1, .int (Int32.ofNat 4294967295), .retAddr 1, true)])]
set_option maxRecDepth 100000 in
theorem xg_24_all : xg_24_ps.all (fun q => xt_clo q.1 q.2 && xt_go ((5, .retAddr 0, .int 63, .int (Int32.ofNat 24)) :: xg_24_df) q.2 xr_no xt_v7) = true := by decide +kernel
theorem xg_24 {p : Program} {l : Launch} {e : Env} {s : State} {m : MethodId} {below : List Frame} {meth : Method} {c : Code} {b : Nat} {xs : Nat → Int32} {D : va_G} {cy : Nat → ClassId} {sg : Nat → Nat} (h : xt_Ctx p l s m meth c b 7 xs D cy sg) (hk : xs 0 &&& 63 = Int32.ofNat 24) : xt_Goal p l e s m below meth c b :=
  xt_call h 24 hk rfl xt_sc7 xg_24_df (by decide +kernel) xg_24_ps [] 60 (by decide +kernel) xg_24_all (fun q hq => by cases hq)
def xg_26_df : xr_D := []
def xg_26_ps : List (xr_F × xr_F) := [([(1, .retAddr 1, .int (Int32.ofNat 0), true)], [(1, .retAddr 1, .int (Int32.ofNat 0), true)]),
  ([(1, .retAddr 1, .int (Int32.ofNat 0), false)], [(1, .retAddr 1, .int (Int32.ofNat 0), false), (1, .int (Int32.ofNat 4294967295), .retAddr 1, true)])]
set_option maxRecDepth 100000 in
theorem xg_26_all : xg_26_ps.all (fun q => xt_clo q.1 q.2 && xt_go ((5, .retAddr 0, .int 63, .int (Int32.ofNat 26)) :: xg_26_df) q.2 xr_no xt_v7) = true := by decide +kernel
theorem xg_26 {p : Program} {l : Launch} {e : Env} {s : State} {m : MethodId} {below : List Frame} {meth : Method} {c : Code} {b : Nat} {xs : Nat → Int32} {D : va_G} {cy : Nat → ClassId} {sg : Nat → Nat} (h : xt_Ctx p l s m meth c b 7 xs D cy sg) (hk : xs 0 &&& 63 = Int32.ofNat 26) : xt_Goal p l e s m below meth c b :=
  xt_call h 26 hk rfl xt_sc7 xg_26_df (by decide +kernel) xg_26_ps [] 60 (by decide +kernel) xg_26_all (fun q hq => by cases hq)
def xg_27_df : xr_D := []
def xg_27_ps : List (xr_F × xr_F) := [([(1, .retAddr 1, .int (Int32.ofNat 0), true)], [(1, .retAddr 1, .int (Int32.ofNat 0), true)]),
  ([(1, .retAddr 1, .int (Int32.ofNat 0), false)], [(1, .retAddr 1, .int (Int32.ofNat 0), false), (1, .int (Int32.ofNat 4294967295), .retAddr 1, true)])]
set_option maxRecDepth 100000 in
theorem xg_27_all : xg_27_ps.all (fun q => xt_clo q.1 q.2 && xt_go ((5, .retAddr 0, .int 63, .int (Int32.ofNat 27)) :: xg_27_df) q.2 xr_no xt_v7) = true := by decide +kernel
theorem xg_27 {p : Program} {l : Launch} {e : Env} {s : State} {m : MethodId} {below : List Frame} {meth : Method} {c : Code} {b : Nat} {xs : Nat → Int32} {D : va_G} {cy : Nat → ClassId} {sg : Nat → Nat} (h : xt_Ctx p l s m meth c b 7 xs D cy sg) (hk : xs 0 &&& 63 = Int32.ofNat 27) : xt_Goal p l e s m below meth c b :=
  xt_call h 27 hk rfl xt_sc7 xg_27_df (by decide +kernel) xg_27_ps [] 60 (by decide +kernel) xg_27_all (fun q hq => by cases hq)
def xg_32_df : xr_D := []
def xg_32_ps : List (xr_F × xr_F) := [([], [])]
set_option maxRecDepth 100000 in
theorem xg_32_all : xg_32_ps.all (fun q => xt_clo q.1 q.2 && xt_go ((5, .retAddr 0, .int 63, .int (Int32.ofNat 32)) :: xg_32_df) q.2 xr_no xt_v7) = true := by decide +kernel
theorem xg_32 {p : Program} {l : Launch} {e : Env} {s : State} {m : MethodId} {below : List Frame} {meth : Method} {c : Code} {b : Nat} {xs : Nat → Int32} {D : va_G} {cy : Nat → ClassId} {sg : Nat → Nat} (h : xt_Ctx p l s m meth c b 7 xs D cy sg) (hk : xs 0 &&& 63 = Int32.ofNat 32) : xt_Goal p l e s m below meth c b :=
  xt_call h 32 hk rfl xt_sc7 xg_32_df (by decide +kernel) xg_32_ps [] 60 (by decide +kernel) xg_32_all (fun q hq => by cases hq)
