/-! stable, rows, generation: printed by wip/p1/gcalls4.py -/
set_option maxRecDepth 100000 in
theorem xg_22_n : xt_go ((5, .retAddr 0, .int 63, .int (Int32.ofNat 22)) :: []) [] xn_sm xt_v7 = true := by decide +kernel
theorem xg_22 {p : Program} {l : Launch} {e : Env} {s : State} {m : MethodId} {below : List Frame} {meth : Method} {c : Code} {b : Nat} {xs : Nat → Int32} {D : va_G} {cy : Nat → ClassId} {sg : Nat → Nat} (h : xt_Ctx p l s m meth c b 7 xs D cy sg) (hk : xs 0 &&& 63 = Int32.ofNat 22) : xt_Goal p l e s m below meth c b :=
  xt_oneS h 22 hk rfl xt_sc7 [] (q := []) (fun d hd => by cases hd) rfl (xn_sm_ok h.1 h.2.2.2.2.2.2.2.1) xg_22_n
def xg_21_ps : List (xr_F × xr_F) := [([(1, .retAddr 1, .int (Int32.ofNat 0), true)], [(1, .retAddr 1, .int (Int32.ofNat 0), true)]),
  ([(1, .retAddr 1, .int (Int32.ofNat 0), false), (1, .int (Int32.ofNat 64), .retAddr 1, true)], [(1, .retAddr 1, .int (Int32.ofNat 0), false), (1, .int (Int32.ofNat 64), .retAddr 1, true)])]
abbrev xg_21_in : xr_F := [(1, .retAddr 1, .int (Int32.ofNat 0), false), (1, .int (Int32.ofNat 64), .retAddr 1, false)]
set_option maxRecDepth 100000 in
theorem xg_21_all : xg_21_ps.all (fun q => xt_clo q.1 q.2 && xt_go ((5, .retAddr 0, .int 63, .int (Int32.ofNat 21)) :: []) q.2 xr_no xt_v7) = true := by decide +kernel
set_option maxRecDepth 100000 in
theorem xg_21_n0 : (([0, 1, 2, 3, 4, 5, 6, 7, 8] : List Nat).all (fun n1 => xt_go ((5, .retAddr 0, .int 63, .int (Int32.ofNat 21)) :: []) [] xn_sm (xt_v7.set 1 (.int (Int32.ofNat n1))))) = true := by decide +kernel
set_option maxRecDepth 100000 in
theorem xg_21_n1 : (([9, 10, 11, 12, 13, 14, 15, 16, 17] : List Nat).all (fun n1 => xt_go ((5, .retAddr 0, .int 63, .int (Int32.ofNat 21)) :: []) [] xn_sm (xt_v7.set 1 (.int (Int32.ofNat n1))))) = true := by decide +kernel
set_option maxRecDepth 100000 in
theorem xg_21_n2 : (([18, 19, 20, 21, 22, 23, 24, 25, 26] : List Nat).all (fun n1 => xt_go ((5, .retAddr 0, .int 63, .int (Int32.ofNat 21)) :: []) [] xn_sm (xt_v7.set 1 (.int (Int32.ofNat n1))))) = true := by decide +kernel
set_option maxRecDepth 100000 in
theorem xg_21_n3 : (([27, 28, 29, 30, 31, 32, 33, 34, 35] : List Nat).all (fun n1 => xt_go ((5, .retAddr 0, .int 63, .int (Int32.ofNat 21)) :: []) [] xn_sm (xt_v7.set 1 (.int (Int32.ofNat n1))))) = true := by decide +kernel
set_option maxRecDepth 100000 in
theorem xg_21_n4 : (([36, 37, 38, 39, 40, 41, 42, 43, 44] : List Nat).all (fun n1 => xt_go ((5, .retAddr 0, .int 63, .int (Int32.ofNat 21)) :: []) [] xn_sm (xt_v7.set 1 (.int (Int32.ofNat n1))))) = true := by decide +kernel
set_option maxRecDepth 100000 in
theorem xg_21_n5 : (([45, 46, 47, 48, 49, 50, 51, 52, 53] : List Nat).all (fun n1 => xt_go ((5, .retAddr 0, .int 63, .int (Int32.ofNat 21)) :: []) [] xn_sm (xt_v7.set 1 (.int (Int32.ofNat n1))))) = true := by decide +kernel
set_option maxRecDepth 100000 in
theorem xg_21_n6 : (([54, 55, 56, 57, 58, 59, 60, 61, 62] : List Nat).all (fun n1 => xt_go ((5, .retAddr 0, .int 63, .int (Int32.ofNat 21)) :: []) [] xn_sm (xt_v7.set 1 (.int (Int32.ofNat n1))))) = true := by decide +kernel
set_option maxRecDepth 100000 in
theorem xg_21_n7 : (([63, 64] : List Nat).all (fun n1 => xt_go ((5, .retAddr 0, .int 63, .int (Int32.ofNat 21)) :: []) [] xn_sm (xt_v7.set 1 (.int (Int32.ofNat n1))))) = true := by decide +kernel
theorem xg_21_n (n1 : Nat) (h : n1 < 65) : xt_go ((5, .retAddr 0, .int 63, .int (Int32.ofNat 21)) :: []) [] xn_sm (xt_v7.set 1 (.int (Int32.ofNat n1))) = true := by
  have hm : n1 ∈ ([0, 1, 2, 3, 4, 5, 6, 7, 8] : List Nat) ∨ n1 ∈ ([9, 10, 11, 12, 13, 14, 15, 16, 17] : List Nat) ∨ n1 ∈ ([18, 19, 20, 21, 22, 23, 24, 25, 26] : List Nat) ∨ n1 ∈ ([27, 28, 29, 30, 31, 32, 33, 34, 35] : List Nat) ∨ n1 ∈ ([36, 37, 38, 39, 40, 41, 42, 43, 44] : List Nat) ∨ n1 ∈ ([45, 46, 47, 48, 49, 50, 51, 52, 53] : List Nat) ∨ n1 ∈ ([54, 55, 56, 57, 58, 59, 60, 61, 62] : List Nat) ∨ n1 ∈ ([63, 64] : List Nat) := (by decide +kernel : ∀ n1, n1 < 65 → n1 ∈ ([0, 1, 2, 3, 4, 5, 6, 7, 8] : List Nat) ∨ n1 ∈ ([9, 10, 11, 12, 13, 14, 15, 16, 17] : List Nat) ∨ n1 ∈ ([18, 19, 20, 21, 22, 23, 24, 25, 26] : List Nat) ∨ n1 ∈ ([27, 28, 29, 30, 31, 32, 33, 34, 35] : List Nat) ∨ n1 ∈ ([36, 37, 38, 39, 40, 41, 42, 43, 44] : List Nat) ∨ n1 ∈ ([45, 46, 47, 48, 49, 50, 51, 52, 53] : List Nat) ∨ n1 ∈ ([54, 55, 56, 57, 58, 59, 60, 61, 62] : List Nat) ∨ n1 ∈ ([63, 64] : List Nat)) n1 h
  rcases hm with hm | hm | hm | hm | hm | hm | hm | hm
  · exact List.all_eq_true.mp xg_21_n0 n1 hm
  · exact List.all_eq_true.mp xg_21_n1 n1 hm
  · exact List.all_eq_true.mp xg_21_n2 n1 hm
  · exact List.all_eq_true.mp xg_21_n3 n1 hm
  · exact List.all_eq_true.mp xg_21_n4 n1 hm
  · exact List.all_eq_true.mp xg_21_n5 n1 hm
  · exact List.all_eq_true.mp xg_21_n6 n1 hm
  · exact List.all_eq_true.mp xg_21_n7 n1 hm
theorem xg_21 {p : Program} {l : Launch} {e : Env} {s : State} {m : MethodId} {below : List Frame} {meth : Method} {c : Code} {b : Nat} {xs : Nat → Int32} {D : va_G} {cy : Nat → ClassId} {sg : Nat → Nat} (h : xt_Ctx p l s m meth c b 7 xs D cy sg) (hk : xs 0 &&& 63 = Int32.ofNat 21) : xt_Goal p l e s m below meth c b := by
  refine xt_call h 21 hk rfl xt_sc7 [] rfl xg_21_ps [xg_21_in] 60 (by decide +kernel) xg_21_all (fun q hq hT => ?_)
  cases (List.mem_singleton.mp hq)
  have a1 := (xt_T1 (hT (1, .retAddr 1, .int (Int32.ofNat 0), false) (by simp [xg_21_in]))).2 rfl
  have b1 := (xt_T1 (hT (1, .int (Int32.ofNat 64), .retAddr 1, false) (by simp [xg_21_in]))).2 rfl
  obtain ⟨n1, hn1, ln1, en1⟩ := xt_num (x := xs 1) (lo := 0) (hi := 64) (by decide) (by decide) a1 b1
  exact xt_oneS h 21 hk rfl (xt_sc_set xt_sc7 en1) [] hT (by decide +kernel) (xn_sm_ok h.1 h.2.2.2.2.2.2.2.1) (xg_21_n n1 hn1)
def xg_20_ps : List (xr_F × xr_F) := [([(1, .retAddr 1, .int (Int32.ofNat 0), true)], [(1, .retAddr 1, .int (Int32.ofNat 0), true)]),
  ([(1, .retAddr 1, .int (Int32.ofNat 0), false), (1, .int (Int32.ofNat 63), .retAddr 1, true)], [(1, .retAddr 1, .int (Int32.ofNat 0), false), (1, .int (Int32.ofNat 63), .retAddr 1, true)])]
abbrev xg_20_in : xr_F := [(1, .retAddr 1, .int (Int32.ofNat 0), false), (1, .int (Int32.ofNat 63), .retAddr 1, false)]
set_option maxRecDepth 100000 in
theorem xg_20_all : xg_20_ps.all (fun q => xt_clo q.1 q.2 && xt_go ((5, .retAddr 0, .int 63, .int (Int32.ofNat 20)) :: []) q.2 xr_no xt_v7) = true := by decide +kernel
set_option maxRecDepth 100000 in
theorem xg_20_n0 : (([0, 1, 2, 3, 4, 5] : List Nat).all (fun n1 => xt_go ((5, .retAddr 0, .int 63, .int (Int32.ofNat 20)) :: []) [] xn_sm (xt_v7.set 1 (.int (Int32.ofNat n1))))) = true := by decide +kernel
set_option maxRecDepth 100000 in
theorem xg_20_n1 : (([6, 7, 8, 9, 10, 11] : List Nat).all (fun n1 => xt_go ((5, .retAddr 0, .int 63, .int (Int32.ofNat 20)) :: []) [] xn_sm (xt_v7.set 1 (.int (Int32.ofNat n1))))) = true := by decide +kernel
set_option maxRecDepth 100000 in
theorem xg_20_n2 : (([12, 13, 14, 15, 16, 17] : List Nat).all (fun n1 => xt_go ((5, .retAddr 0, .int 63, .int (Int32.ofNat 20)) :: []) [] xn_sm (xt_v7.set 1 (.int (Int32.ofNat n1))))) = true := by decide +kernel
set_option maxRecDepth 100000 in
theorem xg_20_n3 : (([18, 19, 20, 21, 22, 23] : List Nat).all (fun n1 => xt_go ((5, .retAddr 0, .int 63, .int (Int32.ofNat 20)) :: []) [] xn_sm (xt_v7.set 1 (.int (Int32.ofNat n1))))) = true := by decide +kernel
set_option maxRecDepth 100000 in
theorem xg_20_n4 : (([24, 25, 26, 27, 28, 29] : List Nat).all (fun n1 => xt_go ((5, .retAddr 0, .int 63, .int (Int32.ofNat 20)) :: []) [] xn_sm (xt_v7.set 1 (.int (Int32.ofNat n1))))) = true := by decide +kernel
set_option maxRecDepth 100000 in
theorem xg_20_n5 : (([30, 31, 32, 33, 34, 35] : List Nat).all (fun n1 => xt_go ((5, .retAddr 0, .int 63, .int (Int32.ofNat 20)) :: []) [] xn_sm (xt_v7.set 1 (.int (Int32.ofNat n1))))) = true := by decide +kernel
set_option maxRecDepth 100000 in
theorem xg_20_n6 : (([36, 37, 38, 39, 40, 41] : List Nat).all (fun n1 => xt_go ((5, .retAddr 0, .int 63, .int (Int32.ofNat 20)) :: []) [] xn_sm (xt_v7.set 1 (.int (Int32.ofNat n1))))) = true := by decide +kernel
set_option maxRecDepth 100000 in
theorem xg_20_n7 : (([42, 43, 44, 45, 46, 47] : List Nat).all (fun n1 => xt_go ((5, .retAddr 0, .int 63, .int (Int32.ofNat 20)) :: []) [] xn_sm (xt_v7.set 1 (.int (Int32.ofNat n1))))) = true := by decide +kernel
set_option maxRecDepth 100000 in
theorem xg_20_n8 : (([48, 49, 50, 51, 52, 53] : List Nat).all (fun n1 => xt_go ((5, .retAddr 0, .int 63, .int (Int32.ofNat 20)) :: []) [] xn_sm (xt_v7.set 1 (.int (Int32.ofNat n1))))) = true := by decide +kernel
set_option maxRecDepth 100000 in
theorem xg_20_n9 : (([54, 55, 56, 57, 58, 59] : List Nat).all (fun n1 => xt_go ((5, .retAddr 0, .int 63, .int (Int32.ofNat 20)) :: []) [] xn_sm (xt_v7.set 1 (.int (Int32.ofNat n1))))) = true := by decide +kernel
set_option maxRecDepth 100000 in
theorem xg_20_n10 : (([60, 61, 62, 63] : List Nat).all (fun n1 => xt_go ((5, .retAddr 0, .int 63, .int (Int32.ofNat 20)) :: []) [] xn_sm (xt_v7.set 1 (.int (Int32.ofNat n1))))) = true := by decide +kernel
theorem xg_20_n (n1 : Nat) (h : n1 < 64) : xt_go ((5, .retAddr 0, .int 63, .int (Int32.ofNat 20)) :: []) [] xn_sm (xt_v7.set 1 (.int (Int32.ofNat n1))) = true := by
  have hm : n1 ∈ ([0, 1, 2, 3, 4, 5] : List Nat) ∨ n1 ∈ ([6, 7, 8, 9, 10, 11] : List Nat) ∨ n1 ∈ ([12, 13, 14, 15, 16, 17] : List Nat) ∨ n1 ∈ ([18, 19, 20, 21, 22, 23] : List Nat) ∨ n1 ∈ ([24, 25, 26, 27, 28, 29] : List Nat) ∨ n1 ∈ ([30, 31, 32, 33, 34, 35] : List Nat) ∨ n1 ∈ ([36, 37, 38, 39, 40, 41] : List Nat) ∨ n1 ∈ ([42, 43, 44, 45, 46, 47] : List Nat) ∨ n1 ∈ ([48, 49, 50, 51, 52, 53] : List Nat) ∨ n1 ∈ ([54, 55, 56, 57, 58, 59] : List Nat) ∨ n1 ∈ ([60, 61, 62, 63] : List Nat) := (by decide +kernel : ∀ n1, n1 < 64 → n1 ∈ ([0, 1, 2, 3, 4, 5] : List Nat) ∨ n1 ∈ ([6, 7, 8, 9, 10, 11] : List Nat) ∨ n1 ∈ ([12, 13, 14, 15, 16, 17] : List Nat) ∨ n1 ∈ ([18, 19, 20, 21, 22, 23] : List Nat) ∨ n1 ∈ ([24, 25, 26, 27, 28, 29] : List Nat) ∨ n1 ∈ ([30, 31, 32, 33, 34, 35] : List Nat) ∨ n1 ∈ ([36, 37, 38, 39, 40, 41] : List Nat) ∨ n1 ∈ ([42, 43, 44, 45, 46, 47] : List Nat) ∨ n1 ∈ ([48, 49, 50, 51, 52, 53] : List Nat) ∨ n1 ∈ ([54, 55, 56, 57, 58, 59] : List Nat) ∨ n1 ∈ ([60, 61, 62, 63] : List Nat)) n1 h
  rcases hm with hm | hm | hm | hm | hm | hm | hm | hm | hm | hm | hm
  · exact List.all_eq_true.mp xg_20_n0 n1 hm
  · exact List.all_eq_true.mp xg_20_n1 n1 hm
  · exact List.all_eq_true.mp xg_20_n2 n1 hm
  · exact List.all_eq_true.mp xg_20_n3 n1 hm
  · exact List.all_eq_true.mp xg_20_n4 n1 hm
  · exact List.all_eq_true.mp xg_20_n5 n1 hm
  · exact List.all_eq_true.mp xg_20_n6 n1 hm
  · exact List.all_eq_true.mp xg_20_n7 n1 hm
  · exact List.all_eq_true.mp xg_20_n8 n1 hm
  · exact List.all_eq_true.mp xg_20_n9 n1 hm
  · exact List.all_eq_true.mp xg_20_n10 n1 hm
theorem xg_20 {p : Program} {l : Launch} {e : Env} {s : State} {m : MethodId} {below : List Frame} {meth : Method} {c : Code} {b : Nat} {xs : Nat → Int32} {D : va_G} {cy : Nat → ClassId} {sg : Nat → Nat} (h : xt_Ctx p l s m meth c b 7 xs D cy sg) (hk : xs 0 &&& 63 = Int32.ofNat 20) : xt_Goal p l e s m below meth c b := by
  refine xt_call h 20 hk rfl xt_sc7 [] rfl xg_20_ps [xg_20_in] 60 (by decide +kernel) xg_20_all (fun q hq hT => ?_)
  cases (List.mem_singleton.mp hq)
  have a1 := (xt_T1 (hT (1, .retAddr 1, .int (Int32.ofNat 0), false) (by simp [xg_20_in]))).2 rfl
  have b1 := (xt_T1 (hT (1, .int (Int32.ofNat 63), .retAddr 1, false) (by simp [xg_20_in]))).2 rfl
  obtain ⟨n1, hn1, ln1, en1⟩ := xt_num (x := xs 1) (lo := 0) (hi := 63) (by decide) (by decide) a1 b1
  exact xt_oneS h 20 hk rfl (xt_sc_set xt_sc7 en1) [] hT (by decide +kernel) (xn_sm_ok h.1 h.2.2.2.2.2.2.2.1) (xg_20_n n1 hn1)
