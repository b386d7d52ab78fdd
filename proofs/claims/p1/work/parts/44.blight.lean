/-! blight -/
def xg_28_ps : List (xr_F × xr_F) := [([(1, .retAddr 2, .int (Int32.ofNat 0), true)], [(1, .retAddr 2, .int (Int32.ofNat 0), true)]),
  ([(1, .retAddr 2, .int (Int32.ofNat 0), false), (1, .int (Int32.ofNat 16), .retAddr 2, true)], [(1, .retAddr 2, .int (Int32.ofNat 0), false), (1, .int (Int32.ofNat 16), .retAddr 2, true)]),
  ([(1, .retAddr 2, .int (Int32.ofNat 0), false), (1, .int (Int32.ofNat 16), .retAddr 2, false), (1, .retAddr 3, .int (Int32.ofNat 1), true)], [(1, .retAddr 2, .int (Int32.ofNat 0), false), (1, .int (Int32.ofNat 16), .retAddr 2, false), (1, .retAddr 3, .int (Int32.ofNat 1), true)]),
  ([(1, .retAddr 2, .int (Int32.ofNat 0), false), (1, .int (Int32.ofNat 16), .retAddr 2, false), (1, .retAddr 3, .int (Int32.ofNat 1), false), (1, .int (Int32.ofNat 20), .retAddr 3, true)], [(1, .retAddr 2, .int (Int32.ofNat 0), false), (1, .int (Int32.ofNat 16), .retAddr 2, false), (1, .retAddr 3, .int (Int32.ofNat 1), false), (1, .int (Int32.ofNat 20), .retAddr 3, true)]),
  ([(1, .retAddr 2, .int (Int32.ofNat 0), false), (1, .int (Int32.ofNat 16), .retAddr 2, false), (1, .retAddr 3, .int (Int32.ofNat 1), false), (1, .int (Int32.ofNat 20), .retAddr 3, false), (1, .retAddr 4, .int (Int32.ofNat 0), true)], [(1, .retAddr 2, .int (Int32.ofNat 0), false), (1, .int (Int32.ofNat 16), .retAddr 2, false), (1, .retAddr 3, .int (Int32.ofNat 1), false), (1, .int (Int32.ofNat 20), .retAddr 3, false), (1, .retAddr 4, .int (Int32.ofNat 0), true)]),
  ([(1, .retAddr 2, .int (Int32.ofNat 0), false), (1, .int (Int32.ofNat 16), .retAddr 2, false), (1, .retAddr 3, .int (Int32.ofNat 1), false), (1, .int (Int32.ofNat 20), .retAddr 3, false), (1, .retAddr 4, .int (Int32.ofNat 0), false), (1, .int (Int32.ofNat 2), .retAddr 4, true)], [(1, .retAddr 2, .int (Int32.ofNat 0), false), (1, .int (Int32.ofNat 16), .retAddr 2, false), (1, .retAddr 3, .int (Int32.ofNat 1), false), (1, .int (Int32.ofNat 20), .retAddr 3, false), (1, .retAddr 4, .int (Int32.ofNat 0), false), (1, .int (Int32.ofNat 2), .retAddr 4, true)])]
abbrev xg_28_in : xr_F := [(1, .retAddr 2, .int (Int32.ofNat 0), false), (1, .int (Int32.ofNat 16), .retAddr 2, false), (1, .retAddr 3, .int (Int32.ofNat 1), false), (1, .int (Int32.ofNat 20), .retAddr 3, false), (1, .retAddr 4, .int (Int32.ofNat 0), false), (1, .int (Int32.ofNat 2), .retAddr 4, false)]
set_option maxRecDepth 100000 in
theorem xg_28_all : xg_28_ps.all (fun q => xt_clo q.1 q.2 && xt_go ((5, .retAddr 0, .int 63, .int (Int32.ofNat 28)) :: []) q.2 xr_no xt_v7) = true := by decide +kernel
set_option maxRecDepth 100000 in
theorem xg_28_n1 : (([0, 1, 2] : List Nat).all (fun n2 => xt_go ((5, .retAddr 0, .int 63, .int (Int32.ofNat 28)) :: []) [(1, .retAddr 2, .int (Int32.ofNat 0), false), (1, .int (Int32.ofNat 16), .retAddr 2, false)] xr_no ((xt_v7.set 3 (.int (Int32.ofNat 1))).set 4 (.int (Int32.ofNat n2))))) = true := by decide +kernel
set_option maxRecDepth 100000 in
theorem xg_28_n2 : (([0, 1, 2] : List Nat).all (fun n2 => xt_go ((5, .retAddr 0, .int 63, .int (Int32.ofNat 28)) :: []) [(1, .retAddr 2, .int (Int32.ofNat 0), false), (1, .int (Int32.ofNat 16), .retAddr 2, false)] xr_no ((xt_v7.set 3 (.int (Int32.ofNat 2))).set 4 (.int (Int32.ofNat n2))))) = true := by decide +kernel
set_option maxRecDepth 100000 in
theorem xg_28_n3 : (([0, 1, 2] : List Nat).all (fun n2 => xt_go ((5, .retAddr 0, .int 63, .int (Int32.ofNat 28)) :: []) [(1, .retAddr 2, .int (Int32.ofNat 0), false), (1, .int (Int32.ofNat 16), .retAddr 2, false)] xr_no ((xt_v7.set 3 (.int (Int32.ofNat 3))).set 4 (.int (Int32.ofNat n2))))) = true := by decide +kernel
set_option maxRecDepth 100000 in
theorem xg_28_n4 : (([0, 1, 2] : List Nat).all (fun n2 => xt_go ((5, .retAddr 0, .int 63, .int (Int32.ofNat 28)) :: []) [(1, .retAddr 2, .int (Int32.ofNat 0), false), (1, .int (Int32.ofNat 16), .retAddr 2, false)] xr_no ((xt_v7.set 3 (.int (Int32.ofNat 4))).set 4 (.int (Int32.ofNat n2))))) = true := by decide +kernel
set_option maxRecDepth 100000 in
theorem xg_28_n5 : (([0, 1, 2] : List Nat).all (fun n2 => xt_go ((5, .retAddr 0, .int 63, .int (Int32.ofNat 28)) :: []) [(1, .retAddr 2, .int (Int32.ofNat 0), false), (1, .int (Int32.ofNat 16), .retAddr 2, false)] xr_no ((xt_v7.set 3 (.int (Int32.ofNat 5))).set 4 (.int (Int32.ofNat n2))))) = true := by decide +kernel
set_option maxRecDepth 100000 in
theorem xg_28_n6 : (([0, 1, 2] : List Nat).all (fun n2 => xt_go ((5, .retAddr 0, .int 63, .int (Int32.ofNat 28)) :: []) [(1, .retAddr 2, .int (Int32.ofNat 0), false), (1, .int (Int32.ofNat 16), .retAddr 2, false)] xr_no ((xt_v7.set 3 (.int (Int32.ofNat 6))).set 4 (.int (Int32.ofNat n2))))) = true := by decide +kernel
set_option maxRecDepth 100000 in
theorem xg_28_n7 : (([0, 1, 2] : List Nat).all (fun n2 => xt_go ((5, .retAddr 0, .int 63, .int (Int32.ofNat 28)) :: []) [(1, .retAddr 2, .int (Int32.ofNat 0), false), (1, .int (Int32.ofNat 16), .retAddr 2, false)] xr_no ((xt_v7.set 3 (.int (Int32.ofNat 7))).set 4 (.int (Int32.ofNat n2))))) = true := by decide +kernel
set_option maxRecDepth 100000 in
theorem xg_28_n8 : (([0, 1, 2] : List Nat).all (fun n2 => xt_go ((5, .retAddr 0, .int 63, .int (Int32.ofNat 28)) :: []) [(1, .retAddr 2, .int (Int32.ofNat 0), false), (1, .int (Int32.ofNat 16), .retAddr 2, false)] xr_no ((xt_v7.set 3 (.int (Int32.ofNat 8))).set 4 (.int (Int32.ofNat n2))))) = true := by decide +kernel
set_option maxRecDepth 100000 in
theorem xg_28_n9 : (([0, 1, 2] : List Nat).all (fun n2 => xt_go ((5, .retAddr 0, .int 63, .int (Int32.ofNat 28)) :: []) [(1, .retAddr 2, .int (Int32.ofNat 0), false), (1, .int (Int32.ofNat 16), .retAddr 2, false)] xr_no ((xt_v7.set 3 (.int (Int32.ofNat 9))).set 4 (.int (Int32.ofNat n2))))) = true := by decide +kernel
set_option maxRecDepth 100000 in
theorem xg_28_n10 : (([0, 1, 2] : List Nat).all (fun n2 => xt_go ((5, .retAddr 0, .int 63, .int (Int32.ofNat 28)) :: []) [(1, .retAddr 2, .int (Int32.ofNat 0), false), (1, .int (Int32.ofNat 16), .retAddr 2, false)] xr_no ((xt_v7.set 3 (.int (Int32.ofNat 10))).set 4 (.int (Int32.ofNat n2))))) = true := by decide +kernel
set_option maxRecDepth 100000 in
theorem xg_28_n11 : (([0, 1, 2] : List Nat).all (fun n2 => xt_go ((5, .retAddr 0, .int 63, .int (Int32.ofNat 28)) :: []) [(1, .retAddr 2, .int (Int32.ofNat 0), false), (1, .int (Int32.ofNat 16), .retAddr 2, false)] xr_no ((xt_v7.set 3 (.int (Int32.ofNat 11))).set 4 (.int (Int32.ofNat n2))))) = true := by decide +kernel
set_option maxRecDepth 100000 in
theorem xg_28_n12 : (([0, 1, 2] : List Nat).all (fun n2 => xt_go ((5, .retAddr 0, .int 63, .int (Int32.ofNat 28)) :: []) [(1, .retAddr 2, .int (Int32.ofNat 0), false), (1, .int (Int32.ofNat 16), .retAddr 2, false)] xr_no ((xt_v7.set 3 (.int (Int32.ofNat 12))).set 4 (.int (Int32.ofNat n2))))) = true := by decide +kernel
set_option maxRecDepth 100000 in
theorem xg_28_n13 : (([0, 1, 2] : List Nat).all (fun n2 => xt_go ((5, .retAddr 0, .int 63, .int (Int32.ofNat 28)) :: []) [(1, .retAddr 2, .int (Int32.ofNat 0), false), (1, .int (Int32.ofNat 16), .retAddr 2, false)] xr_no ((xt_v7.set 3 (.int (Int32.ofNat 13))).set 4 (.int (Int32.ofNat n2))))) = true := by decide +kernel
set_option maxRecDepth 100000 in
theorem xg_28_n14 : (([0, 1, 2] : List Nat).all (fun n2 => xt_go ((5, .retAddr 0, .int 63, .int (Int32.ofNat 28)) :: []) [(1, .retAddr 2, .int (Int32.ofNat 0), false), (1, .int (Int32.ofNat 16), .retAddr 2, false)] xr_no ((xt_v7.set 3 (.int (Int32.ofNat 14))).set 4 (.int (Int32.ofNat n2))))) = true := by decide +kernel
set_option maxRecDepth 100000 in
theorem xg_28_n15 : (([0, 1, 2] : List Nat).all (fun n2 => xt_go ((5, .retAddr 0, .int 63, .int (Int32.ofNat 28)) :: []) [(1, .retAddr 2, .int (Int32.ofNat 0), false), (1, .int (Int32.ofNat 16), .retAddr 2, false)] xr_no ((xt_v7.set 3 (.int (Int32.ofNat 15))).set 4 (.int (Int32.ofNat n2))))) = true := by decide +kernel
set_option maxRecDepth 100000 in
theorem xg_28_n16 : (([0, 1, 2] : List Nat).all (fun n2 => xt_go ((5, .retAddr 0, .int 63, .int (Int32.ofNat 28)) :: []) [(1, .retAddr 2, .int (Int32.ofNat 0), false), (1, .int (Int32.ofNat 16), .retAddr 2, false)] xr_no ((xt_v7.set 3 (.int (Int32.ofNat 16))).set 4 (.int (Int32.ofNat n2))))) = true := by decide +kernel
set_option maxRecDepth 100000 in
theorem xg_28_n17 : (([0, 1, 2] : List Nat).all (fun n2 => xt_go ((5, .retAddr 0, .int 63, .int (Int32.ofNat 28)) :: []) [(1, .retAddr 2, .int (Int32.ofNat 0), false), (1, .int (Int32.ofNat 16), .retAddr 2, false)] xr_no ((xt_v7.set 3 (.int (Int32.ofNat 17))).set 4 (.int (Int32.ofNat n2))))) = true := by decide +kernel
set_option maxRecDepth 100000 in
theorem xg_28_n18 : (([0, 1, 2] : List Nat).all (fun n2 => xt_go ((5, .retAddr 0, .int 63, .int (Int32.ofNat 28)) :: []) [(1, .retAddr 2, .int (Int32.ofNat 0), false), (1, .int (Int32.ofNat 16), .retAddr 2, false)] xr_no ((xt_v7.set 3 (.int (Int32.ofNat 18))).set 4 (.int (Int32.ofNat n2))))) = true := by decide +kernel
set_option maxRecDepth 100000 in
theorem xg_28_n19 : (([0, 1, 2] : List Nat).all (fun n2 => xt_go ((5, .retAddr 0, .int 63, .int (Int32.ofNat 28)) :: []) [(1, .retAddr 2, .int (Int32.ofNat 0), false), (1, .int (Int32.ofNat 16), .retAddr 2, false)] xr_no ((xt_v7.set 3 (.int (Int32.ofNat 19))).set 4 (.int (Int32.ofNat n2))))) = true := by decide +kernel
set_option maxRecDepth 100000 in
theorem xg_28_n20 : (([0, 1, 2] : List Nat).all (fun n2 => xt_go ((5, .retAddr 0, .int 63, .int (Int32.ofNat 28)) :: []) [(1, .retAddr 2, .int (Int32.ofNat 0), false), (1, .int (Int32.ofNat 16), .retAddr 2, false)] xr_no ((xt_v7.set 3 (.int (Int32.ofNat 20))).set 4 (.int (Int32.ofNat n2))))) = true := by decide +kernel
theorem xg_28_n : (([1, 2, 3, 4, 5, 6, 7, 8, 9, 10, 11, 12, 13, 14, 15, 16, 17, 18, 19, 20] : List Nat).all (fun n1 => ([0, 1, 2] : List Nat).all (fun n2 => xt_go ((5, .retAddr 0, .int 63, .int (Int32.ofNat 28)) :: []) [(1, .retAddr 2, .int (Int32.ofNat 0), false), (1, .int (Int32.ofNat 16), .retAddr 2, false)] xr_no ((xt_v7.set 3 (.int (Int32.ofNat n1))).set 4 (.int (Int32.ofNat n2)))))) = true := by
  refine List.all_eq_true.mpr (fun n hn => ?_)
  simp only [List.mem_cons, List.not_mem_nil, or_false] at hn
  rcases hn with rfl | rfl | rfl | rfl | rfl | rfl | rfl | rfl | rfl | rfl | rfl | rfl | rfl | rfl | rfl | rfl | rfl | rfl | rfl | rfl
  · exact xg_28_n1
  · exact xg_28_n2
  · exact xg_28_n3
  · exact xg_28_n4
  · exact xg_28_n5
  · exact xg_28_n6
  · exact xg_28_n7
  · exact xg_28_n8
  · exact xg_28_n9
  · exact xg_28_n10
  · exact xg_28_n11
  · exact xg_28_n12
  · exact xg_28_n13
  · exact xg_28_n14
  · exact xg_28_n15
  · exact xg_28_n16
  · exact xg_28_n17
  · exact xg_28_n18
  · exact xg_28_n19
  · exact xg_28_n20
theorem xg_28 {p : Program} {l : Launch} {e : Env} {s : State} {m : MethodId} {below : List Frame} {meth : Method} {c : Code} {b : Nat} {xs : Nat → Int32} {D : va_G} {cy : Nat → ClassId} {sg : Nat → Nat} (h : xt_Ctx p l s m meth c b 7 xs D cy sg) (hk : xs 0 &&& 63 = Int32.ofNat 28) : xt_Goal p l e s m below meth c b := by
  refine xt_call h 28 hk rfl xt_sc7 [] rfl xg_28_ps [xg_28_in] 60 (by decide +kernel) xg_28_all (fun q hq hT => ?_)
  cases (List.mem_singleton.mp hq)
  have a3 := (xt_T1 (hT (1, .retAddr 3, .int (Int32.ofNat 1), false) (by simp [xg_28_in]))).2 rfl
  have b3 := (xt_T1 (hT (1, .int (Int32.ofNat 20), .retAddr 3, false) (by simp [xg_28_in]))).2 rfl
  obtain ⟨n1, hn1, ln1, en1⟩ := xt_num (x := xs 3) (lo := 1) (hi := 20) (by decide) (by decide) a3 b3
  have a4 := (xt_T1 (hT (1, .retAddr 4, .int (Int32.ofNat 0), false) (by simp [xg_28_in]))).2 rfl
  have b4 := (xt_T1 (hT (1, .int (Int32.ofNat 2), .retAddr 4, false) (by simp [xg_28_in]))).2 rfl
  obtain ⟨n2, hn2, ln2, en2⟩ := xt_num (x := xs 4) (lo := 0) (hi := 2) (by decide) (by decide) a4 b4
  exact xt_one h 28 hk rfl (xt_sc_set (xt_sc_set xt_sc7 en1) en2) [(1, .retAddr 2, .int (Int32.ofNat 0), false), (1, .int (Int32.ofNat 16), .retAddr 2, false)] hT (by decide +kernel) (List.all_eq_true.mp (List.all_eq_true.mp (xg_28_n) n1 ((by decide +kernel : ∀ n, n < 21 → 1 ≤ n → n ∈ ([1, 2, 3, 4, 5, 6, 7, 8, 9, 10, 11, 12, 13, 14, 15, 16, 17, 18, 19, 20] : List Nat)) n1 hn1 ln1)) n2 ((by decide +kernel : ∀ n, n < 3 → 0 ≤ n → n ∈ ([0, 1, 2] : List Nat)) n2 hn2 ln2))
