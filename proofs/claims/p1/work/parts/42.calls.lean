/-! numbers made concrete -/
theorem xt_num {x : Int32} {lo hi : Nat} (hlo : (Int32.ofNat lo).toInt = lo) (hhi : (Int32.ofNat hi).toInt = hi) (a : (Int32.ofNat lo).toInt ≤ x.toInt) (b : x.toInt ≤ (Int32.ofNat hi).toInt) : ∃ n, n < hi + 1 ∧ lo ≤ n ∧ x = Int32.ofNat n := by
  rw [hlo] at a
  rw [hhi] at b
  obtain ⟨n, h1, h2⟩ := xt_nat (x := x) (h := hi + 1) (by omega) (by omega)
  refine ⟨n, h1, ?_, h2⟩
  have := Int32.toInt_lt x
  have e : x.toInt = (n : Int) := by
    rw [h2, Int32.toInt_ofNat_of_lt]
    have h3 : (Int32.ofNat hi).toInt < 2147483648 := Int32.toInt_lt _
    omega
  omega
section XTN
variable {p : Program} {l : Launch} {e : Env} {s : State} {m : MethodId} {below : List Frame} {meth : Method} {c : Code} {b : Nat} {xs : Nat → Int32} {D : va_G} {cy : Nat → ClassId} {sg : Nat → Nat}
/-- one path, its facts known -/
theorem xt_one (h : xt_Ctx p l s m meth c b 7 xs D cy sg) (k : Nat) (hk : xs 0 &&& 63 = Int32.ofNat k) {scr : List Value} (hlen : scr.length = 7) (hsc : xt_sc xs scr) (fx : xr_F) {q : xr_F} (hq : ∀ d ∈ q, xt_T xs d) (hc : xt_clo q fx = true) (hrun : xt_go ((5, .retAddr 0, .int 63, .int (Int32.ofNat k)) :: []) fx xr_no scr = true) : xt_Goal p l e s m below meth c b := by
  refine xt_W h (ep := xs) ?_ (xt_clo_ok hq hc) (fun d u as w b o ho => by cases ho) hlen (fun j v hv => ?_) hrun
  · intro d hd
    rcases List.mem_cons.mp hd with rfl | hd
    · refine ⟨_, _, rfl, rfl, ?_⟩
      show Value.int (Int32.ofNat k) = .int (xs 0 &&& 63)
      rw [hk]
    · cases hd
  · obtain ⟨h3, h4⟩ := hsc j v hv
    rw [xt_iv_ok (xt_lt_I h3), h4]
end XTN
def xg_7_ps : List (xr_F × xr_F) := [([(1, .retAddr 1, .int (Int32.ofNat 0), true)], [(1, .retAddr 1, .int (Int32.ofNat 0), true)]),
  ([(1, .retAddr 1, .int (Int32.ofNat 0), false), (1, .int (Int32.ofNat 8), .retAddr 1, true)], [(1, .retAddr 1, .int (Int32.ofNat 0), false), (1, .int (Int32.ofNat 8), .retAddr 1, true)])]
abbrev xg_7_in : xr_F := [(1, .retAddr 1, .int (Int32.ofNat 0), false), (1, .int (Int32.ofNat 8), .retAddr 1, false)]
set_option maxRecDepth 100000 in
theorem xg_7_all : xg_7_ps.all (fun q => xt_clo q.1 q.2 && xt_go ((5, .retAddr 0, .int 63, .int (Int32.ofNat 7)) :: []) q.2 xr_no xt_v7) = true := by decide +kernel
set_option maxRecDepth 100000 in
theorem xg_7_n : (([0, 1, 2, 3, 4, 5, 6, 7, 8] : List Nat).all (fun n1 => xt_go ((5, .retAddr 0, .int 63, .int (Int32.ofNat 7)) :: []) [] xr_no (xt_v7.set 1 (.int (Int32.ofNat n1))))) = true := by decide +kernel
theorem xg_7 {p : Program} {l : Launch} {e : Env} {s : State} {m : MethodId} {below : List Frame} {meth : Method} {c : Code} {b : Nat} {xs : Nat → Int32} {D : va_G} {cy : Nat → ClassId} {sg : Nat → Nat} (h : xt_Ctx p l s m meth c b 7 xs D cy sg) (hk : xs 0 &&& 63 = Int32.ofNat 7) : xt_Goal p l e s m below meth c b := by
  refine xt_call h 7 hk rfl xt_sc7 [] rfl xg_7_ps [xg_7_in] 60 (by decide +kernel) xg_7_all (fun q hq hT => ?_)
  cases (List.mem_singleton.mp hq)
  have a1 := (xt_T1 (hT (1, .retAddr 1, .int (Int32.ofNat 0), false) (by simp [xg_7_in]))).2 rfl
  have b1 := (xt_T1 (hT (1, .int (Int32.ofNat 8), .retAddr 1, false) (by simp [xg_7_in]))).2 rfl
  obtain ⟨n1, hn1, ln1, en1⟩ := xt_num (x := xs 1) (lo := 0) (hi := 8) (by decide) (by decide) a1 b1
  exact xt_one h 7 hk rfl (xt_sc_set xt_sc7 en1) [] hT (by decide +kernel) (List.all_eq_true.mp (xg_7_n) n1 ((by decide +kernel : ∀ n, n < 9 → 0 ≤ n → n ∈ ([0, 1, 2, 3, 4, 5, 6, 7, 8] : List Nat)) n1 hn1 ln1))
def xg_15_ps : List (xr_F × xr_F) := [([(1, .retAddr 1, .int (Int32.ofNat 0), true)], [(1, .retAddr 1, .int (Int32.ofNat 0), true)]),
  ([(1, .retAddr 1, .int (Int32.ofNat 0), false), (1, .int (Int32.ofNat 3), .retAddr 1, true)], [(1, .retAddr 1, .int (Int32.ofNat 0), false), (1, .int (Int32.ofNat 3), .retAddr 1, true)])]
abbrev xg_15_in : xr_F := [(1, .retAddr 1, .int (Int32.ofNat 0), false), (1, .int (Int32.ofNat 3), .retAddr 1, false)]
set_option maxRecDepth 100000 in
theorem xg_15_all : xg_15_ps.all (fun q => xt_clo q.1 q.2 && xt_go ((5, .retAddr 0, .int 63, .int (Int32.ofNat 15)) :: []) q.2 xr_no xt_v7) = true := by decide +kernel
set_option maxRecDepth 100000 in
theorem xg_15_n : (([0, 1, 2, 3] : List Nat).all (fun n1 => xt_go ((5, .retAddr 0, .int 63, .int (Int32.ofNat 15)) :: []) [] xr_no (xt_v7.set 1 (.int (Int32.ofNat n1))))) = true := by decide +kernel
theorem xg_15 {p : Program} {l : Launch} {e : Env} {s : State} {m : MethodId} {below : List Frame} {meth : Method} {c : Code} {b : Nat} {xs : Nat → Int32} {D : va_G} {cy : Nat → ClassId} {sg : Nat → Nat} (h : xt_Ctx p l s m meth c b 7 xs D cy sg) (hk : xs 0 &&& 63 = Int32.ofNat 15) : xt_Goal p l e s m below meth c b := by
  refine xt_call h 15 hk rfl xt_sc7 [] rfl xg_15_ps [xg_15_in] 60 (by decide +kernel) xg_15_all (fun q hq hT => ?_)
  cases (List.mem_singleton.mp hq)
  have a1 := (xt_T1 (hT (1, .retAddr 1, .int (Int32.ofNat 0), false) (by simp [xg_15_in]))).2 rfl
  have b1 := (xt_T1 (hT (1, .int (Int32.ofNat 3), .retAddr 1, false) (by simp [xg_15_in]))).2 rfl
  obtain ⟨n1, hn1, ln1, en1⟩ := xt_num (x := xs 1) (lo := 0) (hi := 3) (by decide) (by decide) a1 b1
  exact xt_one h 15 hk rfl (xt_sc_set xt_sc7 en1) [] hT (by decide +kernel) (List.all_eq_true.mp (xg_15_n) n1 ((by decide +kernel : ∀ n, n < 4 → 0 ≤ n → n ∈ ([0, 1, 2, 3] : List Nat)) n1 hn1 ln1))
def xg_30_ps : List (xr_F × xr_F) := [([(1, .retAddr 1, .int (Int32.ofNat 0), true)], [(1, .retAddr 1, .int (Int32.ofNat 0), true)]),
  ([(1, .retAddr 1, .int (Int32.ofNat 0), false), (1, .int (Int32.ofNat 6), .retAddr 1, true)], [(1, .retAddr 1, .int (Int32.ofNat 0), false), (1, .int (Int32.ofNat 6), .retAddr 1, true)])]
abbrev xg_30_in : xr_F := [(1, .retAddr 1, .int (Int32.ofNat 0), false), (1, .int (Int32.ofNat 6), .retAddr 1, false)]
set_option maxRecDepth 100000 in
theorem xg_30_all : xg_30_ps.all (fun q => xt_clo q.1 q.2 && xt_go ((5, .retAddr 0, .int 63, .int (Int32.ofNat 30)) :: []) q.2 xr_no xt_v7) = true := by decide +kernel
set_option maxRecDepth 100000 in
theorem xg_30_n : (([0, 1, 2, 3, 4, 5, 6] : List Nat).all (fun n1 => xt_go ((5, .retAddr 0, .int 63, .int (Int32.ofNat 30)) :: []) [] xr_no (xt_v7.set 1 (.int (Int32.ofNat n1))))) = true := by decide +kernel
theorem xg_30 {p : Program} {l : Launch} {e : Env} {s : State} {m : MethodId} {below : List Frame} {meth : Method} {c : Code} {b : Nat} {xs : Nat → Int32} {D : va_G} {cy : Nat → ClassId} {sg : Nat → Nat} (h : xt_Ctx p l s m meth c b 7 xs D cy sg) (hk : xs 0 &&& 63 = Int32.ofNat 30) : xt_Goal p l e s m below meth c b := by
  refine xt_call h 30 hk rfl xt_sc7 [] rfl xg_30_ps [xg_30_in] 60 (by decide +kernel) xg_30_all (fun q hq hT => ?_)
  cases (List.mem_singleton.mp hq)
  have a1 := (xt_T1 (hT (1, .retAddr 1, .int (Int32.ofNat 0), false) (by simp [xg_30_in]))).2 rfl
  have b1 := (xt_T1 (hT (1, .int (Int32.ofNat 6), .retAddr 1, false) (by simp [xg_30_in]))).2 rfl
  obtain ⟨n1, hn1, ln1, en1⟩ := xt_num (x := xs 1) (lo := 0) (hi := 6) (by decide) (by decide) a1 b1
  exact xt_one h 30 hk rfl (xt_sc_set xt_sc7 en1) [] hT (by decide +kernel) (List.all_eq_true.mp (xg_30_n) n1 ((by decide +kernel : ∀ n, n < 7 → 0 ≤ n → n ∈ ([0, 1, 2, 3, 4, 5, 6] : List Nat)) n1 hn1 ln1))
def xg_33_ps : List (xr_F × xr_F) := [([(1, .retAddr 1, .int (Int32.ofNat 0), true)], [(0, .retAddr 1, .int (Int32.ofNat 0), false), (0, .retAddr 1, .int (Int32.ofNat 1), false), (1, .retAddr 1, .int (Int32.ofNat 0), true)]),
  ([(1, .retAddr 1, .int (Int32.ofNat 0), false), (1, .int (Int32.ofNat 1), .retAddr 1, true)], [(0, .retAddr 1, .int (Int32.ofNat 0), false), (0, .retAddr 1, .int (Int32.ofNat 1), false), (1, .retAddr 1, .int (Int32.ofNat 0), false), (1, .int (Int32.ofNat 1), .retAddr 1, true)])]
abbrev xg_33_in : xr_F := [(1, .retAddr 1, .int (Int32.ofNat 0), false), (1, .int (Int32.ofNat 1), .retAddr 1, false)]
set_option maxRecDepth 100000 in
theorem xg_33_all : xg_33_ps.all (fun q => xt_clo q.1 q.2 && xt_go ((5, .retAddr 0, .int 63, .int (Int32.ofNat 33)) :: []) q.2 xr_no xt_v7) = true := by decide +kernel
set_option maxRecDepth 100000 in
theorem xg_33_n : (([0, 1] : List Nat).all (fun n1 => xt_go ((5, .retAddr 0, .int 63, .int (Int32.ofNat 33)) :: []) [] xr_no (xt_v7.set 1 (.int (Int32.ofNat n1))))) = true := by decide +kernel
theorem xg_33 {p : Program} {l : Launch} {e : Env} {s : State} {m : MethodId} {below : List Frame} {meth : Method} {c : Code} {b : Nat} {xs : Nat → Int32} {D : va_G} {cy : Nat → ClassId} {sg : Nat → Nat} (h : xt_Ctx p l s m meth c b 7 xs D cy sg) (hk : xs 0 &&& 63 = Int32.ofNat 33) : xt_Goal p l e s m below meth c b := by
  refine xt_call h 33 hk rfl xt_sc7 [] rfl xg_33_ps [xg_33_in] 60 (by decide +kernel) xg_33_all (fun q hq hT => ?_)
  cases (List.mem_singleton.mp hq)
  have a1 := (xt_T1 (hT (1, .retAddr 1, .int (Int32.ofNat 0), false) (by simp [xg_33_in]))).2 rfl
  have b1 := (xt_T1 (hT (1, .int (Int32.ofNat 1), .retAddr 1, false) (by simp [xg_33_in]))).2 rfl
  obtain ⟨n1, hn1, ln1, en1⟩ := xt_num (x := xs 1) (lo := 0) (hi := 1) (by decide) (by decide) a1 b1
  exact xt_one h 33 hk rfl (xt_sc_set xt_sc7 en1) [] hT (by decide +kernel) (List.all_eq_true.mp (xg_33_n) n1 ((by decide +kernel : ∀ n, n < 2 → 0 ≤ n → n ∈ ([0, 1] : List Nat)) n1 hn1 ln1))
def xg_34_ps : List (xr_F × xr_F) := [([(1, .retAddr 1, .int (Int32.ofNat 0), true)], [(1, .retAddr 1, .int (Int32.ofNat 0), true), (0, .retAddr 1, .int (Int32.ofNat 0), false), (0, .retAddr 1, .int (Int32.ofNat 1), false), (0, .retAddr 1, .int (Int32.ofNat 2), false)]),
  ([(1, .retAddr 1, .int (Int32.ofNat 0), false), (1, .int (Int32.ofNat 2), .retAddr 1, true)], [(1, .retAddr 1, .int (Int32.ofNat 0), false), (1, .int (Int32.ofNat 2), .retAddr 1, true), (0, .retAddr 1, .int (Int32.ofNat 0), false), (0, .retAddr 1, .int (Int32.ofNat 1), false), (0, .retAddr 1, .int (Int32.ofNat 2), false)])]
abbrev xg_34_in : xr_F := [(1, .retAddr 1, .int (Int32.ofNat 0), false), (1, .int (Int32.ofNat 2), .retAddr 1, false)]
set_option maxRecDepth 100000 in
theorem xg_34_all : xg_34_ps.all (fun q => xt_clo q.1 q.2 && xt_go ((5, .retAddr 0, .int 63, .int (Int32.ofNat 34)) :: []) q.2 xr_no xt_v7) = true := by decide +kernel
set_option maxRecDepth 100000 in
theorem xg_34_n : (([0, 1, 2] : List Nat).all (fun n1 => xt_go ((5, .retAddr 0, .int 63, .int (Int32.ofNat 34)) :: []) [] xr_no (xt_v7.set 1 (.int (Int32.ofNat n1))))) = true := by decide +kernel
theorem xg_34 {p : Program} {l : Launch} {e : Env} {s : State} {m : MethodId} {below : List Frame} {meth : Method} {c : Code} {b : Nat} {xs : Nat → Int32} {D : va_G} {cy : Nat → ClassId} {sg : Nat → Nat} (h : xt_Ctx p l s m meth c b 7 xs D cy sg) (hk : xs 0 &&& 63 = Int32.ofNat 34) : xt_Goal p l e s m below meth c b := by
  refine xt_call h 34 hk rfl xt_sc7 [] rfl xg_34_ps [xg_34_in] 60 (by decide +kernel) xg_34_all (fun q hq hT => ?_)
  cases (List.mem_singleton.mp hq)
  have a1 := (xt_T1 (hT (1, .retAddr 1, .int (Int32.ofNat 0), false) (by simp [xg_34_in]))).2 rfl
  have b1 := (xt_T1 (hT (1, .int (Int32.ofNat 2), .retAddr 1, false) (by simp [xg_34_in]))).2 rfl
  obtain ⟨n1, hn1, ln1, en1⟩ := xt_num (x := xs 1) (lo := 0) (hi := 2) (by decide) (by decide) a1 b1
  exact xt_one h 34 hk rfl (xt_sc_set xt_sc7 en1) [] hT (by decide +kernel) (List.all_eq_true.mp (xg_34_n) n1 ((by decide +kernel : ∀ n, n < 3 → 0 ≤ n → n ∈ ([0, 1, 2] : List Nat)) n1 hn1 ln1))
def xg_3_df : xr_D := []
def xg_3_ps : List (xr_F × xr_F) := [([(1, .retAddr 1, .int (Int32.ofNat 0), true)], [(1, .retAddr 1, .int (Int32.ofNat 0), true)]),
  ([(1, .retAddr 1, .int (Int32.ofNat 0), false), (1, .int (Int32.ofNat 0), .retAddr 1, true)], [(1, .retAddr 1, .int (Int32.ofNat 0), false), (1, .int (Int32.ofNat 0), .retAddr 1, true)]),
  ([(1, .retAddr 1, .int (Int32.ofNat 0), false), (1, .int (Int32.ofNat 0), .retAddr 1, false)], [(1, .retAddr 1, .int (Int32.ofNat 0), false), (1, .int (Int32.ofNat 0), .retAddr 1, false), (1, .int (Int32.ofNat 200), .retAddr 1, false)])]
set_option maxRecDepth 100000 in
theorem xg_3_all : xg_3_ps.all (fun q => xt_clo q.1 q.2 && xt_go ((5, .retAddr 0, .int 63, .int (Int32.ofNat 3)) :: xg_3_df) q.2 xr_no xt_v7) = true := by decide +kernel
theorem xg_3 {p : Program} {l : Launch} {e : Env} {s : State} {m : MethodId} {below : List Frame} {meth : Method} {c : Code} {b : Nat} {xs : Nat → Int32} {D : va_G} {cy : Nat → ClassId} {sg : Nat → Nat} (h : xt_Ctx p l s m meth c b 7 xs D cy sg) (hk : xs 0 &&& 63 = Int32.ofNat 3) : xt_Goal p l e s m below meth c b :=
  xt_call h 3 hk rfl xt_sc7 xg_3_df (by decide +kernel) xg_3_ps [] 60 (by decide +kernel) xg_3_all (fun q hq => by cases hq)
