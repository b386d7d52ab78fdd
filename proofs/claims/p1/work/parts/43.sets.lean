/-! sets; calls that are none; short scripts: printed by wip/p1/gcalls3.py -/
def xg_18_df : xr_D := [(4, .retAddr 1, .int (Int32.ofNat 10), .retAddr 7), (1, .retAddr 7, .int (Int32.ofNat 1), .retAddr 8), (3, .retAddr 1, .int (Int32.ofNat 10), .retAddr 9)]
def xg_18_ps : List (xr_F × xr_F) := [([(1, .retAddr 2, .int (Int32.ofNat 0), true), (1, .int (Int32.ofNat 0), .retAddr 1, true), (1, .retAddr 8, .int (Int32.ofNat 0), true)], [(1, .retAddr 2, .int (Int32.ofNat 0), true), (1, .int (Int32.ofNat 0), .retAddr 1, true), (1, .retAddr 8, .int (Int32.ofNat 0), true)]),
  ([(1, .retAddr 2, .int (Int32.ofNat 0), false), (1, .int (Int32.ofNat 1), .retAddr 2, true), (1, .int (Int32.ofNat 0), .retAddr 1, true), (1, .retAddr 8, .int (Int32.ofNat 0), true)], [(1, .retAddr 2, .int (Int32.ofNat 0), false), (1, .int (Int32.ofNat 1), .retAddr 2, true), (1, .int (Int32.ofNat 0), .retAddr 1, true), (1, .retAddr 8, .int (Int32.ofNat 0), true)]),
  ([(1, .retAddr 2, .int (Int32.ofNat 0), false), (1, .int (Int32.ofNat 1), .retAddr 2, false), (1, .retAddr 1, .int (Int32.ofNat 0), true)], [(1, .retAddr 2, .int (Int32.ofNat 0), false), (1, .int (Int32.ofNat 1), .retAddr 2, false), (1, .retAddr 1, .int (Int32.ofNat 0), true), (1, .int (Int32.ofNat 0), .retAddr 1, false)]),
  ([(1, .retAddr 2, .int (Int32.ofNat 0), false), (1, .int (Int32.ofNat 1), .retAddr 2, false), (1, .retAddr 1, .int (Int32.ofNat 0), false), (1, .int (Int32.ofNat 0), .retAddr 1, true), (0, .retAddr 7, .int (Int32.ofNat 0), true), (1, .retAddr 8, .int (Int32.ofNat 0), true)], [(1, .retAddr 2, .int (Int32.ofNat 0), false), (1, .int (Int32.ofNat 1), .retAddr 2, false), (1, .retAddr 1, .int (Int32.ofNat 0), false), (1, .int (Int32.ofNat 0), .retAddr 1, true), (0, .retAddr 7, .int (Int32.ofNat 0), true), (1, .retAddr 8, .int (Int32.ofNat 0), true)]),
  ([(1, .retAddr 2, .int (Int32.ofNat 0), false), (1, .int (Int32.ofNat 1), .retAddr 2, false), (1, .retAddr 1, .int (Int32.ofNat 0), false), (1, .int (Int32.ofNat 0), .retAddr 1, false), (0, .retAddr 2, .int (Int32.ofNat 0), true)], [(1, .retAddr 2, .int (Int32.ofNat 0), false), (1, .int (Int32.ofNat 1), .retAddr 2, false), (1, .retAddr 1, .int (Int32.ofNat 0), false), (1, .int (Int32.ofNat 0), .retAddr 1, false), (0, .retAddr 2, .int (Int32.ofNat 0), true)]),
  ([(1, .retAddr 2, .int (Int32.ofNat 0), false), (1, .int (Int32.ofNat 1), .retAddr 2, false), (1, .retAddr 1, .int (Int32.ofNat 0), false), (1, .int (Int32.ofNat 0), .retAddr 1, false), (0, .retAddr 2, .int (Int32.ofNat 0), false)], [(1, .retAddr 2, .int (Int32.ofNat 0), false), (1, .int (Int32.ofNat 1), .retAddr 2, false), (1, .retAddr 1, .int (Int32.ofNat 0), false), (1, .int (Int32.ofNat 0), .retAddr 1, false), (0, .retAddr 2, .int (Int32.ofNat 0), false)]),
  ([(1, .retAddr 2, .int (Int32.ofNat 0), false), (1, .int (Int32.ofNat 1), .retAddr 2, false), (1, .retAddr 1, .int (Int32.ofNat 0), false), (1, .int (Int32.ofNat 0), .retAddr 1, true), (0, .retAddr 7, .int (Int32.ofNat 0), false), (1, .int (Int32.ofNat 0), .retAddr 7, true), (1, .retAddr 8, .int (Int32.ofNat 0), true)], [(1, .retAddr 2, .int (Int32.ofNat 0), false), (1, .int (Int32.ofNat 1), .retAddr 2, false), (1, .retAddr 1, .int (Int32.ofNat 0), false), (1, .int (Int32.ofNat 0), .retAddr 1, true), (0, .retAddr 7, .int (Int32.ofNat 0), false), (1, .int (Int32.ofNat 0), .retAddr 7, true), (1, .retAddr 8, .int (Int32.ofNat 0), true)]),
  ([(1, .retAddr 2, .int (Int32.ofNat 0), false), (1, .int (Int32.ofNat 1), .retAddr 2, false), (1, .retAddr 1, .int (Int32.ofNat 0), false), (1, .int (Int32.ofNat 0), .retAddr 1, true), (0, .retAddr 7, .int (Int32.ofNat 0), false), (1, .int (Int32.ofNat 0), .retAddr 7, true), (1, .retAddr 8, .int (Int32.ofNat 0), false)], [(1, .retAddr 2, .int (Int32.ofNat 0), false), (1, .int (Int32.ofNat 1), .retAddr 2, false), (1, .retAddr 1, .int (Int32.ofNat 0), false), (1, .int (Int32.ofNat 0), .retAddr 1, true), (0, .retAddr 7, .int (Int32.ofNat 0), false), (1, .int (Int32.ofNat 0), .retAddr 7, true), (1, .retAddr 8, .int (Int32.ofNat 0), false), (1, .int (Int32.ofNat 4294967295), .retAddr 8, true)]),
  ([(1, .retAddr 2, .int (Int32.ofNat 0), false), (1, .int (Int32.ofNat 1), .retAddr 2, false), (1, .retAddr 1, .int (Int32.ofNat 0), false), (1, .int (Int32.ofNat 0), .retAddr 1, true), (0, .retAddr 7, .int (Int32.ofNat 0), true), (1, .retAddr 8, .int (Int32.ofNat 0), false)], [(1, .retAddr 2, .int (Int32.ofNat 0), false), (1, .int (Int32.ofNat 1), .retAddr 2, false), (1, .retAddr 1, .int (Int32.ofNat 0), false), (1, .int (Int32.ofNat 0), .retAddr 1, true), (0, .retAddr 7, .int (Int32.ofNat 0), true), (1, .retAddr 8, .int (Int32.ofNat 0), false), (1, .int (Int32.ofNat 4294967295), .retAddr 8, true)]),
  ([(1, .retAddr 2, .int (Int32.ofNat 0), false), (1, .int (Int32.ofNat 1), .retAddr 2, true), (1, .int (Int32.ofNat 0), .retAddr 1, false), (1, .retAddr 1, .int (Int32.ofNat 0), true)], [(1, .retAddr 2, .int (Int32.ofNat 0), false), (1, .int (Int32.ofNat 1), .retAddr 2, true), (1, .int (Int32.ofNat 0), .retAddr 1, false), (1, .retAddr 1, .int (Int32.ofNat 0), true)]),
  ([(1, .retAddr 2, .int (Int32.ofNat 0), false), (1, .int (Int32.ofNat 1), .retAddr 2, true), (1, .int (Int32.ofNat 0), .retAddr 1, false), (1, .retAddr 1, .int (Int32.ofNat 0), false)], [(1, .retAddr 2, .int (Int32.ofNat 0), false), (1, .int (Int32.ofNat 1), .retAddr 2, true), (1, .int (Int32.ofNat 0), .retAddr 1, false), (1, .retAddr 1, .int (Int32.ofNat 0), false)]),
  ([(1, .retAddr 2, .int (Int32.ofNat 0), false), (1, .int (Int32.ofNat 1), .retAddr 2, true), (1, .int (Int32.ofNat 0), .retAddr 1, true), (1, .retAddr 8, .int (Int32.ofNat 0), false)], [(1, .retAddr 2, .int (Int32.ofNat 0), false), (1, .int (Int32.ofNat 1), .retAddr 2, true), (1, .int (Int32.ofNat 0), .retAddr 1, true), (1, .retAddr 8, .int (Int32.ofNat 0), false), (1, .int (Int32.ofNat 4294967295), .retAddr 8, true)]),
  ([(1, .retAddr 2, .int (Int32.ofNat 0), true), (1, .int (Int32.ofNat 0), .retAddr 1, false), (1, .retAddr 1, .int (Int32.ofNat 0), true)], [(1, .retAddr 2, .int (Int32.ofNat 0), true), (1, .int (Int32.ofNat 0), .retAddr 1, false), (1, .retAddr 1, .int (Int32.ofNat 0), true)]),
  ([(1, .retAddr 2, .int (Int32.ofNat 0), true), (1, .int (Int32.ofNat 0), .retAddr 1, false), (1, .retAddr 1, .int (Int32.ofNat 0), false)], [(1, .retAddr 2, .int (Int32.ofNat 0), true), (1, .int (Int32.ofNat 0), .retAddr 1, false), (1, .retAddr 1, .int (Int32.ofNat 0), false)]),
  ([(1, .retAddr 2, .int (Int32.ofNat 0), true), (1, .int (Int32.ofNat 0), .retAddr 1, true), (1, .retAddr 8, .int (Int32.ofNat 0), false)], [(1, .retAddr 2, .int (Int32.ofNat 0), true), (1, .int (Int32.ofNat 0), .retAddr 1, true), (1, .retAddr 8, .int (Int32.ofNat 0), false), (1, .int (Int32.ofNat 4294967295), .retAddr 8, true)])]
abbrev xg_18_rs : xr_F := [(1, .retAddr 2, .int (Int32.ofNat 0), false), (1, .int (Int32.ofNat 1), .retAddr 2, false), (1, .retAddr 1, .int (Int32.ofNat 0), false), (1, .int (Int32.ofNat 0), .retAddr 1, true), (0, .retAddr 7, .int (Int32.ofNat 0), false), (1, .int (Int32.ofNat 0), .retAddr 7, false)]
set_option maxRecDepth 100000 in
theorem xg_18_all : xg_18_ps.all (fun q => xt_clo q.1 q.2 && xt_go ((5, .retAddr 0, .int 63, .int (Int32.ofNat 18)) :: xg_18_df) q.2 xr_no xt_v7) = true := by decide +kernel
theorem xt_rem {x : Int32} (h : 0 ≤ x.toInt) : 0 ≤ (x - x / 10 * 10).toInt := by
  have h1 := Int32.toInt_lt x
  have h10 : (10 : Int32).toInt = 10 := rfl
  have hd : (x / 10).toInt = x.toInt / 10 := by
    rw [Int32.toInt_div, h10, Int.tdiv_eq_ediv_of_nonneg h]
    exact Int.bmod_eq_of_le (by omega) (by omega)
  have hm : (x / 10 * 10).toInt = x.toInt / 10 * 10 := by
    rw [Int32.toInt_mul, hd, h10]
    exact Int.bmod_eq_of_le (by omega) (by omega)
  rw [Int32.toInt_sub, hm]
  rw [Int.bmod_eq_of_le (by omega) (by omega)]
  omega
theorem xg_18 {p : Program} {l : Launch} {e : Env} {s : State} {m : MethodId} {below : List Frame} {meth : Method} {c : Code} {b : Nat} {xs : Nat → Int32} {D : va_G} {cy : Nat → ClassId} {sg : Nat → Nat} (h : xt_Ctx p l s m meth c b 7 xs D cy sg) (hk : xs 0 &&& 63 = Int32.ofNat 18) : xt_Goal p l e s m below meth c b := by
  refine xt_call h 18 hk rfl xt_sc7 xg_18_df (by decide +kernel) xg_18_ps [xg_18_rs] 60 (by decide +kernel) xg_18_all (fun q hq hT => ?_)
  cases (List.mem_singleton.mp hq)
  have a1 := (xt_T1 (hT (1, .retAddr 1, .int (Int32.ofNat 0), false) (by simp [xg_18_rs]))).2 rfl
  have a2 := (xt_T1 (hT (1, .int (Int32.ofNat 0), .retAddr 7, false) (by simp [xg_18_rs]))).2 rfl
  have a3 := (xt_T0 (hT (0, .retAddr 7, .int (Int32.ofNat 0), false) (by simp [xg_18_rs]))).2 rfl
  have e1 : xt_iv (xt_ext xg_18_df xs) (.retAddr 1) = xs 1 := rfl
  have e7 : xt_iv (xt_ext xg_18_df xs) (.retAddr 7) = xs 1 - xs 1 / 10 * 10 := rfl
  rw [e1] at a1
  rw [e7] at a2 a3
  have z : (xt_iv (xt_ext xg_18_df xs) (.int (Int32.ofNat 0))).toInt = 0 := rfl
  rw [z] at a1 a2 a3
  have := xt_rem a1
  omega
set_option maxRecDepth 100000 in
theorem xg_def_n : ([35, 36, 37, 38, 39, 40, 41, 42, 43, 44, 45, 46, 47, 48, 49, 50, 51, 52, 53, 54, 55, 56, 57, 58, 59, 60, 61, 62, 63] : List Nat).all (fun k => xt_go ((5, .retAddr 0, .int 63, .int (Int32.ofNat k)) :: []) [] xr_no xt_v7) = true := by decide +kernel
theorem xg_def {p : Program} {l : Launch} {e : Env} {s : State} {m : MethodId} {below : List Frame} {meth : Method} {c : Code} {b : Nat} {xs : Nat → Int32} {D : va_G} {cy : Nat → ClassId} {sg : Nat → Nat} (h : xt_Ctx p l s m meth c b 7 xs D cy sg) {k : Nat} (hk : xs 0 &&& 63 = Int32.ofNat k) (h1 : k < 64) (h2 : 35 ≤ k) : xt_Goal p l e s m below meth c b :=
  xt_one h k hk rfl xt_sc7 [] (q := []) (fun d hd => by cases hd) rfl (List.all_eq_true.mp xg_def_n k ((by decide +kernel : ∀ n, n < 64 → 35 ≤ n → n ∈ ([35, 36, 37, 38, 39, 40, 41, 42, 43, 44, 45, 46, 47, 48, 49, 50, 51, 52, 53, 54, 55, 56, 57, 58, 59, 60, 61, 62, 63] : List Nat)) k h1 h2))
set_option maxRecDepth 100000 in
theorem xg_sh_n : ([0, 1, 2, 3, 4, 5, 6] : List Nat).all (fun k => xt_go [] [] xr_no (xt_v7.take k)) = true := by decide +kernel
theorem xg_sh {p : Program} {l : Launch} {e : Env} {s : State} {m : MethodId} {below : List Frame} {meth : Method} {c : Code} {b : Nat} {xs : Nat → Int32} {D : va_G} {cy : Nat → ClassId} {sg : Nat → Nat} {L : Nat} (h : xt_Ctx p l s m meth c b L xs D cy sg) (hL : L < 7) : xt_Goal p l e s m below meth c b := by
  refine xt_W h (ep := xs) (df := []) (fx := []) (sm := xr_no) (scr := xt_v7.take L) (fun d hd => by cases hd) (fun d hd => by cases hd) (fun d u as w b o ho => by cases ho) ?_ (fun j v hv => ?_) (List.all_eq_true.mp xg_sh_n L ((by decide +kernel : ∀ n, n < 7 → n ∈ ([0, 1, 2, 3, 4, 5, 6] : List Nat)) L hL))
  · rw [List.length_take]
    show min L 7 = L
    omega
  · have hv' : xt_v7[j]? = some v := by
      rw [List.getElem?_take] at hv
      split at hv
      · exact hv
      · cases hv
    obtain ⟨h3, h4⟩ := xt_sc7 (xs := xs) j v hv'
    rw [xt_iv_ok (xt_lt_I h3), h4]
