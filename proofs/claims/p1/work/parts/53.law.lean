/-! law: a length that is refused; the empty text is xg_2_0 in 35.law0 -/
def xg_2_ps : List (xr_F × xr_F) := [([(1, .retAddr 1, .int (Int32.ofNat 0), true)], [(1, .retAddr 1, .int (Int32.ofNat 0), true)]),
  ([(1, .retAddr 1, .int (Int32.ofNat 0), false), (1, .int (Int32.ofNat 0), .retAddr 1, true)], [(1, .retAddr 1, .int (Int32.ofNat 0), false), (1, .int (Int32.ofNat 0), .retAddr 1, true)])]
abbrev xg_2_in : xr_F := [(1, .retAddr 1, .int (Int32.ofNat 0), false), (1, .int (Int32.ofNat 0), .retAddr 1, false)]
set_option maxRecDepth 100000 in
theorem xg_2_all : xg_2_ps.all (fun q => xt_clo q.1 q.2 && xt_go ((5, .retAddr 0, .int 63, .int (Int32.ofNat 2)) :: []) q.2 xr_no xt_v7) = true := by decide +kernel
theorem xg_2 {p : Program} {l : Launch} {e : Env} {s : State} {m : MethodId} {below : List Frame} {meth : Method} {c : Code} {b : Nat} {xs : Nat → Int32} {D : va_G} {cy : Nat → ClassId} {sg : Nat → Nat} (h : xt_Ctx p l s m meth c b 7 xs D cy sg) (hk : xs 0 &&& 63 = Int32.ofNat 2) : xt_Goal p l e s m below meth c b := by
  refine xt_call h 2 hk rfl xt_sc7 [] rfl xg_2_ps [xg_2_in] 60 (by decide +kernel) xg_2_all (fun q hq hT => ?_)
  cases (List.mem_singleton.mp hq)
  have a1 := (xt_T1 (hT (1, .retAddr 1, .int (Int32.ofNat 0), false) (by simp [xg_2_in]))).2 rfl
  have b1 := (xt_T1 (hT (1, .int (Int32.ofNat 0), .retAddr 1, false) (by simp [xg_2_in]))).2 rfl
  obtain ⟨n1, hn1, ln1, en1⟩ := xt_num (x := xs 1) (lo := 0) (hi := 0) (by decide) (by decide) a1 b1
  have hz : n1 = 0 := by omega
  subst hz
  exact xg_2_0 h hk en1
