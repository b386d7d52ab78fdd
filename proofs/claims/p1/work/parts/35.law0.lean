/-! law(0): an empty text is read -/
theorem xw_mt : ∀ M, xr_mt[208]? = some M → M.1 = yX8_says ∧ M.2.1 = cX8_says ∧ M.2.2.1 = 3 ∧ M.2.2.2.1 = some .boolean ∧ M.2.2.2.2.1 = [] := by
  intro M h
  have e : xr_mt[208]? = some xm_208 := rfl
  cases Option.some.inj (e.symm.trans h)
  exact ⟨rfl, rfl, rfl, rfl, rfl⟩
set_option maxRecDepth 100000 in
theorem xg_2_run : xt_go ((5, .retAddr 0, .int 63, .int (Int32.ofNat 2)) :: []) [] xw_sm (xt_v7.set 1 (.int (Int32.ofNat 0))) = true := by decide +kernel
theorem xg_2_0 {p : Program} {l : Launch} {e : Env} {s : State} {m : MethodId} {below : List Frame} {meth : Method} {c : Code} {b : Nat} {xs : Nat → Int32} {D : va_G} {cy : Nat → ClassId} {sg : Nat → Nat} (h : xt_Ctx p l s m meth c b 7 xs D cy sg) (hk : xs 0 &&& 63 = Int32.ofNat 2) (h0 : xs 1 = Int32.ofNat 0) : xt_Goal p l e s m below meth c b := by
  refine xt_W h (ep := xs) ?_ (fun d hd => by cases hd) (xw_sm_ok xw_mt) rfl (fun j v hv => ?_) xg_2_run
  · intro d hd
    rcases List.mem_cons.mp hd with rfl | hd
    · refine ⟨_, _, rfl, rfl, ?_⟩
      show Value.int (Int32.ofNat 2) = .int (xs 0 &&& 63)
      rw [hk]
    · cases hd
  · obtain ⟨h3, h4⟩ := xt_sc_set (j := 1) (xt_sc7 (xs := xs)) h0 j v hv
    rw [xt_iv_ok (xt_lt_I h3), h4]
