/-! span: its contracts, the call -/
def xg_29_ps : List (xr_F × xr_F) := [([(1, .retAddr 2, .int (Int32.ofNat 1), true)], [(1, .retAddr 2, .int (Int32.ofNat 1), true)]),
  ([(1, .retAddr 2, .int (Int32.ofNat 1), false), (1, .int (Int32.ofNat 20), .retAddr 2, true)], [(1, .retAddr 2, .int (Int32.ofNat 1), false), (1, .int (Int32.ofNat 20), .retAddr 2, true)]),
  ([(1, .retAddr 2, .int (Int32.ofNat 1), false), (1, .int (Int32.ofNat 20), .retAddr 2, false), (1, .retAddr 3, .int (Int32.ofNat 0), true)], [(1, .retAddr 2, .int (Int32.ofNat 1), false), (1, .int (Int32.ofNat 20), .retAddr 2, false), (1, .retAddr 3, .int (Int32.ofNat 0), true)]),
  ([(1, .retAddr 2, .int (Int32.ofNat 1), false), (1, .int (Int32.ofNat 20), .retAddr 2, false), (1, .retAddr 3, .int (Int32.ofNat 0), false), (1, .int (Int32.ofNat 16), .retAddr 3, true)], [(1, .retAddr 2, .int (Int32.ofNat 1), false), (1, .int (Int32.ofNat 20), .retAddr 2, false), (1, .retAddr 3, .int (Int32.ofNat 0), false), (1, .int (Int32.ofNat 16), .retAddr 3, true)]),
  ([(1, .retAddr 2, .int (Int32.ofNat 1), false), (1, .int (Int32.ofNat 20), .retAddr 2, false), (1, .retAddr 3, .int (Int32.ofNat 0), false), (1, .int (Int32.ofNat 16), .retAddr 3, false), (1, .retAddr 4, .int (Int32.ofNat 1), true)], [(1, .retAddr 2, .int (Int32.ofNat 1), false), (1, .int (Int32.ofNat 20), .retAddr 2, false), (1, .retAddr 3, .int (Int32.ofNat 0), false), (1, .int (Int32.ofNat 16), .retAddr 3, false), (1, .retAddr 4, .int (Int32.ofNat 1), true)]),
  ([(1, .retAddr 2, .int (Int32.ofNat 1), false), (1, .int (Int32.ofNat 20), .retAddr 2, false), (1, .retAddr 3, .int (Int32.ofNat 0), false), (1, .int (Int32.ofNat 16), .retAddr 3, false), (1, .retAddr 4, .int (Int32.ofNat 1), false), (1, .int (Int32.ofNat 20), .retAddr 4, true)], [(1, .retAddr 2, .int (Int32.ofNat 1), false), (1, .int (Int32.ofNat 20), .retAddr 2, false), (1, .retAddr 3, .int (Int32.ofNat 0), false), (1, .int (Int32.ofNat 16), .retAddr 3, false), (1, .retAddr 4, .int (Int32.ofNat 1), false), (1, .int (Int32.ofNat 20), .retAddr 4, true)]),
  ([(1, .retAddr 2, .int (Int32.ofNat 1), false), (1, .int (Int32.ofNat 20), .retAddr 2, false), (1, .retAddr 3, .int (Int32.ofNat 0), false), (1, .int (Int32.ofNat 16), .retAddr 3, false), (1, .retAddr 4, .int (Int32.ofNat 1), false), (1, .int (Int32.ofNat 20), .retAddr 4, false), (1, .retAddr 5, .int (Int32.ofNat 0), true)], [(1, .retAddr 2, .int (Int32.ofNat 1), false), (1, .int (Int32.ofNat 20), .retAddr 2, false), (1, .retAddr 3, .int (Int32.ofNat 0), false), (1, .int (Int32.ofNat 16), .retAddr 3, false), (1, .retAddr 4, .int (Int32.ofNat 1), false), (1, .int (Int32.ofNat 20), .retAddr 4, false), (1, .retAddr 5, .int (Int32.ofNat 0), true)]),
  ([(1, .retAddr 2, .int (Int32.ofNat 1), false), (1, .int (Int32.ofNat 20), .retAddr 2, false), (1, .retAddr 3, .int (Int32.ofNat 0), false), (1, .int (Int32.ofNat 16), .retAddr 3, false), (1, .retAddr 4, .int (Int32.ofNat 1), false), (1, .int (Int32.ofNat 20), .retAddr 4, false), (1, .retAddr 5, .int (Int32.ofNat 0), false), (1, .int (Int32.ofNat 2), .retAddr 5, true)], [(1, .retAddr 2, .int (Int32.ofNat 1), false), (1, .int (Int32.ofNat 20), .retAddr 2, false), (1, .retAddr 3, .int (Int32.ofNat 0), false), (1, .int (Int32.ofNat 16), .retAddr 3, false), (1, .retAddr 4, .int (Int32.ofNat 1), false), (1, .int (Int32.ofNat 20), .retAddr 4, false), (1, .retAddr 5, .int (Int32.ofNat 0), false), (1, .int (Int32.ofNat 2), .retAddr 5, true)])]
set_option maxRecDepth 100000 in
theorem xg_29_all : xg_29_ps.all (fun q => xt_clo q.1 q.2 && xt_go ((5, .retAddr 0, .int 63, .int (Int32.ofNat 29)) :: []) q.2 xr_no xt_v7) = true := by decide +kernel
section XQC
variable {l : Launch} {xs : Nat → Int32} {ba : Nat} {D : va_G} {cy : Nat → ClassId} {sg : Nat → Nat}
theorem xq_cc (hst : l.stackTraces = false) (hmt : ∀ M ∈ xr_mt, xr_Mok xr_mt M = true) {m : Nat} (hm1 : 1 ≤ m) (hm2 : m < 21) (hx2 : xs 2 = Int32.ofNat m) (hin : ∀ d ∈ xg_29_in, xt_T xs d) {y : Nat} (ly : 1 ≤ y) (hy : y < 20 + 1) : xr_Con l D (xq_ep xs m) ba sg cy xr_mt (18 + 1) 33 (xq_as 0 y) xq_WA true (.inl (some (.int (Int32.ofNat 0))), xq_WB y, true, 0, 0) := by
  have hM : xr_mt[33]? = some xm_33 := by rfl
  have hX : ∀ j, j < 3 → xq_X xm_33 18 35 (xq_r 0 y) (xq_WB y) j = true := fun j hj => List.all_eq_true.mp (xq_cX y ly hy) j ((by decide : ∀ j, j < 3 → j ∈ ([0, 1, 2] : List Nat)) j hj)
  have hv := xq_vA y ly hy
  simp only [Bool.and_eq_true] at hv
  exact xq_con (M := xm_33) (u := 33) (d := 18) (nE := 67) (nI := 33) (k := 35) (pc0 := 61) (r := xq_r 0 y) (as := xq_as 0 y) (WA := xq_WA) (WH := xq_WB y) hst hmt hm1 hm2 hx2 hin hM rfl rfl (Nat.le_of_ble_eq_true rfl) hv.2.2.1 hv.1 (xq_cE y ly hy) (xq_cI y ly hy) hX
theorem xq_rc (hst : l.stackTraces = false) (hmt : ∀ M ∈ xr_mt, xr_Mok xr_mt M = true) {m : Nat} (hm1 : 1 ≤ m) (hm2 : m < 21) (hx2 : xs 2 = Int32.ofNat m) (hin : ∀ d ∈ xg_29_in, xt_T xs d) {y : Nat} (ly : 1 ≤ y) (hy : y < 20 + 1) : xr_Con l D (xq_ep xs m) ba sg cy xr_mt (19 + 1) 185 (xq_as 53 y) (xq_WB y) true (.inl (some (.int (Int32.ofNat 0))), xq_WD y, true, 0, 0) := by
  have hM : xr_mt[185]? = some xm_185 := by rfl
  have hX : ∀ j, j < 3 → xq_X xm_185 19 41 (xq_r 53 y) (xq_WD y) j = true := fun j hj => List.all_eq_true.mp (xq_rX y ly hy) j ((by decide : ∀ j, j < 3 → j ∈ ([0, 1, 2] : List Nat)) j hj)
  have hv := xq_vA y ly hy
  simp only [Bool.and_eq_true] at hv
  exact xq_con (M := xm_185) (u := 185) (d := 19) (nE := 66) (nI := 30) (k := 41) (pc0 := 74) (r := xq_r 53 y) (as := xq_as 53 y) (WA := xq_WB y) (WH := xq_WD y) hst hmt hm1 hm2 hx2 hin hM rfl rfl (Nat.le_of_ble_eq_true rfl) hv.2.2.2 hv.2.1 (xq_rE y ly hy) (xq_rJ y ly hy) hX
end XQC
theorem xg_29 {p : Program} {l : Launch} {e : Env} {s : State} {m : MethodId} {below : List Frame} {meth : Method} {c : Code} {b : Nat} {xs : Nat → Int32} {D : va_G} {cy : Nat → ClassId} {sg : Nat → Nat} (h : xt_Ctx p l s m meth c b 7 xs D cy sg) (hk : xs 0 &&& 63 = Int32.ofNat 29) : xt_Goal p l e s m below meth c b := by
  refine xt_call h 29 hk rfl xt_sc7 [] rfl xg_29_ps [xg_29_in] 60 (by decide +kernel) xg_29_all (fun q hq hT => ?_)
  cases (List.mem_singleton.mp hq)
  have a2 := (xt_T1 (hT (1, .retAddr 2, .int (Int32.ofNat 1), false) (by simp [xg_29_in]))).2 rfl
  have b2 := (xt_T1 (hT (1, .int (Int32.ofNat 20), .retAddr 2, false) (by simp [xg_29_in]))).2 rfl
  have a4 := (xt_T1 (hT (1, .retAddr 4, .int (Int32.ofNat 1), false) (by simp [xg_29_in]))).2 rfl
  have b4 := (xt_T1 (hT (1, .int (Int32.ofNat 20), .retAddr 4, false) (by simp [xg_29_in]))).2 rfl
  obtain ⟨n, hn, ln, en⟩ := xt_num (x := xs 2) (lo := 1) (hi := 20) (by decide) (by decide) a2 b2
  obtain ⟨y, hy, ly, ey⟩ := xt_num (x := xs 4) (lo := 1) (hi := 20) (by decide) (by decide) a4 b4
  have hst := h.1
  have hmt := h.2.2.2.2.2.2.2.1
  have old : ∀ z, z < 7 → xq_ep xs n z = xs z := fun z hz => match z, hz with
    | 0, _ => rfl
    | 1, _ => rfl
    | 2, _ => rfl
    | 3, _ => rfl
    | 4, _ => rfl
    | 5, _ => rfl
    | 6, _ => rfl
  refine xt_W h (ep := xq_ep xs n) (df := (5, .retAddr 0, .int 63, .int (Int32.ofNat 29)) :: []) (fx := []) (sm := xq_sm y) (scr := xt_v7.set 4 (.int (Int32.ofNat y))) ?_ (fun d hd => by cases hd) ?_ rfl (fun j v hv => ?_) (xq_law y ly hy)
  · intro d hd
    rcases List.mem_cons.mp hd with rfl | hd
    · refine ⟨_, _, rfl, rfl, ?_⟩
      show Value.int (Int32.ofNat 29) = .int (xs 0 &&& 63)
      rw [hk]
    · cases hd
  · exact xz_sm1_ok (xq_cc hst hmt ln hn en hT ly hy) (xz_sm1_ok (xq_rc hst hmt ln hn en hT ly hy) (fun d u as w b o ho => by cases ho))
  · obtain ⟨h3, h4⟩ := xt_sc_set xt_sc7 ey j v hv
    rw [xt_iv_ok (xt_lt_I h3), xt_lt_iv h3 old, h4]
