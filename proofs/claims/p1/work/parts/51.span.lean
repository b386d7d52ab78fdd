/-! calls by their contracts -/
def xz_sm1 (d0 u0 : Nat) (as0 : List Value) (w0 : List xr_C) (o0 : xr_Out) (sm : Nat → Nat → List Value → List xr_C → Bool → Option xr_Out) : Nat → Nat → List Value → List xr_C → Bool → Option xr_Out := fun d u as w b => bif Nat.beq d d0 && (Nat.beq u u0 && (xr_qs as as0 && (b && xz_ew [] (xz_w w) w0))) then some o0 else sm d u as w b
theorem xz_sm1_ok {l : Launch} {D : va_G} {ep : Nat → Int32} {ba : Nat} {sg : Nat → Nat} {cy : Nat → ClassId} {mt : List xr_M} {d0 u0 : Nat} {as0 : List Value} {w0 : List xr_C} {o0 : xr_Out} {sm : Nat → Nat → List Value → List xr_C → Bool → Option xr_Out} (h0 : xr_Con l D ep ba sg cy mt d0 u0 as0 w0 true o0) (hsm : ∀ d u as w b o, sm d u as w b = some o → xr_Con l D ep ba sg cy mt d u as w b o) : ∀ d u as w b o, xz_sm1 d0 u0 as0 w0 o0 sm d u as w b = some o → xr_Con l D ep ba sg cy mt d u as w b o := by
  intro d u as w b o h
  unfold xz_sm1 at h
  cases hc : (Nat.beq d d0 && (Nat.beq u u0 && (xr_qs as as0 && (b && xz_ew [] (xz_w w) w0)))) with
  | false => rw [hc] at h; exact hsm d u as w b o h
  | true =>
    rw [hc] at h
    simp only [cond_true, Option.some.injEq] at h
    simp only [Bool.and_eq_true] at hc
    obtain ⟨h1, h2, h3, h4, h5⟩ := hc
    have h1 := Nat.eq_of_beq_eq_true h1
    have h2 := Nat.eq_of_beq_eq_true h2
    have h3 := xr_qs_ok h3
    subst h1 h2 h3 h4 h
    obtain ⟨e1, e2⟩ := xz_eq (ba := ba) (sg := sg) (cy := cy) (ep := ep) (ep' := ep) (rn := []) (fun q hq => by cases hq) h5
    exact xs_con_w e1 e2 h0
set_option maxRecDepth 100000 in
theorem xq_cE_0 : (([1, 2, 3, 4, 5, 6, 7] : List Nat).all (fun y => xq_E xm_33 18 67 61 (xq_r 0 y) (xq_as 0 y) xq_WA (xq_WB y))) = true := by decide +kernel
set_option maxRecDepth 100000 in
theorem xq_cE_1 : (([8, 9, 10, 11, 12, 13, 14] : List Nat).all (fun y => xq_E xm_33 18 67 61 (xq_r 0 y) (xq_as 0 y) xq_WA (xq_WB y))) = true := by decide +kernel
set_option maxRecDepth 100000 in
theorem xq_cE_2 : (([15, 16, 17, 18, 19, 20] : List Nat).all (fun y => xq_E xm_33 18 67 61 (xq_r 0 y) (xq_as 0 y) xq_WA (xq_WB y))) = true := by decide +kernel
theorem xq_cE (y : Nat) (h1 : 1 ≤ y) (h2 : y < 21) : xq_E xm_33 18 67 61 (xq_r 0 y) (xq_as 0 y) xq_WA (xq_WB y) = true := by
  have hm : y ∈ ([1, 2, 3, 4, 5, 6, 7] : List Nat) ∨ y ∈ ([8, 9, 10, 11, 12, 13, 14] : List Nat) ∨ y ∈ ([15, 16, 17, 18, 19, 20] : List Nat) := (by decide +kernel : ∀ y, y < 21 → 1 ≤ y → y ∈ ([1, 2, 3, 4, 5, 6, 7] : List Nat) ∨ y ∈ ([8, 9, 10, 11, 12, 13, 14] : List Nat) ∨ y ∈ ([15, 16, 17, 18, 19, 20] : List Nat)) y h2 h1
  rcases hm with hm | hm | hm
  · exact List.all_eq_true.mp xq_cE_0 y hm
  · exact List.all_eq_true.mp xq_cE_1 y hm
  · exact List.all_eq_true.mp xq_cE_2 y hm
set_option maxRecDepth 100000 in
theorem xq_cI_0 : (([1, 2, 3, 4, 5, 6, 7, 8, 9, 10] : List Nat).all (fun y => xq_I xm_33 18 33 61 35 (xq_r 0 y) (xq_WB y))) = true := by decide +kernel
set_option maxRecDepth 100000 in
theorem xq_cI_1 : (([11, 12, 13, 14, 15, 16, 17, 18, 19, 20] : List Nat).all (fun y => xq_I xm_33 18 33 61 35 (xq_r 0 y) (xq_WB y))) = true := by decide +kernel
theorem xq_cI (y : Nat) (h1 : 1 ≤ y) (h2 : y < 21) : xq_I xm_33 18 33 61 35 (xq_r 0 y) (xq_WB y) = true := by
  have hm : y ∈ ([1, 2, 3, 4, 5, 6, 7, 8, 9, 10] : List Nat) ∨ y ∈ ([11, 12, 13, 14, 15, 16, 17, 18, 19, 20] : List Nat) := (by decide +kernel : ∀ y, y < 21 → 1 ≤ y → y ∈ ([1, 2, 3, 4, 5, 6, 7, 8, 9, 10] : List Nat) ∨ y ∈ ([11, 12, 13, 14, 15, 16, 17, 18, 19, 20] : List Nat)) y h2 h1
  rcases hm with hm | hm
  · exact List.all_eq_true.mp xq_cI_0 y hm
  · exact List.all_eq_true.mp xq_cI_1 y hm
set_option maxRecDepth 100000 in
theorem xq_cX_0 : (([1, 2, 3, 4, 5, 6, 7, 8, 9, 10] : List Nat).all (fun y => (([0, 1, 2] : List Nat).all (fun j => xq_X xm_33 18 35 (xq_r 0 y) (xq_WB y) j)))) = true := by decide +kernel
set_option maxRecDepth 100000 in
theorem xq_cX_1 : (([11, 12, 13, 14, 15, 16, 17, 18, 19, 20] : List Nat).all (fun y => (([0, 1, 2] : List Nat).all (fun j => xq_X xm_33 18 35 (xq_r 0 y) (xq_WB y) j)))) = true := by decide +kernel
theorem xq_cX (y : Nat) (h1 : 1 ≤ y) (h2 : y < 21) : (([0, 1, 2] : List Nat).all (fun j => xq_X xm_33 18 35 (xq_r 0 y) (xq_WB y) j)) = true := by
  have hm : y ∈ ([1, 2, 3, 4, 5, 6, 7, 8, 9, 10] : List Nat) ∨ y ∈ ([11, 12, 13, 14, 15, 16, 17, 18, 19, 20] : List Nat) := (by decide +kernel : ∀ y, y < 21 → 1 ≤ y → y ∈ ([1, 2, 3, 4, 5, 6, 7, 8, 9, 10] : List Nat) ∨ y ∈ ([11, 12, 13, 14, 15, 16, 17, 18, 19, 20] : List Nat)) y h2 h1
  rcases hm with hm | hm
  · exact List.all_eq_true.mp xq_cX_0 y hm
  · exact List.all_eq_true.mp xq_cX_1 y hm
set_option maxRecDepth 100000 in
theorem xq_rE_0 : (([1, 2, 3, 4] : List Nat).all (fun y => xq_E xm_185 19 66 74 (xq_r 53 y) (xq_as 53 y) (xq_WB y) (xq_WD y))) = true := by decide +kernel
set_option maxRecDepth 100000 in
theorem xq_rE_1 : (([5, 6, 7, 8] : List Nat).all (fun y => xq_E xm_185 19 66 74 (xq_r 53 y) (xq_as 53 y) (xq_WB y) (xq_WD y))) = true := by decide +kernel
set_option maxRecDepth 100000 in
theorem xq_rE_2 : (([9, 10, 11, 12] : List Nat).all (fun y => xq_E xm_185 19 66 74 (xq_r 53 y) (xq_as 53 y) (xq_WB y) (xq_WD y))) = true := by decide +kernel
set_option maxRecDepth 100000 in
theorem xq_rE_3 : (([13, 14, 15, 16] : List Nat).all (fun y => xq_E xm_185 19 66 74 (xq_r 53 y) (xq_as 53 y) (xq_WB y) (xq_WD y))) = true := by decide +kernel
set_option maxRecDepth 100000 in
theorem xq_rE_4 : (([17, 18, 19, 20] : List Nat).all (fun y => xq_E xm_185 19 66 74 (xq_r 53 y) (xq_as 53 y) (xq_WB y) (xq_WD y))) = true := by decide +kernel
theorem xq_rE (y : Nat) (h1 : 1 ≤ y) (h2 : y < 21) : xq_E xm_185 19 66 74 (xq_r 53 y) (xq_as 53 y) (xq_WB y) (xq_WD y) = true := by
  have hm : y ∈ ([1, 2, 3, 4] : List Nat) ∨ y ∈ ([5, 6, 7, 8] : List Nat) ∨ y ∈ ([9, 10, 11, 12] : List Nat) ∨ y ∈ ([13, 14, 15, 16] : List Nat) ∨ y ∈ ([17, 18, 19, 20] : List Nat) := (by decide +kernel : ∀ y, y < 21 → 1 ≤ y → y ∈ ([1, 2, 3, 4] : List Nat) ∨ y ∈ ([5, 6, 7, 8] : List Nat) ∨ y ∈ ([9, 10, 11, 12] : List Nat) ∨ y ∈ ([13, 14, 15, 16] : List Nat) ∨ y ∈ ([17, 18, 19, 20] : List Nat)) y h2 h1
  rcases hm with hm | hm | hm | hm | hm
  · exact List.all_eq_true.mp xq_rE_0 y hm
  · exact List.all_eq_true.mp xq_rE_1 y hm
  · exact List.all_eq_true.mp xq_rE_2 y hm
  · exact List.all_eq_true.mp xq_rE_3 y hm
  · exact List.all_eq_true.mp xq_rE_4 y hm
set_option maxRecDepth 100000 in
theorem xq_rJ_0 : (([1, 2, 3, 4] : List Nat).all (fun y => xq_I xm_185 19 30 74 41 (xq_r 53 y) (xq_WD y))) = true := by decide +kernel
set_option maxRecDepth 100000 in
theorem xq_rJ_1 : (([5, 6, 7, 8] : List Nat).all (fun y => xq_I xm_185 19 30 74 41 (xq_r 53 y) (xq_WD y))) = true := by decide +kernel
set_option maxRecDepth 100000 in
theorem xq_rJ_2 : (([9, 10, 11, 12] : List Nat).all (fun y => xq_I xm_185 19 30 74 41 (xq_r 53 y) (xq_WD y))) = true := by decide +kernel
set_option maxRecDepth 100000 in
theorem xq_rJ_3 : (([13, 14, 15, 16] : List Nat).all (fun y => xq_I xm_185 19 30 74 41 (xq_r 53 y) (xq_WD y))) = true := by decide +kernel
set_option maxRecDepth 100000 in
theorem xq_rJ_4 : (([17, 18, 19, 20] : List Nat).all (fun y => xq_I xm_185 19 30 74 41 (xq_r 53 y) (xq_WD y))) = true := by decide +kernel
theorem xq_rJ (y : Nat) (h1 : 1 ≤ y) (h2 : y < 21) : xq_I xm_185 19 30 74 41 (xq_r 53 y) (xq_WD y) = true := by
  have hm : y ∈ ([1, 2, 3, 4] : List Nat) ∨ y ∈ ([5, 6, 7, 8] : List Nat) ∨ y ∈ ([9, 10, 11, 12] : List Nat) ∨ y ∈ ([13, 14, 15, 16] : List Nat) ∨ y ∈ ([17, 18, 19, 20] : List Nat) := (by decide +kernel : ∀ y, y < 21 → 1 ≤ y → y ∈ ([1, 2, 3, 4] : List Nat) ∨ y ∈ ([5, 6, 7, 8] : List Nat) ∨ y ∈ ([9, 10, 11, 12] : List Nat) ∨ y ∈ ([13, 14, 15, 16] : List Nat) ∨ y ∈ ([17, 18, 19, 20] : List Nat)) y h2 h1
  rcases hm with hm | hm | hm | hm | hm
  · exact List.all_eq_true.mp xq_rJ_0 y hm
  · exact List.all_eq_true.mp xq_rJ_1 y hm
  · exact List.all_eq_true.mp xq_rJ_2 y hm
  · exact List.all_eq_true.mp xq_rJ_3 y hm
  · exact List.all_eq_true.mp xq_rJ_4 y hm
set_option maxRecDepth 100000 in
theorem xq_rX_0 : (([1, 2, 3, 4, 5, 6, 7, 8, 9, 10] : List Nat).all (fun y => (([0, 1, 2] : List Nat).all (fun j => xq_X xm_185 19 41 (xq_r 53 y) (xq_WD y) j)))) = true := by decide +kernel
set_option maxRecDepth 100000 in
theorem xq_rX_1 : (([11, 12, 13, 14, 15, 16, 17, 18, 19, 20] : List Nat).all (fun y => (([0, 1, 2] : List Nat).all (fun j => xq_X xm_185 19 41 (xq_r 53 y) (xq_WD y) j)))) = true := by decide +kernel
theorem xq_rX (y : Nat) (h1 : 1 ≤ y) (h2 : y < 21) : (([0, 1, 2] : List Nat).all (fun j => xq_X xm_185 19 41 (xq_r 53 y) (xq_WD y) j)) = true := by
  have hm : y ∈ ([1, 2, 3, 4, 5, 6, 7, 8, 9, 10] : List Nat) ∨ y ∈ ([11, 12, 13, 14, 15, 16, 17, 18, 19, 20] : List Nat) := (by decide +kernel : ∀ y, y < 21 → 1 ≤ y → y ∈ ([1, 2, 3, 4, 5, 6, 7, 8, 9, 10] : List Nat) ∨ y ∈ ([11, 12, 13, 14, 15, 16, 17, 18, 19, 20] : List Nat)) y h2 h1
  rcases hm with hm | hm
  · exact List.all_eq_true.mp xq_rX_0 y hm
  · exact List.all_eq_true.mp xq_rX_1 y hm
set_option maxRecDepth 100000 in
theorem xq_vA_0 : (([1, 2, 3, 4, 5, 6, 7, 8, 9, 10, 11, 12, 13, 14, 15, 16, 17, 18, 19, 20] : List Nat).all (fun y => (xz_ew [] xq_WA xq_WA && (xz_ew [] (xq_WB y) (xq_WB y) && (xz_el xq_rA (lv_args 0 (xq_as 0 y)) (lv_args 0 (xq_as 0 y)) && xz_el xq_rA (lv_args 0 (xq_as 53 y)) (lv_args 0 (xq_as 53 y))))))) = true := by decide +kernel
theorem xq_vA (y : Nat) (h1 : 1 ≤ y) (h2 : y < 21) : (xz_ew [] xq_WA xq_WA && (xz_ew [] (xq_WB y) (xq_WB y) && (xz_el xq_rA (lv_args 0 (xq_as 0 y)) (lv_args 0 (xq_as 0 y)) && xz_el xq_rA (lv_args 0 (xq_as 53 y)) (lv_args 0 (xq_as 53 y))))) = true := by
  have hm : y ∈ ([1, 2, 3, 4, 5, 6, 7, 8, 9, 10, 11, 12, 13, 14, 15, 16, 17, 18, 19, 20] : List Nat) := (by decide +kernel : ∀ y, y < 21 → 1 ≤ y → y ∈ ([1, 2, 3, 4, 5, 6, 7, 8, 9, 10, 11, 12, 13, 14, 15, 16, 17, 18, 19, 20] : List Nat)) y h2 h1
  exact List.all_eq_true.mp xq_vA_0 y hm
def xq_sm (y : Nat) : Nat → Nat → List Value → List xr_C → Bool → Option xr_Out := xz_sm1 19 33 (xq_as 0 y) xq_WA (.inl (some (.int (Int32.ofNat 0))), xq_WB y, true, 0, 0) (xz_sm1 20 185 (xq_as 53 y) (xq_WB y) (.inl (some (.int (Int32.ofNat 0))), xq_WD y, true, 0, 0) xr_no)
set_option maxRecDepth 100000 in
theorem xq_law_0 : (([1, 2, 3, 4, 5, 6, 7, 8, 9, 10] : List Nat).all (fun y => xt_go ((5, .retAddr 0, .int 63, .int (Int32.ofNat 29)) :: []) [] (xq_sm y) (xt_v7.set 4 (.int (Int32.ofNat y))))) = true := by decide +kernel
set_option maxRecDepth 100000 in
theorem xq_law_1 : (([11, 12, 13, 14, 15, 16, 17, 18, 19, 20] : List Nat).all (fun y => xt_go ((5, .retAddr 0, .int 63, .int (Int32.ofNat 29)) :: []) [] (xq_sm y) (xt_v7.set 4 (.int (Int32.ofNat y))))) = true := by decide +kernel
theorem xq_law (y : Nat) (h1 : 1 ≤ y) (h2 : y < 21) : xt_go ((5, .retAddr 0, .int 63, .int (Int32.ofNat 29)) :: []) [] (xq_sm y) (xt_v7.set 4 (.int (Int32.ofNat y))) = true := by
  have hm : y ∈ ([1, 2, 3, 4, 5, 6, 7, 8, 9, 10] : List Nat) ∨ y ∈ ([11, 12, 13, 14, 15, 16, 17, 18, 19, 20] : List Nat) := (by decide +kernel : ∀ y, y < 21 → 1 ≤ y → y ∈ ([1, 2, 3, 4, 5, 6, 7, 8, 9, 10] : List Nat) ∨ y ∈ ([11, 12, 13, 14, 15, 16, 17, 18, 19, 20] : List Nat)) y h2 h1
  rcases hm with hm | hm
  · exact List.all_eq_true.mp xq_law_0 y hm
  · exact List.all_eq_true.mp xq_law_1 y hm
def xg_29_ps : List (xr_F × xr_F) := [([(1, .retAddr 2, .int (Int32.ofNat 1), true)], [(1, .retAddr 2, .int (Int32.ofNat 1), true)]),
  ([(1, .retAddr 2, .int (Int32.ofNat 1), false), (1, .int (Int32.ofNat 20), .retAddr 2, true)], [(1, .retAddr 2, .int (Int32.ofNat 1), false), (1, .int (Int32.ofNat 20), .retAddr 2, true)]),
  ([(1, .retAddr 2, .int (Int32.ofNat 1), false), (1, .int (Int32.ofNat 20), .retAddr 2, false), (1, .retAddr 3, .int (Int32.ofNat 0), true)], [(1, .retAddr 2, .int (Int32.ofNat 1), false), (1, .int (Int32.ofNat 20), .retAddr 2, false), (1, .retAddr 3, .int (Int32.ofNat 0), true)]),
  ([(1, .retAddr 2, .int (Int32.ofNat 1), false), (1, .int (Int32.ofNat 20), .retAddr 2, false), (1, .retAddr 3, .int (Int32.ofNat 0), false), (1, .int (Int32.ofNat 16), .retAddr 3, true)], [(1, .retAddr 2, .int (Int32.ofNat 1), false), (1, .int (Int32.ofNat 20), .retAddr 2, false), (1, .retAddr 3, .int (Int32.ofNat 0), false), (1, .int (Int32.ofNat 16), .retAddr 3, true)]),
  ([(1, .retAddr 2, .int (Int32.ofNat 1), false), (1, .int (Int32.ofNat 20), .retAddr 2, false), (1, .retAddr 3, .int (Int32.ofNat 0), false), (1, .int (Int32.ofNat 16), .retAddr 3, false), (1, .retAddr 4, .int (Int32.ofNat 1), true)], [(1, .retAddr 2, .int (Int32.ofNat 1), false), (1, .int (Int32.ofNat 20), .retAddr 2, false), (1, .retAddr 3, .int (Int32.ofNat 0), false), (1, .int (Int32.ofNat 16), .retAddr 3, false), (1, .retAddr 4, .int (Int32.ofNat 1), true)]),
  ([(1, .retAddr 2, .int (Int32.ofNat 1), false), (1, .int (Int32.ofNat 20), .retAddr 2, false), (1, .retAddr 3, .int (Int32.ofNat 0), false), (1, .int (Int32.ofNat 16), .retAddr 3, false), (1, .retAddr 4, .int (Int32.ofNat 1), false), (1, .int (Int32.ofNat 20), .retAddr 4, true)], [(1, .retAddr 2, .int (Int32.ofNat 1), false), (1, .int (Int32.ofNat 20), .retAddr 2, false), (1, .retAddr 3, .int (Int32.ofNat 0), false), (1, .int (Int32.ofNat 16), .retAddr 3, false), (1, .retAddr 4, .int (Int32.ofNat 1), false), (1, .int (Int32.ofNat 20), .retAddr 4, true)]),
  ([(1, .retAddr 2, .int (Int32.ofNat 1), false), (1, .int (Int32.ofNat 20), .retAddr 2, false), (1, .retAddr 3, .int (Int32.ofNat 0), false), (1, .int (Int32.ofNat 16), .retAddr 3, false), (1, .retAddr 4, .int (Int32.ofNat 1), false), (1, .int (Int32.ofNat 20), .retAddr 4, false), (1, .retAddr 5, .int (Int32.ofNat 0), true)], [(1, .retAddr 2, .int (Int32.ofNat 1), false), (1, .int (Int32.ofNat 20), .retAddr 2, false), (1, .retAddr 3, .int (Int32.ofNat 0), false), (1, .int (Int32.ofNat 16), .retAddr 3, false), (1, .retAddr 4, .int (Int32.ofNat 1), false), (1, .int (Int32.ofNat 20), .retAddr 4, false), (1, .retAddr 5, .int (Int32.ofNat 0), true)]),
  ([(1, .retAddr 2, .int (Int32.ofNat 1), false), (1, .int (Int32.ofNat 20), .retAddr 2, false), (1, .retAddr 3, .int (Int32.ofNat 0), false), (1, .int (Int32.ofNat 16), .retAddr 3, false), (1, .retAddr 4, .int (Int32.ofNat 1), false), (1, .int (Int32.ofNat 20), .retAddr 4, false), (1, .retAddr 5, .int (Int32.ofNat 0), false), (1, .int (Int32.ofNat 2), .retAddr 5, true)], [(1, .retAddr 2, .int (Int32.ofNat 1), false), (1, .int (Int32.ofNat 20), .retAddr 2, false), (1, .retAddr 3, .int (Int32.ofNat 0), false), (1, .int (Int32.ofNat 16), .retAddr 3, false), (1, .retAddr 4, .int (Int32.ofNat 1), false), (1, .int (Int32.ofNat 20), .retAddr 4, false), (1, .retAddr 5, .int (Int32.ofNat 0), false), (1, .int (Int32.ofNat 2), .retAddr 5, true)])]
set_option maxRecDepth 100000 in
theorem xg_29_all : xg_29_ps.all (fun q => xt_clo q.1 q.2 && xt_go ((5, .retAddr 0, .int 63, .int (Int32.ofNat 29)) :: []) q.2 xr_no xt_v7) = true := by decide +kernel
theorem xg_29 {p : Program} {l : Launch} {e : Env} {s : State} {m : MethodId} {below : List Frame} {meth : Method} {c : Code} {b : Nat} {xs : Nat → Int32} {D : va_G} {cy : Nat → ClassId} {sg : Nat → Nat} (h : xt_Ctx p l s m meth c b 7 xs D cy sg) (hk : xs 0 &&& 63 = Int32.ofNat 29) : xt_Goal p l e s m below meth c b := by
  refine xt_call h 29 hk rfl xt_sc7 [] rfl xg_29_ps [xg_29_in] 60 (by decide +kernel) xg_29_all (fun q hq hT => ?_)
  cases (List.mem_singleton.mp hq)
  have a2 := (xt_T1 (hT (1, .retAddr 2, .int (Int32.ofNat 1), false) (by simp [xg_29_in]))).2 rfl
  have b2 := (xt_T1 (hT (1, .int (Int32.ofNat 20), .retAddr 2, false) (by simp [xg_29_in]))).2 rfl
  have a4 := (xt_T1 (hT (1, .retAddr 4, .int (Int32.ofNat 1), false) (by simp [xg_29_in]))).2 rfl
  have b4 := (xt_T1 (hT (1, .int (Int32.ofNat 20), .retAddr 4, false) (by simp [xg_29_in]))).2 rfl
  obtain ⟨n, hn, ln, en⟩ := xt_num (x := xs 2) (lo := 1) (hi := 20) (by decide) (by decide) a2 b2
  obtain ⟨y, hy, ly, ey⟩ := xt_num (x := xs 4) (lo := 1) (hi := 20) (by decide) (by decide) a4 b4
  have hv := xq_vA y ly hy
  simp only [Bool.and_eq_true] at hv
  obtain ⟨v1, v2, v3, v4⟩ := hv
  have hst := h.1
  have hmt := h.2.2.2.2.2.2.2.1
  have old : ∀ z, z < 7 → xq_ep xs n z = xs z := fun z hz => match z, hz with
    | 0, _ => rfl
    | 1, _ => rfl
    | 2, _ => rfl
    | 3, _ => rfl
    | 4, _ => rfl
    | 5, _ => rfl
    | 6, _ => rfl
  refine xt_W h (ep := xq_ep xs n) (df := (5, .retAddr 0, .int 63, .int (Int32.ofNat 29)) :: []) (fx := []) (sm := xq_sm y) (scr := xt_v7.set 4 (.int (Int32.ofNat y))) ?_ (fun d hd => by cases hd) ?_ rfl (fun j v hv => ?_) (xq_law y ly hy)
  · intro d hd
    rcases List.mem_cons.mp hd with rfl | hd
    · refine ⟨_, _, rfl, rfl, ?_⟩
      show Value.int (Int32.ofNat 29) = .int (xs 0 &&& 63)
      rw [hk]
    · cases hd
  · refine xz_sm1_ok (xq_con hst hmt ln hn en hT (M := xm_33) (by rfl) rfl rfl (by decide) v3 v1 (xq_cE y ly hy) (xq_cI y ly hy) (fun j hj => List.all_eq_true.mp (xq_cX y ly hy) j ((by decide : ∀ j, j < 3 → j ∈ ([0, 1, 2] : List Nat)) j hj))) ?_
    exact xz_sm1_ok (xq_con hst hmt ln hn en hT (M := xm_185) (by rfl) rfl rfl (by decide) v4 v2 (xq_rE y ly hy) (xq_rJ y ly hy) (fun j hj => List.all_eq_true.mp (xq_rX y ly hy) j ((by decide : ∀ j, j < 3 → j ∈ ([0, 1, 2] : List Nat)) j hj))) (fun d u as w b o ho => by cases ho)
  · obtain ⟨h3, h4⟩ := xt_sc_set xt_sc7 ey j v hv
    rw [xt_iv_ok (xt_lt_I h3), xt_lt_iv h3 old, h4]
