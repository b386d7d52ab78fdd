/-! calls by their contracts -/
def xz_sm1 (d0 u0 : Nat) (as0 : List Value) (w0 : List xr_C) (o0 : xr_Out) (sm : Nat → Nat → List Value → List xr_C → Bool → Option xr_Out) : Nat → Nat → List Value → List xr_C → Bool → Option xr_Out := fun d u as w b => bif Nat.beq d d0 && (Nat.beq u u0 && (xr_qs as as0 && (b && xz_ew [] (xz_w w) w0))) then some o0 else sm d u as w b
theorem xz_sm1_ok {l : Launch} {D : va_G} {ep : Nat → Int32} {ba : Nat} {sg : Nat → Nat} {cy : Nat → ClassId} {mt : List xr_M} {d0 u0 : Nat} {as0 : List Value} {w0 : List xr_C} {o0 : xr_Out} {sm : Nat → Nat → List Value → List xr_C → Bool → Option xr_Out} (h0 : xr_Con l D ep ba sg cy mt d0 u0 as0 w0 true o0) (hsm : ∀ d u as w b o, sm d u as w b = some o → xr_Con l D ep ba sg cy mt d u as w b o) : ∀ d u as w b o, xz_sm1 d0 u0 as0 w0 o0 sm d u as w b = some o → xr_Con l D ep ba sg cy mt d u as w b o := by
  intro d u as w b o h
  unfold xz_sm1 at h
  cases hc : (Nat.beq d d0 && (Nat.beq u u0 && (xr_qs as as0 && (b && xz_ew [] (xz_w w) w0)))) with
  | false => rw [hc] at h; exact hsm d u as w b o h
  | true =>
    rw [hc] at h
    simp only [cond_true, Option.some.injEq] at h
    simp only [Bool.and_eq_true] at hc
    obtain ⟨h1, h2, h3, h4, h5⟩ := hc
    have h1 := Nat.eq_of_beq_eq_true h1
    have h2 := Nat.eq_of_beq_eq_true h2
    have h3 := xr_qs_ok h3
    subst h1 h2 h3 h4 h
    obtain ⟨e1, e2⟩ := xz_eq (ba := ba) (sg := sg) (cy := cy) (ep := ep) (ep' := ep) (rn := []) (fun q hq => by cases hq) h5
    exact xs_con_w e1 e2 h0
set_option maxRecDepth 100000 in
theorem xq_cE_0 : (([1, 2, 3, 4, 5, 6, 7] : List Nat).all (fun y => xq_E xm_33 18 67 61 (xq_r 0 y) (xq_as 0 y) xq_WA (xq_WB y))) = true := by decide +kernel
set_option maxRecDepth 100000 in
theorem xq_cE_1 : (([8, 9, 10, 11, 12, 13, 14] : List Nat).all (fun y => xq_E xm_33 18 67 61 (xq_r 0 y) (xq_as 0 y) xq_WA (xq_WB y))) = true := by decide +kernel
set_option maxRecDepth 100000 in
theorem xq_cE_2 : (([15, 16, 17, 18, 19, 20] : List Nat).all (fun y => xq_E xm_33 18 67 61 (xq_r 0 y) (xq_as 0 y) xq_WA (xq_WB y))) = true := by decide +kernel
theorem xq_cE (y : Nat) (h1 : 1 ≤ y) (h2 : y < 21) : xq_E xm_33 18 67 61 (xq_r 0 y) (xq_as 0 y) xq_WA (xq_WB y) = true := by
  have hm : y ∈ ([1, 2, 3, 4, 5, 6, 7] : List Nat) ∨ y ∈ ([8, 9, 10, 11, 12, 13, 14] : List Nat) ∨ y ∈ ([15, 16, 17, 18, 19, 20] : List Nat) := (by decide +kernel : ∀ y, y < 21 → 1 ≤ y → y ∈ ([1, 2, 3, 4, 5, 6, 7] : List Nat) ∨ y ∈ ([8, 9, 10, 11, 12, 13, 14] : List Nat) ∨ y ∈ ([15, 16, 17, 18, 19, 20] : List Nat)) y h2 h1
  rcases hm with hm | hm | hm
  · exact List.all_eq_true.mp xq_cE_0 y hm
  · exact List.all_eq_true.mp xq_cE_1 y hm
  · exact List.all_eq_true.mp xq_cE_2 y hm
set_option maxRecDepth 100000 in
theorem xq_cI_0 : (([1, 2, 3, 4, 5, 6, 7, 8, 9, 10] : List Nat).all (fun y => xq_I xm_33 18 33 61 35 (xq_r 0 y) (xq_WB y))) = true := by decide +kernel
set_option maxRecDepth 100000 in
theorem xq_cI_1 : (([11, 12, 13, 14, 15, 16, 17, 18, 19, 20] : List Nat).all (fun y => xq_I xm_33 18 33 61 35 (xq_r 0 y) (xq_WB y))) = true := by decide +kernel
theorem xq_cI (y : Nat) (h1 : 1 ≤ y) (h2 : y < 21) : xq_I xm_33 18 33 61 35 (xq_r 0 y) (xq_WB y) = true := by
  have hm : y ∈ ([1, 2, 3, 4, 5, 6, 7, 8, 9, 10] : List Nat) ∨ y ∈ ([11, 12, 13, 14, 15, 16, 17, 18, 19, 20] : List Nat) := (by decide +kernel : ∀ y, y < 21 → 1 ≤ y → y ∈ ([1, 2, 3, 4, 5, 6, 7, 8, 9, 10] : List Nat) ∨ y ∈ ([11, 12, 13, 14, 15, 16, 17, 18, 19, 20] : List Nat)) y h2 h1
  rcases hm with hm | hm
  · exact List.all_eq_true.mp xq_cI_0 y hm
  · exact List.all_eq_true.mp xq_cI_1 y hm
set_option maxRecDepth 100000 in
theorem xq_cX_0 : (([1, 2, 3, 4, 5, 6, 7, 8, 9, 10] : List Nat).all (fun y => (([0, 1, 2] : List Nat).all (fun j => xq_X xm_33 18 35 (xq_r 0 y) (xq_WB y) j)))) = true := by decide +kernel
set_option maxRecDepth 100000 in
theorem xq_cX_1 : (([11, 12, 13, 14, 15, 16, 17, 18, 19, 20] : List Nat).all (fun y => (([0, 1, 2] : List Nat).all (fun j => xq_X xm_33 18 35 (xq_r 0 y) (xq_WB y) j)))) = true := by decide +kernel
theorem xq_cX (y : Nat) (h1 : 1 ≤ y) (h2 : y < 21) : (([0, 1, 2] : List Nat).all (fun j => xq_X xm_33 18 35 (xq_r 0 y) (xq_WB y) j)) = true := by
  have hm : y ∈ ([1, 2, 3, 4, 5, 6, 7, 8, 9, 10] : List Nat) ∨ y ∈ ([11, 12, 13, 14, 15, 16, 17, 18, 19, 20] : List Nat) := (by decide +kernel : ∀ y, y < 21 → 1 ≤ y → y ∈ ([1, 2, 3, 4, 5, 6, 7, 8, 9, 10] : List Nat) ∨ y ∈ ([11, 12, 13, 14, 15, 16, 17, 18, 19, 20] : List Nat)) y h2 h1
  rcases hm with hm | hm
  · exact List.all_eq_true.mp xq_cX_0 y hm
  · exact List.all_eq_true.mp xq_cX_1 y hm
set_option maxRecDepth 100000 in
theorem xq_rE_0 : (([1, 2, 3, 4] : List Nat).all (fun y => xq_E xm_185 19 66 74 (xq_r 53 y) (xq_as 53 y) (xq_WB y) (xq_WD y))) = true := by decide +kernel
set_option maxRecDepth 100000 in
theorem xq_rE_1 : (([5, 6, 7, 8] : List Nat).all (fun y => xq_E xm_185 19 66 74 (xq_r 53 y) (xq_as 53 y) (xq_WB y) (xq_WD y))) = true := by decide +kernel
set_option maxRecDepth 100000 in
theorem xq_rE_2 : (([9, 10, 11, 12] : List Nat).all (fun y => xq_E xm_185 19 66 74 (xq_r 53 y) (xq_as 53 y) (xq_WB y) (xq_WD y))) = true := by decide +kernel
set_option maxRecDepth 100000 in
theorem xq_rE_3 : (([13, 14, 15, 16] : List Nat).all (fun y => xq_E xm_185 19 66 74 (xq_r 53 y) (xq_as 53 y) (xq_WB y) (xq_WD y))) = true := by decide +kernel
set_option maxRecDepth 100000 in
theorem xq_rE_4 : (([17, 18, 19, 20] : List Nat).all (fun y => xq_E xm_185 19 66 74 (xq_r 53 y) (xq_as 53 y) (xq_WB y) (xq_WD y))) = true := by decide +kernel
theorem xq_rE (y : Nat) (h1 : 1 ≤ y) (h2 : y < 21) : xq_E xm_185 19 66 74 (xq_r 53 y) (xq_as 53 y) (xq_WB y) (xq_WD y) = true := by
  have hm : y ∈ ([1, 2, 3, 4] : List Nat) ∨ y ∈ ([5, 6, 7, 8] : List Nat) ∨ y ∈ ([9, 10, 11, 12] : List Nat) ∨ y ∈ ([13, 14, 15, 16] : List Nat) ∨ y ∈ ([17, 18, 19, 20] : List Nat) := (by decide +kernel : ∀ y, y < 21 → 1 ≤ y → y ∈ ([1, 2, 3, 4] : List Nat) ∨ y ∈ ([5, 6, 7, 8] : List Nat) ∨ y ∈ ([9, 10, 11, 12] : List Nat) ∨ y ∈ ([13, 14, 15, 16] : List Nat) ∨ y ∈ ([17, 18, 19, 20] : List Nat)) y h2 h1
  rcases hm with hm | hm | hm | hm | hm
  · exact List.all_eq_true.mp xq_rE_0 y hm
  · exact List.all_eq_true.mp xq_rE_1 y hm
  · exact List.all_eq_true.mp xq_rE_2 y hm
  · exact List.all_eq_true.mp xq_rE_3 y hm
  · exact List.all_eq_true.mp xq_rE_4 y hm
set_option maxRecDepth 100000 in
theorem xq_rJ_0 : (([1, 2, 3, 4] : List Nat).all (fun y => xq_I xm_185 19 30 74 41 (xq_r 53 y) (xq_WD y))) = true := by decide +kernel
set_option maxRecDepth 100000 in
theorem xq_rJ_1 : (([5, 6, 7, 8] : List Nat).all (fun y => xq_I xm_185 19 30 74 41 (xq_r 53 y) (xq_WD y))) = true := by decide +kernel
set_option maxRecDepth 100000 in
theorem xq_rJ_2 : (([9, 10, 11, 12] : List Nat).all (fun y => xq_I xm_185 19 30 74 41 (xq_r 53 y) (xq_WD y))) = true := by decide +kernel
set_option maxRecDepth 100000 in
theorem xq_rJ_3 : (([13, 14, 15, 16] : List Nat).all (fun y => xq_I xm_185 19 30 74 41 (xq_r 53 y) (xq_WD y))) = true := by decide +kernel
set_option maxRecDepth 100000 in
theorem xq_rJ_4 : (([17, 18, 19, 20] : List Nat).all (fun y => xq_I xm_185 19 30 74 41 (xq_r 53 y) (xq_WD y))) = true := by decide +kernel
theorem xq_rJ (y : Nat) (h1 : 1 ≤ y) (h2 : y < 21) : xq_I xm_185 19 30 74 41 (xq_r 53 y) (xq_WD y) = true := by
  have hm : y ∈ ([1, 2, 3, 4] : List Nat) ∨ y ∈ ([5, 6, 7, 8] : List Nat) ∨ y ∈ ([9, 10, 11, 12] : List Nat) ∨ y ∈ ([13, 14, 15, 16] : List Nat) ∨ y ∈ ([17, 18, 19, 20] : List Nat) := (by decide +kernel : ∀ y, y < 21 → 1 ≤ y → y ∈ ([1, 2, 3, 4] : List Nat) ∨ y ∈ ([5, 6, 7, 8] : List Nat) ∨ y ∈ ([9, 10, 11, 12] : List Nat) ∨ y ∈ ([13, 14, 15, 16] : List Nat) ∨ y ∈ ([17, 18, 19, 20] : List Nat)) y h2 h1
  rcases hm with hm | hm | hm | hm | hm
  · exact List.all_eq_true.mp xq_rJ_0 y hm
  · exact List.all_eq_true.mp xq_rJ_1 y hm
  · exact List.all_eq_true.mp xq_rJ_2 y hm
  · exact List.all_eq_true.mp xq_rJ_3 y hm
  · exact List.all_eq_true.mp xq_rJ_4 y hm
set_option maxRecDepth 100000 in
theorem xq_rX_0 : (([1, 2, 3, 4, 5, 6, 7, 8, 9, 10] : List Nat).all (fun y => (([0, 1, 2] : List Nat).all (fun j => xq_X xm_185 19 41 (xq_r 53 y) (xq_WD y) j)))) = true := by decide +kernel
set_option maxRecDepth 100000 in
theorem xq_rX_1 : (([11, 12, 13, 14, 15, 16, 17, 18, 19, 20] : List Nat).all (fun y => (([0, 1, 2] : List Nat).all (fun j => xq_X xm_185 19 41 (xq_r 53 y) (xq_WD y) j)))) = true := by decide +kernel
theorem xq_rX (y : Nat) (h1 : 1 ≤ y) (h2 : y < 21) : (([0, 1, 2] : List Nat).all (fun j => xq_X xm_185 19 41 (xq_r 53 y) (xq_WD y) j)) = true := by
  have hm : y ∈ ([1, 2, 3, 4, 5, 6, 7, 8, 9, 10] : List Nat) ∨ y ∈ ([11, 12, 13, 14, 15, 16, 17, 18, 19, 20] : List Nat) := (by decide +kernel : ∀ y, y < 21 → 1 ≤ y → y ∈ ([1, 2, 3, 4, 5, 6, 7, 8, 9, 10] : List Nat) ∨ y ∈ ([11, 12, 13, 14, 15, 16, 17, 18, 19, 20] : List Nat)) y h2 h1
  rcases hm with hm | hm
  · exact List.all_eq_true.mp xq_rX_0 y hm
  · exact List.all_eq_true.mp xq_rX_1 y hm
set_option maxRecDepth 100000 in
theorem xq_vA_0 : (([1, 2, 3, 4, 5, 6, 7, 8, 9, 10, 11, 12, 13, 14, 15, 16, 17, 18, 19, 20] : List Nat).all (fun y => (xz_ew [] xq_WA xq_WA && (xz_ew [] (xq_WB y) (xq_WB y) && (xz_el xq_rA (lv_args 0 (xq_as 0 y)) (lv_args 0 (xq_as 0 y)) && xz_el xq_rA (lv_args 0 (xq_as 53 y)) (lv_args 0 (xq_as 53 y))))))) = true := by decide +kernel
theorem xq_vA (y : Nat) (h1 : 1 ≤ y) (h2 : y < 21) : (xz_ew [] xq_WA xq_WA && (xz_ew [] (xq_WB y) (xq_WB y) && (xz_el xq_rA (lv_args 0 (xq_as 0 y)) (lv_args 0 (xq_as 0 y)) && xz_el xq_rA (lv_args 0 (xq_as 53 y)) (lv_args 0 (xq_as 53 y))))) = true := by
  have hm : y ∈ ([1, 2, 3, 4, 5, 6, 7, 8, 9, 10, 11, 12, 13, 14, 15, 16, 17, 18, 19, 20] : List Nat) := (by decide +kernel : ∀ y, y < 21 → 1 ≤ y → y ∈ ([1, 2, 3, 4, 5, 6, 7, 8, 9, 10, 11, 12, 13, 14, 15, 16, 17, 18, 19, 20] : List Nat)) y h2 h1
  exact List.all_eq_true.mp xq_vA_0 y hm
def xq_sm (y : Nat) : Nat → Nat → List Value → List xr_C → Bool → Option xr_Out := xz_sm1 19 33 (xq_as 0 y) xq_WA (.inl (some (.int (Int32.ofNat 0))), xq_WB y, true, 0, 0) (xz_sm1 20 185 (xq_as 53 y) (xq_WB y) (.inl (some (.int (Int32.ofNat 0))), xq_WD y, true, 0, 0) xr_no)
set_option maxRecDepth 100000 in
theorem xq_law_0 : (([1, 2, 3, 4, 5, 6, 7, 8, 9, 10] : List Nat).all (fun y => xt_go ((5, .retAddr 0, .int 63, .int (Int32.ofNat 29)) :: []) [] (xq_sm y) (xt_v7.set 4 (.int (Int32.ofNat y))))) = true := by decide +kernel
set_option maxRecDepth 100000 in
theorem xq_law_1 : (([11, 12, 13, 14, 15, 16, 17, 18, 19, 20] : List Nat).all (fun y => xt_go ((5, .retAddr 0, .int 63, .int (Int32.ofNat 29)) :: []) [] (xq_sm y) (xt_v7.set 4 (.int (Int32.ofNat y))))) = true := by decide +kernel
theorem xq_law (y : Nat) (h1 : 1 ≤ y) (h2 : y < 21) : xt_go ((5, .retAddr 0, .int 63, .int (Int32.ofNat 29)) :: []) [] (xq_sm y) (xt_v7.set 4 (.int (Int32.ofNat y))) = true := by
  have hm : y ∈ ([1, 2, 3, 4, 5, 6, 7, 8, 9, 10] : List Nat) ∨ y ∈ ([11, 12, 13, 14, 15, 16, 17, 18, 19, 20] : List Nat) := (by decide +kernel : ∀ y, y < 21 → 1 ≤ y → y ∈ ([1, 2, 3, 4, 5, 6, 7, 8, 9, 10] : List Nat) ∨ y ∈ ([11, 12, 13, 14, 15, 16, 17, 18, 19, 20] : List Nat)) y h2 h1
  rcases hm with hm | hm
  · exact List.all_eq_true.mp xq_law_0 y hm
  · exact List.all_eq_true.mp xq_law_1 y hm
