/-! nextRows of no rows: one run, every world -/
def xp_Kd (rem0 : List xr_En) (l0 : xr_L) : xp_Ih := fun rem l st => bif decide (rem = rem0) && (xr_ql l l0 && xr_qs st []) then some none else none
theorem xr_rt_some {ret : Option FieldType} {i : Instr} {st : List Value} (h : ret ≠ none) : xr_rt ret i st ≠ some none := by
  intro q
  unfold xr_rt at q
  split at q
  · split at q
    · exact h rfl
    · cases q
  · split at q
    · simp only [Bool.cond_eq_ite] at q; split at q <;> cases q
    · simp only [Bool.cond_eq_ite] at q; split at q <;> cases q
    · simp only [Bool.cond_eq_ite] at q; split at q <;> cases q
    · cases q
  · split at q
    · simp only [Bool.cond_eq_ite] at q; split at q <;> cases q
    · cases q
  · split at q
    · simp only [Bool.cond_eq_ite] at q; split at q <;> cases q
    · simp only [Bool.cond_eq_ite] at q; split at q <;> cases q
    · cases q
  · cases q
/-- a run that comes to a cut, whatever follows it -/
theorem xp_par {df : xr_D} {fx : xr_F} {M : xr_M} {rem0 : List xr_En} {l0 : xr_L} (hret : M.2.2.2.1 ≠ none) (K : xp_Ih) : ∀ (n : Nat) (rem : List xr_En) (l : xr_L) (st : List Value), xp_lp (xp_Kd rem0 l0) df fx M n rem l st = some none → xp_lp K df fx M n rem l st = K rem0 l0 []
  | 0, rem, l, st, h => by
    have h : xp_Kd rem0 l0 rem l st = some none := h
    unfold xp_Kd at h
    simp only [Bool.cond_eq_ite] at h
    split at h
    · rename_i q
      simp only [Bool.and_eq_true, decide_eq_true_eq] at q
      obtain ⟨rfl, q2, q3⟩ := q
      rw [← xr_ql_ok q2]
      show K rem l st = K rem l []
      rw [xr_qs_ok q3]
    · cases h
  | n + 1, [], l, st, h => by cases h
  | n + 1, e :: r, l, st, h0 => by
    have ih := xp_par (df := df) (fx := fx) (rem0 := rem0) (l0 := l0) hret K n
    have g : ∀ o, xp_g (xp_lp (xp_Kd rem0 l0) df fx M n) o = some none → xp_g (xp_lp K df fx M n) o = K rem0 l0 [] := by
      intro o ho
      cases o with
      | none => cases ho
      | some q => exact ih _ _ _ ho
    have h : xp_st df fx M (xp_lp (xp_Kd rem0 l0) df fx M n) (e :: r) l st = some none := h0
    clear h0
    show xp_st df fx M (xp_lp K df fx M n) (e :: r) l st = _
    unfold xp_st at h ⊢
    simp only at h ⊢
    split at h
    · first | exact g _ h | (rename_i hk; rw [hk]; exact g _ h) | (rename_i hk; simp only [hk]; exact g _ h)
    · first | exact g _ h | (rename_i hk; rw [hk]; exact g _ h) | (rename_i hk; simp only [hk]; exact g _ h)
    · first | exact g _ h | (rename_i hk; rw [hk]; exact g _ h) | (rename_i hk; simp only [hk]; exact g _ h)
    · first | exact g _ h | (rename_i hk; rw [hk]; exact g _ h) | (rename_i hk; simp only [hk]; exact g _ h)
    · first | exact g _ h | (rename_i hk; rw [hk]; exact g _ h) | (rename_i hk; simp only [hk]; exact g _ h)
    · exfalso
      unfold xp_e at h
      cases hr : xr_rt M.2.2.2.1 e.2.1 st with
      | none => rw [hr] at h; cases h
      | some v =>
        rw [hr] at h
        simp only at h
        cases hb : Nat.beq e.2.2.1 1 with
        | false => rw [hb] at h; cases h
        | true =>
          rw [hb] at h
          cases h
          exact xr_rt_some hret hr
    · first | exact g _ h | (rename_i hk; rw [hk]; exact g _ h) | (rename_i hk; simp only [hk]; exact g _ h)
    · cases h
abbrev xn_h : List xr_En := xm_173.2.2.2.2.2.2.drop 4
def xn_l (a : Nat) : xr_L := match a with
  | 0 => [(5, .int (Int32.ofNat 0)), (3, .long 0), (0, .ref 53), (1, .long 0)]
  | a + 1 => [(5, .int (Int32.ofNat (a + 1))), (6, .int (Int32.ofNat 64)), (3, .long 0), (0, .ref 53), (1, .long 0)]
theorem xp_isN_ok {o : Option (Option Value)} (h : xp_isN o = true) : o = some none := by
  unfold xp_isN at h
  split at h
  · rfl
  · cases h
theorem xp_isL_ok {o : Option (Option Value)} (h : xp_isL o = true) : o = some (some (.long 0)) := by
  unfold xp_isL at h
  split at h
  · rw [xr_qv_ok h]
  · cases h
set_option maxRecDepth 100000 in
theorem xn_pre : xp_isN (xp_lp (xp_Kd xn_h (xn_l 0)) [] [] xm_173 4 xm_173.2.2.2.2.2.2 (lv_args 0 [.ref 53, .long 0]) []) = true := by decide +kernel
set_option maxRecDepth 100000 in
theorem xn_end : xp_isL (xp_lp xp_K0 [] [] xm_173 5 xn_h (xn_l 64) []) = true := by decide +kernel
set_option maxRecDepth 100000 in
theorem xn_seg0 : ([0, 1, 2, 3, 4, 5, 6, 7] : List Nat).all (fun a => xp_isN (xp_lp (xp_Kd xn_h (xn_l (a + 1))) [] [] xm_173 1098 xn_h (xn_l a) [])) = true := by decide +kernel
set_option maxRecDepth 100000 in
theorem xn_seg1 : ([8, 9, 10, 11, 12, 13, 14, 15] : List Nat).all (fun a => xp_isN (xp_lp (xp_Kd xn_h (xn_l (a + 1))) [] [] xm_173 1098 xn_h (xn_l a) [])) = true := by decide +kernel
set_option maxRecDepth 100000 in
theorem xn_seg2 : ([16, 17, 18, 19, 20, 21, 22, 23] : List Nat).all (fun a => xp_isN (xp_lp (xp_Kd xn_h (xn_l (a + 1))) [] [] xm_173 1098 xn_h (xn_l a) [])) = true := by decide +kernel
set_option maxRecDepth 100000 in
theorem xn_seg3 : ([24, 25, 26, 27, 28, 29, 30, 31] : List Nat).all (fun a => xp_isN (xp_lp (xp_Kd xn_h (xn_l (a + 1))) [] [] xm_173 1098 xn_h (xn_l a) [])) = true := by decide +kernel
set_option maxRecDepth 100000 in
theorem xn_seg4 : ([32, 33, 34, 35, 36, 37, 38, 39] : List Nat).all (fun a => xp_isN (xp_lp (xp_Kd xn_h (xn_l (a + 1))) [] [] xm_173 1098 xn_h (xn_l a) [])) = true := by decide +kernel
set_option maxRecDepth 100000 in
theorem xn_seg5 : ([40, 41, 42, 43, 44, 45, 46, 47] : List Nat).all (fun a => xp_isN (xp_lp (xp_Kd xn_h (xn_l (a + 1))) [] [] xm_173 1098 xn_h (xn_l a) [])) = true := by decide +kernel
set_option maxRecDepth 100000 in
theorem xn_seg6 : ([48, 49, 50, 51, 52, 53, 54, 55] : List Nat).all (fun a => xp_isN (xp_lp (xp_Kd xn_h (xn_l (a + 1))) [] [] xm_173 1098 xn_h (xn_l a) [])) = true := by decide +kernel
set_option maxRecDepth 100000 in
theorem xn_seg7 : ([56, 57, 58, 59, 60, 61, 62, 63] : List Nat).all (fun a => xp_isN (xp_lp (xp_Kd xn_h (xn_l (a + 1))) [] [] xm_173 1098 xn_h (xn_l a) [])) = true := by decide +kernel
theorem xn_seg (a : Nat) (h : a < 64) : xp_isN (xp_lp (xp_Kd xn_h (xn_l (a + 1))) [] [] xm_173 1098 xn_h (xn_l a) []) = true := by
  have hm : a ∈ ([0, 1, 2, 3, 4, 5, 6, 7] : List Nat) ∨ a ∈ ([8, 9, 10, 11, 12, 13, 14, 15] : List Nat) ∨ a ∈ ([16, 17, 18, 19, 20, 21, 22, 23] : List Nat) ∨ a ∈ ([24, 25, 26, 27, 28, 29, 30, 31] : List Nat) ∨ a ∈ ([32, 33, 34, 35, 36, 37, 38, 39] : List Nat) ∨ a ∈ ([40, 41, 42, 43, 44, 45, 46, 47] : List Nat) ∨ a ∈ ([48, 49, 50, 51, 52, 53, 54, 55] : List Nat) ∨ a ∈ ([56, 57, 58, 59, 60, 61, 62, 63] : List Nat) := (by decide +kernel : ∀ a, a < 64 → a ∈ ([0, 1, 2, 3, 4, 5, 6, 7] : List Nat) ∨ a ∈ ([8, 9, 10, 11, 12, 13, 14, 15] : List Nat) ∨ a ∈ ([16, 17, 18, 19, 20, 21, 22, 23] : List Nat) ∨ a ∈ ([24, 25, 26, 27, 28, 29, 30, 31] : List Nat) ∨ a ∈ ([32, 33, 34, 35, 36, 37, 38, 39] : List Nat) ∨ a ∈ ([40, 41, 42, 43, 44, 45, 46, 47] : List Nat) ∨ a ∈ ([48, 49, 50, 51, 52, 53, 54, 55] : List Nat) ∨ a ∈ ([56, 57, 58, 59, 60, 61, 62, 63] : List Nat)) a h
  rcases hm with hm | hm | hm | hm | hm | hm | hm | hm
  · exact List.all_eq_true.mp xn_seg0 a hm
  · exact List.all_eq_true.mp xn_seg1 a hm
  · exact List.all_eq_true.mp xn_seg2 a hm
  · exact List.all_eq_true.mp xn_seg3 a hm
  · exact List.all_eq_true.mp xn_seg4 a hm
  · exact List.all_eq_true.mp xn_seg5 a hm
  · exact List.all_eq_true.mp xn_seg6 a hm
  · exact List.all_eq_true.mp xn_seg7 a hm
theorem xn_all : ∀ k : Nat, k ≤ 64 → xp_lp xp_K0 [] [] xm_173 (5 + 1098 * k) xn_h (xn_l (64 - k)) [] = some (some (.long 0))
  | 0, _ => xp_isL_ok xn_end
  | k + 1, h => by
    have e : 5 + 1098 * (k + 1) = (5 + 1098 * k) + 1098 := by omega
    have e2 : xn_l (64 - k) = xn_l ((63 - k) + 1) := by congr 1; omega
    rw [e, xp_add, show 64 - (k + 1) = 63 - k from by omega, xp_par (rem0 := xn_h) (l0 := xn_l ((63 - k) + 1)) (by decide) _ 1098 _ _ _ (xp_isN_ok (xn_seg (63 - k) (by omega))), ← e2]
    exact xn_all k (by omega)
theorem xn_run : xp_lp xp_K0 [] [] xm_173 ((5 + 1098 * 64) + 4) xm_173.2.2.2.2.2.2 (lv_args 0 [.ref 53, .long 0]) [] = some (some (.long 0)) := by
  rw [xp_add, xp_par (rem0 := xn_h) (l0 := xn_l 0) (by decide) _ 4 _ _ _ (xp_isN_ok xn_pre)]
  exact xn_all 64 (Nat.le_refl _)
theorem xn_R {n : Nat} (hr : xp_lp xp_K0 [] [] xm_173 n xm_173.2.2.2.2.2.2 (lv_args 0 [.ref 53, .long 0]) [] = some (some (.long 0))) (w : List xr_C) (b : Bool) : xr_R [] [] xr_no xr_mt n 19 173 [.ref 53, .long 0] w b = some (.inl (some (.long 0)), w, b, 0, 0) := by
  have h : xr_nth xr_mt 173 = some xm_173 := by rw [xr_nth_eq]; rfl
  show (match xr_nth xr_mt 173 with
    | some M => bif Nat.ble (lg_sl [Value.ref 53, Value.long 0]).length M.2.2.1 then xr_lp xr_K0 [] [] none xr_mt 18 (xr_R [] [] xr_no xr_mt n 18) M n M.2.2.2.2.2.2 (lv_args 0 [.ref 53, .long 0]) [] w b 0 0 else none
    | none => none) = _
  rw [h]
  exact xp_lp_ok (fun r l st h => by cases h) n _ _ _ hr
def xn_sm : Nat → Nat → List Value → List xr_C → Bool → Option xr_Out := fun d u as w b => bif Nat.beq d 19 && (Nat.beq u 173 && xr_qs as [.ref 53, .long 0]) then some (.inl (some (.long 0)), w, b, 0, 0) else none
section XNS
variable {p : Program} {l : Launch} {e : Env} {s : State} {m : MethodId} {below : List Frame} {meth : Method} {c : Code} {b : Nat} {xs : Nat → Int32} {D : va_G} {cy : Nat → ClassId} {sg : Nat → Nat}
theorem xn_sm_ok {ep : Nat → Int32} {ba : Nat} (hst : l.stackTraces = false) (hmt : ∀ M ∈ xr_mt, xr_Mok xr_mt M = true) (d u : Nat) (as : List Value) (w : List xr_C) (b : Bool) (o : xr_Out) (h : xn_sm d u as w b = some o) : xr_Con l D ep ba sg cy xr_mt d u as w b o := by
  unfold xn_sm at h
  cases hc : (Nat.beq d 19 && (Nat.beq u 173 && xr_qs as [.ref 53, .long 0])) with
  | false => rw [hc] at h; cases h
  | true =>
    rw [hc] at h
    simp only [cond_true, Option.some.injEq] at h
    simp only [Bool.and_eq_true] at hc
    obtain ⟨h1, h2, h3⟩ := hc
    have h1 := Nat.eq_of_beq_eq_true h1
    have h2 := Nat.eq_of_beq_eq_true h2
    have h3 := xr_qs_ok h3
    subst h1 h2 h3 h
    exact xr_R_ok (fun d u as w b o ho => by cases ho) hst (fun d hd => by cases hd) (fun d hd => by cases hd) hmt _ 19 173 _ w b _ (xn_R xn_run w b)
/-- one path, its facts known; some calls by their contracts -/
theorem xt_oneS (h : xt_Ctx p l s m meth c b 7 xs D cy sg) (k : Nat) (hk : xs 0 &&& 63 = Int32.ofNat k) {scr : List Value} (hlen : scr.length = 7) (hsc : xt_sc xs scr) (fx : xr_F) {q : xr_F} (hq : ∀ d ∈ q, xt_T xs d) (hc : xt_clo q fx = true) {sm : Nat → Nat → List Value → List xr_C → Bool → Option xr_Out} (hsm : ∀ d u as w b o, sm d u as w b = some o → xr_Con l D xs s.heap.size sg cy xr_mt d u as w b o) (hrun : xt_go ((5, .retAddr 0, .int 63, .int (Int32.ofNat k)) :: []) fx sm scr = true) : xt_Goal p l e s m below meth c b := by
  refine xt_W h (ep := xs) ?_ (xt_clo_ok hq hc) hsm hlen (fun j v hv => ?_) hrun
  · intro d hd
    rcases List.mem_cons.mp hd with rfl | hd
    · refine ⟨_, _, rfl, rfl, ?_⟩
      show Value.int (Int32.ofNat k) = .int (xs 0 &&& 63)
      rw [hk]
    · cases hd
  · obtain ⟨h3, h4⟩ := hsc j v hv
    rw [xt_iv_ok (xt_lt_I h3), h4]
end XNS
