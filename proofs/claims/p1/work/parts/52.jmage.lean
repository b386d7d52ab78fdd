/-! image: its contract, the call -/
theorem xi_I (w : Nat) (h1 : 0 ≤ w) (h2 : w < 20) : xr_isM (xr_lp (xz_K [] 53 (xi_l (w + 1)) (xi_WH (73 + 72 * (w + 1))) 0 0) [] [] none xr_mt 18 (xr_R [] [] xr_no xr_mt 100000 18) xm_178 1522 (xm_178.2.2.2.2.2.2.drop 32) (xi_l w) [] (xi_WH (73 + 72 * w)) true 0 0) true 0 0 = true := by
  have hm : w ∈ ([0] : List Nat) ∨ w ∈ ([1] : List Nat) ∨ w ∈ ([2] : List Nat) ∨ w ∈ ([3] : List Nat) ∨ w ∈ ([4] : List Nat) ∨ w ∈ ([5] : List Nat) ∨ w ∈ ([6] : List Nat) ∨ w ∈ ([7] : List Nat) ∨ w ∈ ([8] : List Nat) ∨ w ∈ ([9] : List Nat) ∨ w ∈ ([10] : List Nat) ∨ w ∈ ([11] : List Nat) ∨ w ∈ ([12] : List Nat) ∨ w ∈ ([13] : List Nat) ∨ w ∈ ([14] : List Nat) ∨ w ∈ ([15] : List Nat) ∨ w ∈ ([16] : List Nat) ∨ w ∈ ([17] : List Nat) ∨ w ∈ ([18] : List Nat) ∨ w ∈ ([19] : List Nat) := by
    simp only [List.mem_cons, List.not_mem_nil, or_false]
    omega
  rcases hm with hm | hm | hm | hm | hm | hm | hm | hm | hm | hm | hm | hm | hm | hm | hm | hm | hm | hm | hm | hm
  · exact List.all_eq_true.mp xi_I_0 w hm
  · exact List.all_eq_true.mp xi_I_1 w hm
  · exact List.all_eq_true.mp xi_I_2 w hm
  · exact List.all_eq_true.mp xi_I_3 w hm
  · exact List.all_eq_true.mp xi_I_4 w hm
  · exact List.all_eq_true.mp xi_I_5 w hm
  · exact List.all_eq_true.mp xi_I_6 w hm
  · exact List.all_eq_true.mp xi_I_7 w hm
  · exact List.all_eq_true.mp xi_I_8 w hm
  · exact List.all_eq_true.mp xi_I_9 w hm
  · exact List.all_eq_true.mp xi_I_10 w hm
  · exact List.all_eq_true.mp xi_I_11 w hm
  · exact List.all_eq_true.mp xi_I_12 w hm
  · exact List.all_eq_true.mp xi_I_13 w hm
  · exact List.all_eq_true.mp xi_I_14 w hm
  · exact List.all_eq_true.mp xi_I_15 w hm
  · exact List.all_eq_true.mp xi_I_16 w hm
  · exact List.all_eq_true.mp xi_I_17 w hm
  · exact List.all_eq_true.mp xi_I_18 w hm
  · exact List.all_eq_true.mp xi_I_19 w hm
set_option maxRecDepth 100000 in
theorem xi_X : xz_isO [] (xr_lp xr_K0 [] [] none xr_mt 18 (xr_R [] [] xr_no xr_mt 100000 18) xm_178 40 (xm_178.2.2.2.2.2.2.drop 32) (xi_l 20) [] (xi_WH (73 + 72 * 20)) true 0 0) none (xi_WH (73 + 72 * 20)) 0 0 = true := by decide +kernel
theorem xi_con {l : Launch} {ep : Nat → Int32} {ba : Nat} {D : va_G} {cy : Nat → ClassId} {sg : Nat → Nat} (hst : l.stackTraces = false) (hmt : ∀ M ∈ xr_mt, xr_Mok xr_mt M = true) : xr_Con l D ep ba sg cy xr_mt (18 + 1) 178 xi_as xi_WP true (.inl none, xi_WH (73 + 72 * 20), true, 0, 0) := by
  have hM : xr_mt[178]? = some xm_178 := by rfl
  have hok := hmt _ (List.mem_of_getElem? hM)
  refine xs_con hM hok rfl (by decide) (fun p e R s mm args below meth c B hRc hRs => ?_)
  have hD : xr_okD ep ba sg [] := fun d hd => by cases hd
  have hF : xr_okF ep ba sg [] := fun d hd => by cases hd
  have hcall : ∀ u as w b o, xr_R [] [] xr_no xr_mt 100000 18 u as w b = some o → xr_Con l D ep ba sg cy xr_mt 18 u as w b o := fun u as w b o ho => xr_R_ok (fun d u as w b o ho => by cases ho) hst hD hF hmt 100000 18 u as w b o ho
  have hpc : xr_pc (xm_178.2.2.2.2.2.2.drop 32) = 53 := rfl
  have nil : ∀ q ∈ ([] : List (Nat × Nat)), ep q.1 = ep q.2 := fun q hq => by cases hq
  have head : ∀ n w : Nat, w + n = 20 → xs_G p l e R s mm args below meth c D ba xm_178.2.2.1 (MQ below (xs_Q D ba ((none : Option Value).map (xr_v ep ba sg)) (xr_w ep ba sg cy 0 (xi_WH (73 + 72 * 20))) (xi_WH (73 + 72 * 20)).length true 0) args s 0 0 (fun q => ba ≤ q)) 0 0 53 (xr_lv ep ba sg (xi_l w)) (xr_w ep ba sg cy 0 (xi_WH (73 + 72 * w))) (xi_WH (73 + 72 * w)).length 0 0 := by
    intro n
    induction n with
    | zero =>
      intro w hw
      have hw : w = 20 := by omega
      subst hw
      have g := xs_fin (l := l) (e := e) (below := below) (ep := ep) (ep' := ep) hok B hD hF hcall hRc hRs nil xi_X
      rw [hpc] at g
      exact g
    | succ n ih =>
      intro w hw
      have g := xs_cut (l := l) (e := e) (below := below) (ep := ep) (ep' := ep) hok B hD hF hcall hRc hRs nil (ih (w + 1) (by omega)) (xi_I w (Nat.zero_le _) (by omega))
      rw [hpc] at g
      exact g
  exact xs_cut (l := l) (e := e) (below := below) (ep := ep) (ep' := ep) hok B hD hF hcall hRc hRs nil (head 20 0 rfl) xi_E
def xi_sm : Nat → Nat → List Value → List xr_C → Bool → Option xr_Out := xz_sm1 19 178 xi_as xi_WP (.inl none, xi_WH (73 + 72 * 20), true, 0, 0) xr_no
set_option maxRecDepth 100000 in
theorem xg_31_n : xt_go ((5, .retAddr 0, .int 63, .int (Int32.ofNat 31)) :: []) [] xi_sm xt_v7 = true := by decide +kernel
theorem xg_31 {p : Program} {l : Launch} {e : Env} {s : State} {m : MethodId} {below : List Frame} {meth : Method} {c : Code} {b : Nat} {xs : Nat → Int32} {D : va_G} {cy : Nat → ClassId} {sg : Nat → Nat} (h : xt_Ctx p l s m meth c b 7 xs D cy sg) (hk : xs 0 &&& 63 = Int32.ofNat 31) : xt_Goal p l e s m below meth c b :=
  xt_oneS h 31 hk rfl xt_sc7 [] (q := []) (fun d hd => by cases hd) rfl (xz_sm1_ok (xi_con h.1 h.2.2.2.2.2.2.2.1) (fun d u as w b o ho => by cases ho)) xg_31_n
