/-! the String constants at the law's entry -/
def xw_stb : List (Nat × Nat × List Int32) := [(94, 5, [108, 101, 97, 115, 116]), (109, 4, [115, 111, 105, 108]), (111, 4, [114, 101, 115, 116]), (113, 4, [115, 97, 109, 101]), (115, 4, [108, 111, 117, 100]), (117, 5, [112, 114, 105, 99, 101]), (119, 4, [110, 101, 97, 114]), (121, 4, [121, 101, 97, 114]), (123, 4, [104, 97, 105, 108]), (125, 5, [102, 105, 101, 108, 100]), (104, 4, [109, 111, 115, 116])]
def xw_pl : List Nat := [1031, 1036, 1037, 1038, 1039, 1040, 1041, 1042, 1043, 1044, 1045]
def xw_tm (i : Nat) : Term := .field (.string "NoiseFields$Law" i) "java/lang/String" "value" "[B"
def xw_need (q : Nat × Nat × List Int32) : List Cond := .exactly (.string "NoiseFields$Law" q.1) "java/lang/String" :: .eq (.field (.string "NoiseFields$Law" q.1) "java/lang/String" "coder" "B") (.int 0) :: .arrayOf (xw_tm q.1) .byte :: .eq (.length (xw_tm q.1)) (.int (Int32.ofNat q.2.1)) :: (List.range q.2.1).map (fun j => .eq (.elem (xw_tm q.1) (.int (Int32.ofNat j))) (.int (q.2.2.getD j 0)))
set_option maxRecDepth 100000 in
theorem xw_in : ((xw_stb.map xw_need).flatten.all (fun w => decide (w ∈ flatC (Jvm.Cond.and given_1 narrow_1)))) = true := by decide +kernel
def xw_okj (j : Nat) : Bool := match xr_sts[j]?, xw_stb[j]?, xw_pl[j]? with
  | some q, some r, some i => decide (r.1 = q.1) && (decide (r.2.1 = q.2.2) && (decide (q.2.2 < 2 ^ 31) && decide (lw_tbl[i]? = some (.stringRef "NoiseFields$Law" q.1 q.2.1))))
  | _, _, _ => false
set_option maxRecDepth 100000 in
theorem xw_okall : (List.range 11).all xw_okj = true := by decide +kernel
theorem xw_facts {args : Array Value} {s : State} (hs : ∀ w ∈ flatC (Jvm.Cond.and given_1 narrow_1), w.before args s = true) {q : Nat × Nat × List Int32} (hq : q ∈ xw_stb) : ∀ w ∈ xw_need q, w.before args s = true := by
  intro w hw
  refine hs w ?_
  have h := List.all_eq_true.mp xw_in w (List.mem_flatten.mpr ⟨xw_need q, List.mem_map.mpr ⟨q, hq, rfl⟩, hw⟩)
  exact of_decide_eq_true h
theorem xw_one {args : Array Value} {s : State} {A : Nat → Prop} (hs : ∀ w ∈ flatC (Jvm.Cond.and given_1 narrow_1), w.before args s = true) (hA : ∀ a : Nat, a < s.heap.size → ¬ A a) {q : Nat × Nat × List Int32} (hq : q ∈ xw_stb) (hn : q.2.1 < 2 ^ 31) : ∃ a : Nat, (Term.string "NoiseFields$Law" q.1).eval args s none [] s = some (.ref a) ∧ xw_S A a q.2.1 s := by
  have h := xw_facts hs hq
  refine xw_Sof hn (h _ (List.mem_cons_self)) (h _ (List.mem_cons_of_mem _ List.mem_cons_self)) (h _ (List.mem_cons_of_mem _ (List.mem_cons_of_mem _ List.mem_cons_self))) (h _ (List.mem_cons_of_mem _ (List.mem_cons_of_mem _ (List.mem_cons_of_mem _ List.mem_cons_self)))) (fun j hj => ⟨_, va_eqt (h (.eq (.elem (xw_tm q.1) (.int (Int32.ofNat j))) (.int (q.2.2.getD j 0))) (List.mem_cons_of_mem _ (List.mem_cons_of_mem _ (List.mem_cons_of_mem _ (List.mem_cons_of_mem _ (List.mem_map.mpr ⟨j, List.mem_range.mpr hj, rfl⟩))))))⟩) hA
theorem xw_world {b : Nat} {s : State} {A : Nat → Prop} (hts : ∀ w ∈ lw_tbl, w.before #[Value.ref b] s = true) (hs : ∀ w ∈ flatC (Jvm.Cond.and given_1 narrow_1), w.before #[Value.ref b] s = true) (hA : ∀ a : Nat, a < s.heap.size → ¬ A a) : ∃ ad : Nat → Nat, ∀ (j : Nat) (q : Nat × String × Nat), xr_sts[j]? = some q → vk_R "NoiseFields$Law" q.1 q.2.1 (ad j) s ∧ xw_S A (ad j) q.2.2 s := by
  have h0 : ∀ j : Nat, ∃ a : Nat, ∀ q : Nat × String × Nat, xr_sts[j]? = some q → vk_R "NoiseFields$Law" q.1 q.2.1 a s ∧ xw_S A a q.2.2 s := by
    intro j
    by_cases hj : j < 11
    · have h := List.all_eq_true.mp xw_okall j (List.mem_range.mpr hj)
      unfold xw_okj at h
      split at h
      · rename_i q r i e1 e2 e3
        simp only [Bool.and_eq_true, decide_eq_true_eq] at h
        obtain ⟨h1, h2, h3, h4⟩ := h
        obtain ⟨a, ha, hS⟩ := xw_one hs hA (List.mem_of_getElem? e2) (by rw [h2]; exact h3)
        refine ⟨a, fun q' hq' => ?_⟩
        cases Option.some.inj (e1.symm.trans hq')
        rw [h1] at ha
        rw [h2] at hS
        exact ⟨vk_R.of (hts _ (List.mem_of_getElem? h4)) ha, hS⟩
      · cases h
    · exact ⟨0, fun q hq => absurd (show j < 11 from (List.getElem?_eq_some_iff.mp hq).1) hj⟩
  obtain ⟨ad, had⟩ := Classical.axiomOfChoice h0
  exact ⟨ad, had⟩
