section XRS
variable {p : Program} {l : Launch} {e : Env} {R : Room} {s : State} {m : MethodId} {args : Array Value} {below : List Frame} {meth : Method} {c : Code} {H : Heap} {locs : List Loc} {cells slots : Nat} {Q : State → Prop}
variable {cc : ByteArray} {pc : Nat} {ls : Array Slot} {rest : List Value}
/-- the branch isn't taken: where it would go doesn't matter -/
theorem xr_skip_ifCond_eq (hx : p.tables.exec = Jvm.exec) (hb : c.code = cc) {x : Int32} {off : Int} (hdg : decode cc pc = .ok (.ifCond .eq off, 3)) (hc : ¬ x = 0) (k : W p l e R s m args below meth c H locs cells slots Q (F0 m (pc + 3) ls rest)) : W p l e R s m args below meth c H locs cells slots Q (F0 m pc ls (.int x :: rest)) := by
  intro T hT X
  obtain ⟨t, a, b⟩ := k T hT X
  refine ⟨t, ?_, b⟩
  jvm_step X.here [X.here.top, hx, hb, hdg, Op.ifCond.holds, Op.if_icmp.holds, hc]
  exact a
/-- the branch isn't taken: where it would go doesn't matter -/
theorem xr_skip_ifCond_ne (hx : p.tables.exec = Jvm.exec) (hb : c.code = cc) {x : Int32} {off : Int} (hdg : decode cc pc = .ok (.ifCond .ne off, 3)) (hc : x = 0) (k : W p l e R s m args below meth c H locs cells slots Q (F0 m (pc + 3) ls rest)) : W p l e R s m args below meth c H locs cells slots Q (F0 m pc ls (.int x :: rest)) := by
  intro T hT X
  obtain ⟨t, a, b⟩ := k T hT X
  refine ⟨t, ?_, b⟩
  jvm_step X.here [X.here.top, hx, hb, hdg, Op.ifCond.holds, Op.if_icmp.holds, hc]
  exact a
/-- the branch isn't taken: where it would go doesn't matter -/
theorem xr_skip_ifCond_lt (hx : p.tables.exec = Jvm.exec) (hb : c.code = cc) {x : Int32} {off : Int} (hdg : decode cc pc = .ok (.ifCond .lt off, 3)) (hc : ¬ x < 0) (k : W p l e R s m args below meth c H locs cells slots Q (F0 m (pc + 3) ls rest)) : W p l e R s m args below meth c H locs cells slots Q (F0 m pc ls (.int x :: rest)) := by
  intro T hT X
  obtain ⟨t, a, b⟩ := k T hT X
  refine ⟨t, ?_, b⟩
  jvm_step X.here [X.here.top, hx, hb, hdg, Op.ifCond.holds, Op.if_icmp.holds, hc]
  exact a
/-- the branch isn't taken: where it would go doesn't matter -/
theorem xr_skip_ifCond_ge (hx : p.tables.exec = Jvm.exec) (hb : c.code = cc) {x : Int32} {off : Int} (hdg : decode cc pc = .ok (.ifCond .ge off, 3)) (hc : ¬ 0 ≤ x) (k : W p l e R s m args below meth c H locs cells slots Q (F0 m (pc + 3) ls rest)) : W p l e R s m args below meth c H locs cells slots Q (F0 m pc ls (.int x :: rest)) := by
  intro T hT X
  obtain ⟨t, a, b⟩ := k T hT X
  refine ⟨t, ?_, b⟩
  jvm_step X.here [X.here.top, hx, hb, hdg, Op.ifCond.holds, Op.if_icmp.holds, hc]
  exact a
/-- the branch isn't taken: where it would go doesn't matter -/
theorem xr_skip_ifCond_gt (hx : p.tables.exec = Jvm.exec) (hb : c.code = cc) {x : Int32} {off : Int} (hdg : decode cc pc = .ok (.ifCond .gt off, 3)) (hc : ¬ 0 < x) (k : W p l e R s m args below meth c H locs cells slots Q (F0 m (pc + 3) ls rest)) : W p l e R s m args below meth c H locs cells slots Q (F0 m pc ls (.int x :: rest)) := by
  intro T hT X
  obtain ⟨t, a, b⟩ := k T hT X
  refine ⟨t, ?_, b⟩
  jvm_step X.here [X.here.top, hx, hb, hdg, Op.ifCond.holds, Op.if_icmp.holds, hc]
  exact a
/-- the branch isn't taken: where it would go doesn't matter -/
theorem xr_skip_ifCond_le (hx : p.tables.exec = Jvm.exec) (hb : c.code = cc) {x : Int32} {off : Int} (hdg : decode cc pc = .ok (.ifCond .le off, 3)) (hc : ¬ x ≤ 0) (k : W p l e R s m args below meth c H locs cells slots Q (F0 m (pc + 3) ls rest)) : W p l e R s m args below meth c H locs cells slots Q (F0 m pc ls (.int x :: rest)) := by
  intro T hT X
  obtain ⟨t, a, b⟩ := k T hT X
  refine ⟨t, ?_, b⟩
  jvm_step X.here [X.here.top, hx, hb, hdg, Op.ifCond.holds, Op.if_icmp.holds, hc]
  exact a
/-- the branch isn't taken: where it would go doesn't matter -/
theorem xr_skip_if_icmp_eq (hx : p.tables.exec = Jvm.exec) (hb : c.code = cc) {x y : Int32} {off : Int} (hdg : decode cc pc = .ok (.if_icmp .eq off, 3)) (hc : ¬ x = y) (k : W p l e R s m args below meth c H locs cells slots Q (F0 m (pc + 3) ls rest)) : W p l e R s m args below meth c H locs cells slots Q (F0 m pc ls (.int y :: .int x :: rest)) := by
  intro T hT X
  obtain ⟨t, a, b⟩ := k T hT X
  refine ⟨t, ?_, b⟩
  jvm_step X.here [X.here.top, hx, hb, hdg, Op.ifCond.holds, Op.if_icmp.holds, hc]
  exact a
/-- the branch isn't taken: where it would go doesn't matter -/
theorem xr_skip_if_icmp_ne (hx : p.tables.exec = Jvm.exec) (hb : c.code = cc) {x y : Int32} {off : Int} (hdg : decode cc pc = .ok (.if_icmp .ne off, 3)) (hc : x = y) (k : W p l e R s m args below meth c H locs cells slots Q (F0 m (pc + 3) ls rest)) : W p l e R s m args below meth c H locs cells slots Q (F0 m pc ls (.int y :: .int x :: rest)) := by
  intro T hT X
  obtain ⟨t, a, b⟩ := k T hT X
  refine ⟨t, ?_, b⟩
  jvm_step X.here [X.here.top, hx, hb, hdg, Op.ifCond.holds, Op.if_icmp.holds, hc]
  exact a
/-- the branch isn't taken: where it would go doesn't matter -/
theorem xr_skip_if_icmp_lt (hx : p.tables.exec = Jvm.exec) (hb : c.code = cc) {x y : Int32} {off : Int} (hdg : decode cc pc = .ok (.if_icmp .lt off, 3)) (hc : ¬ x < y) (k : W p l e R s m args below meth c H locs cells slots Q (F0 m (pc + 3) ls rest)) : W p l e R s m args below meth c H locs cells slots Q (F0 m pc ls (.int y :: .int x :: rest)) := by
  intro T hT X
  obtain ⟨t, a, b⟩ := k T hT X
  refine ⟨t, ?_, b⟩
  jvm_step X.here [X.here.top, hx, hb, hdg, Op.ifCond.holds, Op.if_icmp.holds, hc]
  exact a
/-- the branch isn't taken: where it would go doesn't matter -/
theorem xr_skip_if_icmp_ge (hx : p.tables.exec = Jvm.exec) (hb : c.code = cc) {x y : Int32} {off : Int} (hdg : decode cc pc = .ok (.if_icmp .ge off, 3)) (hc : ¬ y ≤ x) (k : W p l e R s m args below meth c H locs cells slots Q (F0 m (pc + 3) ls rest)) : W p l e R s m args below meth c H locs cells slots Q (F0 m pc ls (.int y :: .int x :: rest)) := by
  intro T hT X
  obtain ⟨t, a, b⟩ := k T hT X
  refine ⟨t, ?_, b⟩
  jvm_step X.here [X.here.top, hx, hb, hdg, Op.ifCond.holds, Op.if_icmp.holds, hc]
  exact a
/-- the branch isn't taken: where it would go doesn't matter -/
theorem xr_skip_if_icmp_gt (hx : p.tables.exec = Jvm.exec) (hb : c.code = cc) {x y : Int32} {off : Int} (hdg : decode cc pc = .ok (.if_icmp .gt off, 3)) (hc : ¬ y < x) (k : W p l e R s m args below meth c H locs cells slots Q (F0 m (pc + 3) ls rest)) : W p l e R s m args below meth c H locs cells slots Q (F0 m pc ls (.int y :: .int x :: rest)) := by
  intro T hT X
  obtain ⟨t, a, b⟩ := k T hT X
  refine ⟨t, ?_, b⟩
  jvm_step X.here [X.here.top, hx, hb, hdg, Op.ifCond.holds, Op.if_icmp.holds, hc]
  exact a
/-- the branch isn't taken: where it would go doesn't matter -/
theorem xr_skip_if_icmp_le (hx : p.tables.exec = Jvm.exec) (hb : c.code = cc) {x y : Int32} {off : Int} (hdg : decode cc pc = .ok (.if_icmp .le off, 3)) (hc : ¬ x ≤ y) (k : W p l e R s m args below meth c H locs cells slots Q (F0 m (pc + 3) ls rest)) : W p l e R s m args below meth c H locs cells slots Q (F0 m pc ls (.int y :: .int x :: rest)) := by
  intro T hT X
  obtain ⟨t, a, b⟩ := k T hT X
  refine ⟨t, ?_, b⟩
  jvm_step X.here [X.here.top, hx, hb, hdg, Op.ifCond.holds, Op.if_icmp.holds, hc]
  exact a
theorem xr_neg_ne {a b : Int32} (h : ¬ a = b) : ¬ a = b := h
theorem xr_pos_ne {a b : Int32} (h : a = b) : a = b := h
theorem xr_neg_ge {a b : Int32} (h : ¬ a < b) : b ≤ a := Int32.not_lt.mp h
theorem xr_pos_ge {a b : Int32} (h : a < b) : ¬ b ≤ a := Int32.not_le.mpr h
theorem xr_neg_le {a b : Int32} (h : ¬ a < b) : b ≤ a := Int32.not_lt.mp h
theorem xr_pos_le {a b : Int32} (h : a < b) : ¬ b ≤ a := Int32.not_le.mpr h
end XRS
/-! .. and what the real machine does at them -/
section XRQ
variable {p : Program} {l : Launch} {e : Env} {R : Room} {s : State} {m : MethodId} {args : Array Value} {below : List Frame} {meth : Method} {c : Code} {H : Heap} {locs : List Loc} {cells slots : Nat} {Q : State → Prop}
variable {cc : ByteArray} {ep : Nat → Int32} {ba : Nat} {sg : Nat → Nat} {ls : Array Slot} {nL : Nat}
theorem lg_cmp_same (x : Int64) : lg_cmp x x = 0 := by
  unfold lg_cmp
  rw [if_neg (show ¬ x > x from Int64.lt_irrefl), if_pos rfl]
theorem xr_loI {k : Nat} {r r' : List xr_En} {pc len : Nat} {lv l' : xr_L} {st st' : List Value} (h : xr_lo k r pc len lv st = some (r', l', st')) : ∃ y a v st0, st = y :: .long a :: st0 ∧ xr_ll k a y = some v ∧ len = 1 ∧ xr_pc r' = pc + 1 ∧ lv = l' ∧ .long v :: st0 = st' := by
  unfold xr_lo at h
  split at h
  · rename_i y a st1
    cases hb : xr_ll k a y with
    | none => rw [hb] at h; cases h
    | some v =>
      rw [hb] at h
      obtain ⟨h1, h2, h3, h4, -⟩ := xr_seq_ok h
      exact ⟨y, a, v, st1, rfl, hb, h1, h2, h3, h4⟩
  · cases h
theorem xr_llI {k : Nat} {a v : Int64} {y : Value} (h : xr_ll k a y = some v) : (k = 0 ∧ ∃ b, y = .long b ∧ a &&& b = v) ∨ (k = 1 ∧ ∃ b, y = .long b ∧ a ||| b = v) ∨ (k = 2 ∧ ∃ b, y = .int b ∧ a <<< (b.toInt64 &&& 63) = v) ∨ (k = 3 ∧ ∃ b, y = .int b ∧ a >>> (b.toInt64 &&& 63) = v) := by
  unfold xr_ll at h
  split at h
  · exact Or.inl ⟨rfl, _, rfl, Option.some.inj h⟩
  · exact Or.inr (Or.inl ⟨rfl, _, rfl, Option.some.inj h⟩)
  · exact Or.inr (Or.inr (Or.inl ⟨rfl, _, rfl, Option.some.inj h⟩))
  · exact Or.inr (Or.inr (Or.inr ⟨rfl, _, rfl, Option.some.inj h⟩))
  · cases h
set_option maxHeartbeats 4000000 in
set_option maxRecDepth 100000 in
theorem xr_pure_ok {df : xr_D} {fx : xr_F} (hD : xr_okD ep ba sg df) (hF : xr_okF ep ba sg fx) {tab r r' : List xr_En} {pc len : Nat} {aux : List Nat} {lv l' : xr_L} {st st' : List Value} {i : Instr} (h : xr_pure df fx nL tab r pc len aux lv st i = some (r', l', st')) (hx : p.tables.exec = Jvm.exec) (hb : c.code = cc) (hd : decode cc pc = .ok (i, len)) (hl : lv_has ls nL (xr_lv ep ba sg lv))
    (k : xr_K p l e R s m args below meth c H locs cells slots Q ep ba sg nL r' l' st') : W p l e R s m args below meth c H locs cells slots Q (F0 m pc ls (xr_sv ep ba sg st)) := by
  cases i
  case iconst n =>
    obtain ⟨rfl, hpc, rfl, rfl, -⟩ := xr_seq_ok h
    have k := k ls hl
    rw [hpc] at k
    exact lv_iconst hx hb hd rfl k
  case bipush n =>
    obtain ⟨rfl, hpc, rfl, rfl, -⟩ := xr_seq_ok h
    have k := k ls hl
    rw [hpc] at k
    exact lv_bipush hx hb hd rfl k
  case sipush n =>
    obtain ⟨rfl, hpc, rfl, rfl, -⟩ := xr_seq_ok h
    have k := k ls hl
    rw [hpc] at k
    exact lv_sipush hx hb hd rfl k
  case lconst n =>
    obtain ⟨rfl, hpc, rfl, rfl, -⟩ := xr_seq_ok h
    have k := k ls hl
    rw [hpc] at k
    exact lv_lconst hx hb hd rfl k
  case aconst_null  =>
    obtain ⟨rfl, hpc, rfl, rfl, -⟩ := xr_seq_ok h
    have k := k ls hl
    rw [hpc] at k
    exact lv_null hx hb hd k
  case iload_n i =>
    obtain ⟨v, hv, hg, rfl, hpc, rfl, rfl⟩ := xr_ldI h hl
    have k := k ls hl
    rw [hpc] at k
    obtain ⟨x, ex⟩ := xr_isI_ok (ep := ep) (ba := ba) (sg := sg) hv
    rw [ex] at hg
    simp only [xr_sv, List.map_cons, ex] at k
    exact lv_iload_n hx hb hd rfl hg k
  case iload i =>
    obtain ⟨v, hv, hg, rfl, hpc, rfl, rfl⟩ := xr_ldI h hl
    have k := k ls hl
    rw [hpc] at k
    obtain ⟨x, ex⟩ := xr_isI_ok (ep := ep) (ba := ba) (sg := sg) hv
    rw [ex] at hg
    simp only [xr_sv, List.map_cons, ex] at k
    exact lv_iload hx hb hd hg k
  case lload_n i =>
    obtain ⟨v, hv, hg, rfl, hpc, rfl, rfl⟩ := xr_ldI h hl
    have k := k ls hl
    rw [hpc] at k
    obtain ⟨x, ex⟩ := xr_isL_ok (ep := ep) (ba := ba) (sg := sg) hv
    rw [ex] at hg
    simp only [xr_sv, List.map_cons, ex] at k
    exact lv_lload_n hx hb hd rfl hg k
  case lload i =>
    obtain ⟨v, hv, hg, rfl, hpc, rfl, rfl⟩ := xr_ldI h hl
    have k := k ls hl
    rw [hpc] at k
    obtain ⟨x, ex⟩ := xr_isL_ok (ep := ep) (ba := ba) (sg := sg) hv
    rw [ex] at hg
    simp only [xr_sv, List.map_cons, ex] at k
    exact lv_lload hx hb hd hg k
  case aload_n i =>
    obtain ⟨v, hv, hg, rfl, hpc, rfl, rfl⟩ := xr_ldI h hl
    have k := k ls hl
    rw [hpc] at k
    rcases xr_isB_ok (ep := ep) (ba := ba) (sg := sg) hv with ⟨x, ex⟩ | ex
    · rw [ex] at hg
      simp only [xr_sv, List.map_cons, ex] at k
      exact lv_aload_n hx hb hd rfl hg k
    · rw [ex] at hg
      simp only [xr_sv, List.map_cons, ex] at k
      exact lv_aload_nN hx hb hd rfl hg k
  case aload i =>
    obtain ⟨v, hv, hg, rfl, hpc, rfl, rfl⟩ := xr_ldI h hl
    have k := k ls hl
    rw [hpc] at k
    rcases xr_isB_ok (ep := ep) (ba := ba) (sg := sg) hv with ⟨x, ex⟩ | ex
    · rw [ex] at hg
      simp only [xr_sv, List.map_cons, ex] at k
      exact lv_aload hx hb hd hg k
    · rw [ex] at hg
      simp only [xr_sv, List.map_cons, ex] at k
      exact lv_aloadN hx hb hd hg k
  case istore_n i =>
    obtain ⟨v, st0, rfl, hv, hi, rfl, hpc, rfl, rfl⟩ := xr_stI h
    obtain ⟨x, ex⟩ := xr_isI_ok (ep := ep) (ba := ba) (sg := sg) hv
    have hs := xr_s1_ok ep ba sg lv i.val v
    rw [ex] at hs
    simp only [xr_sv, List.map_cons, ex]
    refine lv_istore_n hx hb hd rfl hl hi hs (fun ls' hl' => ?_)
    have k := k ls' hl'
    rw [hpc] at k
    exact k
  case istore i =>
    obtain ⟨v, st0, rfl, hv, hi, rfl, hpc, rfl, rfl⟩ := xr_stI h
    obtain ⟨x, ex⟩ := xr_isI_ok (ep := ep) (ba := ba) (sg := sg) hv
    have hs := xr_s1_ok ep ba sg lv i v
    rw [ex] at hs
    simp only [xr_sv, List.map_cons, ex]
    refine lv_istore hx hb hd hl hi hs (fun ls' hl' => ?_)
    have k := k ls' hl'
    rw [hpc] at k
    exact k
  case astore_n i =>
    obtain ⟨v, st0, rfl, hv, hi, rfl, hpc, rfl, rfl⟩ := xr_stI h
    obtain ⟨x, ex⟩ := xr_isA_ok (ep := ep) (ba := ba) (sg := sg) hv
    have hs := xr_s1_ok ep ba sg lv i.val v
    rw [ex] at hs
    simp only [xr_sv, List.map_cons, ex]
    refine lv_astore_n hx hb hd rfl hl hi hs (fun ls' hl' => ?_)
    have k := k ls' hl'
    rw [hpc] at k
    exact k
  case astore i =>
    obtain ⟨v, st0, rfl, hv, hi, rfl, hpc, rfl, rfl⟩ := xr_stI h
    obtain ⟨x, ex⟩ := xr_isA_ok (ep := ep) (ba := ba) (sg := sg) hv
    have hs := xr_s1_ok ep ba sg lv i v
    rw [ex] at hs
    simp only [xr_sv, List.map_cons, ex]
    refine lv_astore hx hb hd hl hi hs (fun ls' hl' => ?_)
    have k := k ls' hl'
    rw [hpc] at k
    exact k
  case lstore_n i =>
    obtain ⟨v, st0, rfl, hv, hi, rfl, hpc, rfl, rfl⟩ := xr_slI h
    obtain ⟨x, ex⟩ := xr_isL_ok (ep := ep) (ba := ba) (sg := sg) hv
    have hs := xr_s2_ok ep ba sg lv i.val v
    rw [ex] at hs
    simp only [xr_sv, List.map_cons, ex]
    refine lv_lstore_n hx hb hd rfl hl hi hs (fun ls' hl' => ?_)
    have k := k ls' hl'
    rw [hpc] at k
    exact k
  case lstore i =>
    obtain ⟨v, st0, rfl, hv, hi, rfl, hpc, rfl, rfl⟩ := xr_slI h
    obtain ⟨x, ex⟩ := xr_isL_ok (ep := ep) (ba := ba) (sg := sg) hv
    have hs := xr_s2_ok ep ba sg lv i v
    rw [ex] at hs
    simp only [xr_sv, List.map_cons, ex]
    refine lv_lstore hx hb hd hl hi hs (fun ls' hl' => ?_)
    have k := k ls' hl'
    rw [hpc] at k
    exact k
  case iinc i n =>
    simp only [xr_pure] at h
    cases hg : xr_get lv i with
    | none => rw [hg] at h; cases h
    | some x =>
      rw [hg] at h
      simp only at h
      cases hn : xr_bin df 0 x (.int (Int32.ofInt n)) with
      | none => rw [hn] at h; cases h
      | some v =>
        rw [hn] at h
        simp only at h
        cases hi : Nat.blt i nL with
        | false => rw [hi] at h; cases h
        | true =>
          rw [hi] at h
          obtain ⟨rfl, hpc, rfl, rfl, -⟩ := xr_seq_ok h
          obtain ⟨a, b, e1, e2, e3⟩ := xr_bin_ok hD hn
          cases e2
          obtain ⟨q, hq⟩ := List.getElem?_of_mem (show (i, xr_v ep ba sg x) ∈ xr_lv ep ba sg lv from List.mem_map.mpr ⟨(i, x), xr_get_mem hg, rfl⟩)
          rw [e1] at hq
          have hs := xr_s1_ok ep ba sg lv i v
          rw [e3] at hs
          refine lv_iinc (k := q) hx hb hd hl hq rfl (Nat.le_of_ble_eq_true hi) hs (fun ls' hl' => ?_)
          have k := k ls' hl'
          rw [hpc] at k
          exact k
  case iadd  =>
    obtain ⟨a, b, st0, e1, rfl, hpc, rfl, e2⟩ := xr_arI hD h
    have k := k ls hl
    rw [hpc, e2] at k
    rw [e1]
    exact lv_iadd hx hb hd k
  case isub  =>
    obtain ⟨a, b, st0, e1, rfl, hpc, rfl, e2⟩ := xr_arI hD h
    have k := k ls hl
    rw [hpc, e2] at k
    rw [e1]
    exact lv_isub hx hb hd k
  case imul  =>
    obtain ⟨a, b, st0, e1, rfl, hpc, rfl, e2⟩ := xr_arI hD h
    have k := k ls hl
    rw [hpc, e2] at k
    rw [e1]
    exact lv_imul hx hb hd k
  case iand  =>
    obtain ⟨a, b, st0, e1, rfl, hpc, rfl, e2⟩ := xr_arI hD h
    have k := k ls hl
    rw [hpc, e2] at k
    rw [e1]
    exact lv_iand hx hb hd k
  case ior  =>
    obtain ⟨a, b, st0, e1, rfl, hpc, rfl, e2⟩ := xr_arI hD h
    have k := k ls hl
    rw [hpc, e2] at k
    rw [e1]
    exact lv_ior hx hb hd k
  case ixor  =>
    obtain ⟨a, b, st0, e1, rfl, hpc, rfl, e2⟩ := xr_arI hD h
    have k := k ls hl
    rw [hpc, e2] at k
    rw [e1]
    exact lv_ixor hx hb hd k
  case ishl  =>
    obtain ⟨a, b, st0, e1, rfl, hpc, rfl, e2⟩ := xr_arI hD h
    have k := k ls hl
    rw [hpc, e2] at k
    rw [e1]
    exact lv_ishl hx hb hd k
  case ishr  =>
    obtain ⟨a, b, st0, e1, rfl, hpc, rfl, e2⟩ := xr_arI hD h
    have k := k ls hl
    rw [hpc, e2] at k
    rw [e1]
    exact lv_ishr hx hb hd k
  case iushr  =>
    obtain ⟨a, b, st0, e1, rfl, hpc, rfl, e2⟩ := xr_arI hD h
    have k := k ls hl
    rw [hpc, e2] at k
    rw [e1]
    exact lv_iushr hx hb hd rfl k
  case idiv  =>
    obtain ⟨a, b, st0, e1, h0, rfl, hpc, rfl, e2⟩ := xr_dvI hD h
    have k := k ls hl
    rw [hpc, e2] at k
    rw [e1]
    exact lv_idiv hx hb hd h0 k
  case irem  =>
    obtain ⟨a, b, st0, e1, h0, rfl, hpc, rfl, e2⟩ := xr_dvI hD h
    have k := k ls hl
    rw [hpc, e2] at k
    rw [e1]
    exact lv_irem hx hb hd h0 k
  case i2b  =>
    obtain ⟨a, st0, e1, rfl, hpc, rfl, e2⟩ := xr_unI hD h
    have k := k ls hl
    rw [hpc, e2] at k
    rw [e1]
    exact lv_i2b hx hb hd rfl k
  case ineg  =>
    obtain ⟨a, st0, e1, rfl, hpc, rfl, e2⟩ := xr_unI hD h
    have k := k ls hl
    rw [hpc, e2] at k
    rw [e1]
    exact lv_ineg hx hb hd k
  case i2c  =>
    obtain ⟨a, st0, e1, rfl, hpc, rfl, e2⟩ := xr_unI hD h
    have k := k ls hl
    rw [hpc, e2] at k
    rw [e1]
    exact lv_i2c hx hb hd rfl k
  case land  =>
    obtain ⟨y, a, v, st0, rfl, hv, rfl, hpc, rfl, rfl⟩ := xr_loI h
    have k := k ls hl
    rw [hpc] at k
    rcases xr_llI hv with ⟨h0, b, rfl, rfl⟩ | ⟨h0, b, rfl, rfl⟩ | ⟨h0, b, rfl, rfl⟩ | ⟨h0, b, rfl, rfl⟩
    · exact lv_land hx hb hd k
    · exact absurd h0 (by decide)
    · exact absurd h0 (by decide)
    · exact absurd h0 (by decide)
  case lor  =>
    obtain ⟨y, a, v, st0, rfl, hv, rfl, hpc, rfl, rfl⟩ := xr_loI h
    have k := k ls hl
    rw [hpc] at k
    rcases xr_llI hv with ⟨h0, b, rfl, rfl⟩ | ⟨h0, b, rfl, rfl⟩ | ⟨h0, b, rfl, rfl⟩ | ⟨h0, b, rfl, rfl⟩
    · exact absurd h0 (by decide)
    · exact lv_lor hx hb hd k
    · exact absurd h0 (by decide)
    · exact absurd h0 (by decide)
  case lshl  =>
    obtain ⟨y, a, v, st0, rfl, hv, rfl, hpc, rfl, rfl⟩ := xr_loI h
    have k := k ls hl
    rw [hpc] at k
    rcases xr_llI hv with ⟨h0, b, rfl, rfl⟩ | ⟨h0, b, rfl, rfl⟩ | ⟨h0, b, rfl, rfl⟩ | ⟨h0, b, rfl, rfl⟩
    · exact absurd h0 (by decide)
    · exact absurd h0 (by decide)
    · exact lv_lshl hx hb hd rfl k
    · exact absurd h0 (by decide)
  case lshr  =>
    obtain ⟨y, a, v, st0, rfl, hv, rfl, hpc, rfl, rfl⟩ := xr_loI h
    have k := k ls hl
    rw [hpc] at k
    rcases xr_llI hv with ⟨h0, b, rfl, rfl⟩ | ⟨h0, b, rfl, rfl⟩ | ⟨h0, b, rfl, rfl⟩ | ⟨h0, b, rfl, rfl⟩
    · exact absurd h0 (by decide)
    · exact absurd h0 (by decide)
    · exact absurd h0 (by decide)
    · exact lv_lshr hx hb hd rfl k
  case i2l  =>
    simp only [xr_pure] at h
    cases hs : xr_i2l st with
    | none => rw [hs] at h; cases h
    | some st1 =>
      rw [hs] at h
      obtain ⟨rfl, hpc, rfl, rfl, -⟩ := xr_seq_ok h
      have k := k ls hl
      rw [hpc] at k
      unfold xr_i2l at hs
      split at hs
      · cases hs
        exact lv_i2l hx hb hd rfl k
      · rename_i n st2
        cases hn : Nat.blt n 1000 with
        | false => rw [hn] at hs; cases hs
        | true =>
          rw [hn] at hs
          cases hs
          have hlt : n < 1000 := Nat.le_of_ble_eq_true hn
          refine lv_i2l hx hb hd (v := (ep n).toInt64) rfl ?_
          have e9 : xr_v ep ba sg (.double (UInt64.ofNat n)) = .long (ep n).toInt64 := by
            simp only [xr_v]
            rw [show (UInt64.ofNat n).toNat = n by simp [UInt64.toNat_ofNat]; omega]
          simp only [xr_sv, List.map_cons, e9] at k
          exact k
      · cases hs
  case lcmp  =>
    simp only [xr_pure] at h
    cases hs : xr_lcm st with
    | none => rw [hs] at h; cases h
    | some q =>
      rw [hs] at h
      obtain ⟨rfl, hpc, rfl, rfl, -⟩ := xr_seq_ok h
      have k := k ls hl
      rw [hpc] at k
      unfold xr_lcm at hs
      split at hs
      · cases hs
        exact W.lcmp hx hb hd k
      · rename_i u v st2
        cases hn : decide (u = v) with
        | false => rw [hn] at hs; cases hs
        | true =>
          rw [hn] at hs
          cases hs
          have he := of_decide_eq_true hn
          subst he
          refine W.lcmp hx hb hd ?_
          rw [lg_cmp_same]
          exact k
      · cases hs
  case dup  =>
    simp only [xr_pure] at h
    cases st with
    | nil => cases h
    | cons a st1 =>
      simp only at h
      cases hc : Nat.beq a.category 1 with
      | false => rw [hc] at h; cases h
      | true =>
        rw [hc] at h
        obtain ⟨rfl, hpc, rfl, rfl, -⟩ := xr_seq_ok h
        have k := k ls hl
        rw [hpc] at k
        exact lv_dup hx hb hd (by rw [xr_cat]; exact Nat.eq_of_beq_eq_true hc) k
  case pop  =>
    simp only [xr_pure] at h
    cases st with
    | nil => cases h
    | cons a st1 =>
      simp only at h
      cases hc : Nat.beq a.category 1 with
      | false => rw [hc] at h; cases h
      | true =>
        rw [hc] at h
        obtain ⟨rfl, hpc, rfl, rfl, -⟩ := xr_seq_ok h
        have k := k ls hl
        rw [hpc] at k
        exact lv_pop hx hb hd (by rw [xr_cat]; exact Nat.eq_of_beq_eq_true hc) k
  case dup2  =>
    simp only [xr_pure] at h
    cases hs : xr_du2 st with
    | none => rw [hs] at h; cases h
    | some st1 =>
      rw [hs] at h
      obtain ⟨rfl, hpc, rfl, rfl, -⟩ := xr_seq_ok h
      have k := k ls hl
      rw [hpc] at k
      unfold xr_du2 at hs
      split at hs
      · rename_i a b st2
        cases hc : (Nat.beq a.category 1 && Nat.beq b.category 1) with
        | false => rw [hc] at hs; cases hs
        | true =>
          rw [hc] at hs
          cases hs
          simp only [Bool.and_eq_true] at hc
          exact lv_dup2_11 hx hb hd (by rw [xr_cat]; exact Nat.eq_of_beq_eq_true hc.1) (by rw [xr_cat]; exact Nat.eq_of_beq_eq_true hc.2) k
      · cases hs
  case goto off =>
    obtain ⟨rfl, hpc, rfl, rfl, -⟩ := xr_to_ok h
    exact lv_goto hx hb hd hpc (k ls hl)
  case ifCond cnd off =>
    simp only [xr_pure] at h
    cases st with
    | nil => cases h
    | cons x st1 =>
      simp only at h
      obtain ⟨t, ht, rfl, rfl, rfl, hT, hN⟩ := xr_brI h
      have k := k ls hl
      cases cnd with
      | eq =>
        simp only [xr_test] at ht
        obtain ⟨a, b, e1, e2, e3⟩ := xr_c_ok hF ht
        cases e2
        simp only [xr_sv, List.map_cons, e1]
        simp only [xr_cm] at e3
        cases t with
        | true =>
          refine lv_if_eq hx hb hd (hT rfl) (fun _ => k) (fun hc => absurd (of_decide_eq_true e3.symm) hc)
        | false =>
          have hz := hN rfl
          rw [hz] at k
          exact xr_skip_ifCond_eq hx hb hd (of_decide_eq_false e3.symm) k
      | ne =>
        simp only [xr_test, Option.map_eq_some_iff] at ht
        obtain ⟨t0, ht, et⟩ := ht
        obtain ⟨a, b, e1, e2, e3⟩ := xr_c_ok hF ht
        cases e2
        simp only [xr_sv, List.map_cons, e1]
        simp only [xr_cm] at e3
        cases t with
        | true =>
          have e0 : t0 = false := by cases t0 <;> simp_all
          rw [e0] at e3
          exact lv_if_ne hx hb hd (hT rfl) (fun _ => k) (fun hc => absurd hc (xr_neg_ne (of_decide_eq_false e3.symm)))
        | false =>
          have e0 : t0 = true := by cases t0 <;> simp_all
          rw [e0] at e3
          have hz := hN rfl
          rw [hz] at k
          exact xr_skip_ifCond_ne hx hb hd (xr_pos_ne (of_decide_eq_true e3.symm)) k
      | lt =>
        simp only [xr_test] at ht
        obtain ⟨a, b, e1, e2, e3⟩ := xr_c_ok hF ht
        cases e2
        simp only [xr_sv, List.map_cons, e1]
        simp only [xr_cm] at e3
        cases t with
        | true =>
          refine lv_if_lt hx hb hd (hT rfl) (fun _ => k) (fun hc => absurd (of_decide_eq_true e3.symm) hc)
        | false =>
          have hz := hN rfl
          rw [hz] at k
          exact xr_skip_ifCond_lt hx hb hd (of_decide_eq_false e3.symm) k
      | ge =>
        simp only [xr_test, Option.map_eq_some_iff] at ht
        obtain ⟨t0, ht, et⟩ := ht
        obtain ⟨a, b, e1, e2, e3⟩ := xr_c_ok hF ht
        cases e2
        simp only [xr_sv, List.map_cons, e1]
        simp only [xr_cm] at e3
        cases t with
        | true =>
          have e0 : t0 = false := by cases t0 <;> simp_all
          rw [e0] at e3
          exact lv_if_ge hx hb hd (hT rfl) (fun _ => k) (fun hc => absurd (xr_neg_ge (of_decide_eq_false e3.symm)) hc)
        | false =>
          have e0 : t0 = true := by cases t0 <;> simp_all
          rw [e0] at e3
          have hz := hN rfl
          rw [hz] at k
          exact xr_skip_ifCond_ge hx hb hd (xr_pos_ge (of_decide_eq_true e3.symm)) k
      | gt =>
        simp only [xr_test] at ht
        obtain ⟨a, b, e1, e2, e3⟩ := xr_c_ok hF ht
        cases e1
        simp only [xr_sv, List.map_cons, e2]
        simp only [xr_cm] at e3
        cases t with
        | true =>
          refine lv_if_gt hx hb hd (hT rfl) (fun _ => k) (fun hc => absurd (of_decide_eq_true e3.symm) hc)
        | false =>
          have hz := hN rfl
          rw [hz] at k
          exact xr_skip_ifCond_gt hx hb hd (of_decide_eq_false e3.symm) k
      | le =>
        simp only [xr_test, Option.map_eq_some_iff] at ht
        obtain ⟨t0, ht, et⟩ := ht
        obtain ⟨a, b, e1, e2, e3⟩ := xr_c_ok hF ht
        cases e1
        simp only [xr_sv, List.map_cons, e2]
        simp only [xr_cm] at e3
        cases t with
        | true =>
          have e0 : t0 = false := by cases t0 <;> simp_all
          rw [e0] at e3
          exact lv_if_le hx hb hd (hT rfl) (fun _ => k) (fun hc => absurd (xr_neg_le (of_decide_eq_false e3.symm)) hc)
        | false =>
          have e0 : t0 = true := by cases t0 <;> simp_all
          rw [e0] at e3
          have hz := hN rfl
          rw [hz] at k
          exact xr_skip_ifCond_le hx hb hd (xr_pos_le (of_decide_eq_true e3.symm)) k
  case if_icmp cnd off =>
    simp only [xr_pure] at h
    split at h
    · rename_i y x st1
      obtain ⟨t, ht, rfl, rfl, rfl, hT, hN⟩ := xr_brI h
      have k := k ls hl
      cases cnd with
      | eq =>
        simp only [xr_test] at ht
        obtain ⟨a, b, e1, e2, e3⟩ := xr_c_ok hF ht
        simp only [xr_sv, List.map_cons, e1, e2]
        simp only [xr_cm] at e3
        cases t with
        | true =>
          refine lv_icmp_eq hx hb hd (hT rfl) (fun _ => k) (fun hc => absurd (of_decide_eq_true e3.symm) hc)
        | false =>
          have hz := hN rfl
          rw [hz] at k
          exact xr_skip_if_icmp_eq hx hb hd (of_decide_eq_false e3.symm) k
      | ne =>
        simp only [xr_test, Option.map_eq_some_iff] at ht
        obtain ⟨t0, ht, et⟩ := ht
        obtain ⟨a, b, e1, e2, e3⟩ := xr_c_ok hF ht
        simp only [xr_sv, List.map_cons, e1, e2]
        simp only [xr_cm] at e3
        cases t with
        | true =>
          have e0 : t0 = false := by cases t0 <;> simp_all
          rw [e0] at e3
          exact lv_icmp_ne hx hb hd (hT rfl) (fun _ => k) (fun hc => absurd hc (xr_neg_ne (of_decide_eq_false e3.symm)))
        | false =>
          have e0 : t0 = true := by cases t0 <;> simp_all
          rw [e0] at e3
          have hz := hN rfl
          rw [hz] at k
          exact xr_skip_if_icmp_ne hx hb hd (xr_pos_ne (of_decide_eq_true e3.symm)) k
      | lt =>
        simp only [xr_test] at ht
        obtain ⟨a, b, e1, e2, e3⟩ := xr_c_ok hF ht
        simp only [xr_sv, List.map_cons, e1, e2]
        simp only [xr_cm] at e3
        cases t with
        | true =>
          refine lv_icmp_lt hx hb hd (hT rfl) (fun _ => k) (fun hc => absurd (of_decide_eq_true e3.symm) hc)
        | false =>
          have hz := hN rfl
          rw [hz] at k
          exact xr_skip_if_icmp_lt hx hb hd (of_decide_eq_false e3.symm) k
      | ge =>
        simp only [xr_test, Option.map_eq_some_iff] at ht
        obtain ⟨t0, ht, et⟩ := ht
        obtain ⟨a, b, e1, e2, e3⟩ := xr_c_ok hF ht
        simp only [xr_sv, List.map_cons, e1, e2]
        simp only [xr_cm] at e3
        cases t with
        | true =>
          have e0 : t0 = false := by cases t0 <;> simp_all
          rw [e0] at e3
          exact lv_icmp_ge hx hb hd (hT rfl) (fun _ => k) (fun hc => absurd (xr_neg_ge (of_decide_eq_false e3.symm)) hc)
        | false =>
          have e0 : t0 = true := by cases t0 <;> simp_all
          rw [e0] at e3
          have hz := hN rfl
          rw [hz] at k
          exact xr_skip_if_icmp_ge hx hb hd (xr_pos_ge (of_decide_eq_true e3.symm)) k
      | gt =>
        simp only [xr_test] at ht
        obtain ⟨a, b, e1, e2, e3⟩ := xr_c_ok hF ht
        simp only [xr_sv, List.map_cons, e1, e2]
        simp only [xr_cm] at e3
        cases t with
        | true =>
          refine lv_icmp_gt hx hb hd (hT rfl) (fun _ => k) (fun hc => absurd (of_decide_eq_true e3.symm) hc)
        | false =>
          have hz := hN rfl
          rw [hz] at k
          exact xr_skip_if_icmp_gt hx hb hd (of_decide_eq_false e3.symm) k
      | le =>
        simp only [xr_test, Option.map_eq_some_iff] at ht
        obtain ⟨t0, ht, et⟩ := ht
        obtain ⟨a, b, e1, e2, e3⟩ := xr_c_ok hF ht
        simp only [xr_sv, List.map_cons, e1, e2]
        simp only [xr_cm] at e3
        cases t with
        | true =>
          have e0 : t0 = false := by cases t0 <;> simp_all
          rw [e0] at e3
          exact lv_icmp_le hx hb hd (hT rfl) (fun _ => k) (fun hc => absurd (xr_neg_le (of_decide_eq_false e3.symm)) hc)
        | false =>
          have e0 : t0 = true := by cases t0 <;> simp_all
          rw [e0] at e3
          have hz := hN rfl
          rw [hz] at k
          exact xr_skip_if_icmp_le hx hb hd (xr_pos_le (of_decide_eq_true e3.symm)) k
    · cases h
  case ifnonnull off =>
    simp only [xr_pure] at h
    split at h
    · obtain ⟨rfl, hpc, rfl, rfl, -⟩ := xr_to_ok h
      exact lv_ifnonnull hx hb hd hpc (k ls hl)
    · obtain ⟨rfl, hpc, rfl, rfl, -⟩ := xr_seq_ok h
      have k := k ls hl
      rw [hpc] at k
      exact lv_ifnonnullN hx hb hd k
    · cases h
  case ifnull off =>
    simp only [xr_pure] at h
    split at h
    · obtain ⟨rfl, hpc, rfl, rfl, -⟩ := xr_seq_ok h
      have k := k ls hl
      rw [hpc] at k
      exact lv_ifnull hx hb hd k
    · obtain ⟨rfl, hpc, rfl, rfl, -⟩ := xr_to_ok h
      exact lv_ifnullN hx hb hd hpc (k ls hl)
    · cases h
  case tableswitch dflt lo hi offs =>
    simp only [xr_pure] at h
    unfold xr_sw at h
    split at h
    · rename_i x st1
      cases hc : (decide (x.toInt < lo) || decide (hi < x.toInt)) with
      | true =>
        rw [hc] at h
        obtain ⟨-, hpc, rfl, rfl, -⟩ := xr_to_ok h
        simp only [Bool.or_eq_true, decide_eq_true_eq] at hc
        exact lv_tableOut hx hb hd hc hpc (k ls hl)
      | false =>
        rw [hc] at h
        simp only [cond_false] at h
        simp only [Bool.or_eq_false_iff, decide_eq_false_iff_not] at hc
        cases ho : offs[(x.toInt - lo).toNat]? with
        | none => rw [ho] at h; cases h
        | some off =>
          rw [ho] at h
          obtain ⟨-, hpc, rfl, rfl, -⟩ := xr_to_ok h
          exact lv_tableIn hx hb hd hc.1 hc.2 ho hpc (k ls hl)
    · rename_i n st1
      cases hg : (decide ((Int32.ofInt lo).toInt = lo) && decide ((Int32.ofInt hi).toInt = hi)) with
      | false => rw [hg] at h; cases h
      | true =>
        rw [hg] at h
        simp only [cond_true] at h
        simp only [Bool.and_eq_true, decide_eq_true_eq] at hg
        split at h
        · rename_i hf
          obtain ⟨a, b, e1, e2, e3⟩ := xr_fx_ok hF hf
          obtain ⟨-, hpc, rfl, rfl, -⟩ := xr_to_ok h
          cases e1
          cases e2
          have hlt := Int32.lt_iff_toInt_lt.mp (of_decide_eq_true (show decide (ep n < Int32.ofInt lo) = true from e3.symm))
          exact lv_tableOut hx hb hd (Or.inl (by rw [hg.1] at hlt; exact hlt)) hpc (k ls hl)
        · split at h
          · rename_i hf
            obtain ⟨a, b, e1, e2, e3⟩ := xr_fx_ok hF hf
            obtain ⟨-, hpc, rfl, rfl, -⟩ := xr_to_ok h
            cases e1
            cases e2
            have hlt := Int32.lt_iff_toInt_lt.mp (of_decide_eq_true (show decide (Int32.ofInt hi < ep n) = true from e3.symm))
            exact lv_tableOut hx hb hd (Or.inr (by rw [hg.2] at hlt; exact hlt)) hpc (k ls hl)
          · cases h
    · cases h
  case lookupswitch dflt ps =>
    simp only [xr_pure] at h
    unfold xr_lk at h
    split at h
    · rename_i x st1
      cases hc : (ps.toList.zip (ps.toList.drop 1)).all (fun (a, next) => a.1 < next.1) with
      | false => rw [hc] at h; cases h
      | true =>
        rw [hc] at h
        simp only [cond_true] at h
        split at h
        · obtain ⟨-, hpc, rfl, rfl, -⟩ := xr_to_ok h
          exact lv_lookup hx hb hd hc rfl hpc (k ls hl)
        · obtain ⟨-, hpc, rfl, rfl, -⟩ := xr_to_ok h
          exact lv_lookup hx hb hd hc rfl hpc (k ls hl)
    · cases h
  all_goals exact absurd (show (none : Option xr_S) = some _ from h) (fun z => by cases z)
end XRQ
