section XRC2
variable {p : Program} {l : Launch} {e : Env} {R : Room} {s : State} {m : MethodId} {args : Array Value} {below : List Frame} {meth : Method} {c : Code} {H : Heap} {locs : List Loc} {ce sl : Nat} {Q : State → Prop}
variable {cc : ByteArray} {ep : Nat → Int32} {ba : Nat} {sg : Nat → Nat} {cy : Nat → ClassId} {D : va_G} {ls : Array Slot} {nL : Nat} {own : String} {mt : List xr_M} {d : Nat}
theorem xr_sv_app (a b : List Value) : xr_sv ep ba sg (a ++ b) = xr_sv ep ba sg a ++ xr_sv ep ba sg b := List.map_append
theorem xr_go_ret {w w' : List xr_C} {b b' : Bool} {dc ds pc : Nat} {rv : Option Value} {a : Array Value} {st0 : List Value} {rest : List Value} (hr : va_Run p l e R s m args below meth c H locs ce sl dc ds (F0 m pc ls st0) (xr_sv ep ba sg rest) (xr_Qc D ep ba sg cy rv w' b' dc a) (fun q => ba ≤ q)) (hI : xr_I D ep ba sg cy s w b ce H locs) (hup : H.size ≤ s.heap.size + ce) (hbb : b' = true → b = true)
    (kk : ∀ (H' : Heap) (locs' : List Loc), xr_I D ep ba sg cy s w' b' (ce + dc) H' locs' → W p l e R s m args below meth c H' locs' (ce + dc) (sl + ds) Q (F0 m (pc + 3) ls (xr_sv ep ba sg (rv.toList ++ rest)))) : W p l e R s m args below meth c H locs ce sl Q (F0 m pc ls st0) := by
  intro T hT X
  obtain ⟨v, st₀, t, T', L, h0, X', hL, e1, e2, hq, st⟩ := hr T hT X
  obtain ⟨rfl, hI'⟩ := xr_I_ret hI hup hbb h0 hL e1 hq
  obtain ⟨t2, a1, b1⟩ := kk T'.heap (locs ++ L) hI' T' rfl X'
  refine ⟨t2, st t2 ?_, b1⟩
  have e9 : xr_sv ep ba sg (rv.toList ++ rest) = (rv.map (xr_v ep ba sg)).toList ++ xr_sv ep ba sg rest := by
    rw [xr_sv_app]
    cases rv <;> rfl
  rw [e9] at a1
  exact a1
theorem xr_go_thr {w w' : List xr_C} {b : Bool} {dc ds pc k : Nat} {a : Array Value} {st0 rest : List Value} (hr : vx_Run p l e R s m args below meth c H locs ce sl dc ds (F0 m pc ls st0) rest (fun _ _ _ => False) (xr_XC D ep ba sg cy k w') (fun q => ba ≤ q)) (hI : xr_I D ep ba sg cy s w b ce H locs)
    (kk : ∀ (H' : Heap) (locs' : List Loc) (q : Addr) (cl : Cell), xr_I D ep ba sg cy s w' false (ce + dc) H' locs' → H'[q]? = some cl → cl.vm = .none → s.vm.findClass (xr_Ex k) = some cl.cls → vx_W p l e R s m args below meth c H' locs' (ce + dc) (sl + ds) Q (F0 m pc ls rest) q) : W p l e R s m args below meth c H locs ce sl Q (F0 m pc ls st0) := by
  intro T hT X
  rcases hr T hT X with ⟨v, st₀, t, T', L, h0, X', hL, e1, e2, hq, st⟩ | ⟨q, st₀, t, T', L, E, cl, h0, X', hL, e1, e2, hq, hcl, hvm, hcls, st⟩
  · exact hq.elim
  · obtain ⟨rfl, hI'⟩ := xr_I_thr hI h0 hL e1 hq dc
    obtain ⟨t2, a1, b1⟩ := kk T'.heap (locs ++ L) q cl hI' (by rw [e1]; exact hcl) hvm hcls T' rfl X'
    exact ⟨t2, st.trans a1, b1⟩
theorem xr_m0_ok {M : xr_M} (h : xr_m0 M = true) : (M.1.cls ≠ "java/lang/invoke/MethodHandle" ∧ M.1.cls ≠ "java/lang/invoke/VarHandle") ∧ (∀ sig, parseMethodDescriptor M.1.desc = some sig → M.2.2.2.2.2.1 = sig.parameters.length) ∧ M.2.2.1 ≤ 100 := by
  simp only [xr_m0, Bool.and_eq_true, decide_eq_true_eq] at h
  refine ⟨⟨h.1, h.2.1⟩, fun sig hs => ?_, Nat.le_of_ble_eq_true h.2.2.2⟩
  have h2 := h.2.2.1
  rw [hs] at h2
  exact (Option.some.inj h2).symm
theorem xr_hw_nil {M : xr_M} (h : M.2.2.2.2.1 = []) : xr_hw M = .code M.1 M.2.1 M.2.2.1 M.2.2.2.1 := by
  unfold xr_hw
  rw [h]
theorem xr_callB {M : xr_M} {idx dc ds : Nat} (hts : ∀ w ∈ xr_tb, w.before args s = true) (h0 : xr_m0 M = true) (hh : M.2.2.2.2.1 = []) (hc : xr_hw M ∈ xr_tb) (hi : Cond.initialized M.1.cls ∈ xr_tb) (hlk : Cond.methodLink own idx M.1 ∈ xr_tb) (hRf : d + 1 ≤ R.frames) (hRl : 150 * (d + 1) ≤ R.locals) : CallB R s args own idx M.1 M.2.1 M.2.2.1 M.2.2.2.1 (xr_ws M) (xr_rm d dc ds) dc ds M.2.2.2.2.2.1 := by
  obtain ⟨hne, hlen, hmx⟩ := xr_m0_ok h0
  have hcc : Cond.code M.1 M.2.1 M.2.2.1 M.2.2.2.1 ∈ xr_ws M := by rw [← xr_hw_nil hh]; exact List.mem_cons_self
  refine ⟨rfl, rfl, hRf, ?_, pay_in hts (xr_goodM hc), hcc, ?_, hts _ hi, hne, hlen, hts _ hlk⟩
  · show 8 + (M.2.2.1 + 11) + 150 * d ≤ R.locals
    omega
  · rw [← xr_hw_nil hh]; exact hts _ hc
theorem xr_stk {st rest : List Value} {n k : Nat} (hd : st.drop n = .ref k :: rest) : xr_sv ep ba sg st = (xr_sv ep ba sg (st.take n).reverse).reverse ++ .ref (ba + k) :: xr_sv ep ba sg rest := by
  have h1 : st = st.take n ++ (.ref k :: rest) := by rw [← hd, List.take_append_drop]
  have h2 : xr_sv ep ba sg st = xr_sv ep ba sg (st.take n) ++ xr_sv ep ba sg (.ref k :: rest) := by
    rw [← xr_sv_app, ← h1]
  rw [h2]
  show _ = (List.map _ _).reverse ++ _
  rw [List.map_reverse, List.reverse_reverse]
  rfl
theorem xr_stk0 {st : List Value} {n : Nat} : xr_sv ep ba sg st = (xr_sv ep ba sg (st.take n).reverse).reverse ++ xr_sv ep ba sg (st.drop n) := by
  have h2 : xr_sv ep ba sg st = xr_sv ep ba sg (st.take n) ++ xr_sv ep ba sg (st.drop n) := by
    rw [← xr_sv_app, List.take_append_drop]
  rw [h2]
  show _ = (List.map _ _).reverse ++ _
  rw [List.map_reverse, List.reverse_reverse]
set_option maxHeartbeats 4000000 in
/-- a call that returns -/
theorem xr_ca_ret {aux : List Nat} {st : List Value} {w : List xr_C} {b : Bool} {i : Instr} {a : Nat × List Value × List Value} {rv : Option Value} {w' : List xr_C} {b' : Bool} {dc ds pc : Nat} (h : xr_ca mt aux st w i = some a) (hc : xr_chc mt own i aux = true) (hcon : xr_Con l D ep ba sg cy mt d a.1 a.2.1 w b (.inl rv, w', b', dc, ds)) (hx : p.tables.exec = Jvm.exec) (hb : c.code = cc) (hml : c.maxLocals = nL) (hown : s.vm.findClass own = some m.cls) (hts : ∀ w ∈ xr_tb, w.before args s = true) (hK : va_K D vwCl (xr_ty cy) s) (hX : xr_X ba sg s) (hd : decode cc pc = .ok (i, 3)) (hRf : d + 1 ≤ R.frames) (hRl : 150 * (d + 1) ≤ R.locals) (hR : ce + dc ≤ R.cells ∧ sl + ds ≤ R.slots) (hI : xr_I D ep ba sg cy s w b ce H locs) (hsz : ls.size = nL)
    (kk : ∀ (H' : Heap) (locs' : List Loc), xr_I D ep ba sg cy s w' b' (ce + dc) H' locs' → W p l e R s m args below meth c H' locs' (ce + dc) (sl + ds) Q (F0 m (pc + 3) ls (xr_sv ep ba sg (rv.toList ++ a.2.2)))) : W p l e R s m args below meth c H locs ce sl Q (F0 m pc ls (xr_sv ep ba sg st)) := by
  refine xr_up (fun hup => ?_)
  obtain ⟨hbb, hcon⟩ := hcon
  cases i
  case invokevirtual idx =>
    simp only [xr_ca, xr_nth_eq, xr_dr_eq] at h
    split at h
    · rename_i u ci hs
      simp only [xr_chc] at hc
      cases hM : mt[u]? with
      | none => rw [hM] at h; cases h
      | some M =>
        rw [hM] at h hc
        simp only at h hc
        split at h
        · rename_i k rest hdr
          split at h
          · rename_i cj fs hwk
            cases hg : (Nat.beq cj ci && (Nat.ble (xr_cs rest) 8 && Nat.beq (st.take M.2.2.2.2.2.1).length M.2.2.2.2.2.1)) with
            | false => rw [hg] at h; cases h
            | true =>
              rw [hg] at h
              cases h
              simp only [Bool.and_eq_true] at hg
              obtain ⟨g1, g2, g3⟩ := hg
              have g1 := Nat.eq_of_beq_eq_true g1
              subst g1
              have g2 : xr_cs rest ≤ 8 := Nat.le_of_ble_eq_true g2
              have g3 := Nat.eq_of_beq_eq_true g3
              split at hc
              · rename_i q hq
                simp only [Bool.and_eq_true, decide_eq_true_eq] at hc
                obtain ⟨c1, c2, c3, c4⟩ := hc
                obtain ⟨m1, _, c4⟩ := xr_hasAll_cons c4
                obtain ⟨m2, _, c4⟩ := xr_hasAll_cons c4
                obtain ⟨m3, _, c4⟩ := xr_hasAll_cons c4
                obtain ⟨m4, _, c4⟩ := xr_hasAll_cons c4
                obtain ⟨m5, _, c4⟩ := xr_hasAll_cons c4
                have hmet := hcon M hM
                refine xr_go_ret (va_runV (As := xr_sv ep ba sg (st.take M.2.2.2.2.2.1).reverse) (b := ba + k) (C := M.1.cls) (index := idx) (bytes := M.2.1) (maxL := M.2.2.1) (ret := M.2.2.2.1) (n := M.2.2.2.2.2.1) (Ts := xr_tb) (g := F0 m pc ls (xr_sv ep ba sg st)) ⟨hx, hb, hml, hown, hts⟩ hmet ⟨xr_callB hts c2 c3 m5 m4 m1 hRf hRl, hts _ m2, hts _ m3⟩ ⟨xr_blind, ?_, ?_⟩ rfl ?_ hsz (xr_stk hdr) ?_ hd hR) hI hup hbb kk
                · rw [← c1]
                  exact va_recv hK hI.1 hq (xr_w_at hwk)
                · exact xr_pre (as := .ref k :: (st.take M.2.2.2.2.2.1).reverse) hX hK hI hup
                · rw [List.length_map, List.length_reverse]; exact g3
                · show 2 * 0 + _ ≤ 8
                  rw [xr_cs_v]; omega
              · cases hc
          · cases h
        · cases h
    · cases h
  case invokestatic idx =>
    simp only [xr_ca, xr_nth_eq, xr_dr_eq] at h
    split at h
    · rename_i u hs
      simp only [xr_chc] at hc
      cases hM : mt[u]? with
      | none => rw [hM] at h; cases h
      | some M =>
        rw [hM] at h hc
        simp only at h hc
        cases hg : (Nat.ble (xr_cs (st.drop M.2.2.2.2.2.1)) 8 && Nat.beq (st.take M.2.2.2.2.2.1).length M.2.2.2.2.2.1) with
        | false => rw [hg] at h; cases h
        | true =>
          rw [hg] at h
          cases h
          simp only [Bool.and_eq_true] at hg
          obtain ⟨g2, g3⟩ := hg
          have g2 : xr_cs (st.drop M.2.2.2.2.2.1) ≤ 8 := Nat.le_of_ble_eq_true g2
          have g3 := Nat.eq_of_beq_eq_true g3
          simp only [Bool.and_eq_true] at hc
          obtain ⟨c2, c4⟩ := hc
          obtain ⟨m1, _, c4⟩ := xr_hasAll_cons c4
          obtain ⟨m2, _, c4⟩ := xr_hasAll_cons c4
          obtain ⟨m4, _, c4⟩ := xr_hasAll_cons c4
          obtain ⟨m5, _, c4⟩ := xr_hasAll_cons c4
          have hmet := hcon M hM
          cases hh : M.2.2.2.2.1 with
          | nil =>
            refine xr_go_ret (va_runS (As := xr_sv ep ba sg (st.take M.2.2.2.2.2.1).reverse) (index := idx) (bytes := M.2.1) (maxL := M.2.2.1) (ret := M.2.2.2.1) (n := M.2.2.2.2.2.1) (Ts := xr_tb) (g := F0 m pc ls (xr_sv ep ba sg st)) ⟨hx, hb, hml, hown, hts⟩ hmet ⟨xr_callB hts c2 hh m5 m4 m1 hRf hRl, hts _ m2⟩ ⟨xr_blind, ?_⟩ rfl ?_ hsz xr_stk0 ?_ hd hR) hI hup hbb kk
            · exact xr_pre (as := (st.take M.2.2.2.2.2.1).reverse) hX hK hI hup
            · rw [List.length_map, List.length_reverse]; exact g3
            · show 2 * 0 + _ ≤ 8
              rw [xr_cs_v]; omega
          | cons h1 ht =>
            obtain ⟨hne, hlen, hmx⟩ := xr_m0_ok c2
            have e5 : xr_hw M = .codeWith M.1 M.2.1 M.2.2.1 M.2.2.2.1 (h1 :: ht) := by unfold xr_hw; rw [hh]
            refine xr_go_ret (vx_runSW (As := xr_sv ep ba sg (st.take M.2.2.2.2.2.1).reverse) (index := idx) (bytes := M.2.1) (maxL := M.2.2.1) (ret := M.2.2.2.1) (n := M.2.2.2.2.2.1) (hh := h1 :: ht) (Ts := xr_tb) (g := F0 m pc ls (xr_sv ep ba sg st)) ⟨hx, hb, hml, hown, hts⟩ hmet ⟨⟨rfl, rfl, hRf, ?_, pay_in hts (xr_goodM m5), ?_⟩, ?_, hts _ m4, hne, hlen, hts _ m1, hts _ m2⟩ ⟨xr_blind, ?_⟩ rfl ?_ hsz xr_stk0 ?_ hd hR) hI hup hbb kk
            · show 8 + (M.2.2.1 + 11) + 150 * d ≤ R.locals
              omega
            · rw [← e5]; exact List.mem_cons_self
            · rw [← e5]; exact hts _ m5
            · exact xr_pre (as := (st.take M.2.2.2.2.2.1).reverse) hX hK hI hup
            · rw [List.length_map, List.length_reverse]; exact g3
            · show 2 * 0 + _ ≤ 8
              rw [xr_cs_v]; omega
    · cases h
  case invokespecial idx =>
    simp only [xr_ca, xr_nth_eq, xr_dr_eq] at h
    split at h
    · rename_i u hs
      simp only [xr_chc] at hc
      cases hM : mt[u]? with
      | none => rw [hM] at h; cases h
      | some M =>
        rw [hM] at h hc
        simp only at h hc
        split at h
        · rename_i k rest hdr
          cases hg : (Nat.ble (xr_cs rest) 8 && Nat.beq (st.take M.2.2.2.2.2.1).length M.2.2.2.2.2.1) with
          | false => rw [hg] at h; cases h
          | true =>
            rw [hg] at h
            cases h
            simp only [Bool.and_eq_true] at hg
            obtain ⟨g2, g3⟩ := hg
            have g2 : xr_cs rest ≤ 8 := Nat.le_of_ble_eq_true g2
            have g3 := Nat.eq_of_beq_eq_true g3
            simp only [Bool.and_eq_true, decide_eq_true_eq] at hc
            obtain ⟨c2, cn, cr, c3, c4⟩ := hc
            obtain ⟨m1, _, c4⟩ := xr_hasAll_cons c4
            obtain ⟨m2, _, c4⟩ := xr_hasAll_cons c4
            obtain ⟨m4, _, c4⟩ := xr_hasAll_cons c4
            obtain ⟨m5, _, c4⟩ := xr_hasAll_cons c4
            have hmet := hcon M hM
            have hcb := xr_callB (dc := dc) (ds := ds) hts c2 c3 m5 m4 m1 hRf hRl
            rw [cr] at hcb
            refine xr_go_ret (va_runI (As := xr_sv ep ba sg (st.take M.2.2.2.2.2.1).reverse) (b := ba + k) (index := idx) (bytes := M.2.1) (maxL := M.2.2.1) (n := M.2.2.2.2.2.1) (Ts := xr_tb) (g := F0 m pc ls (xr_sv ep ba sg st)) ⟨hx, hb, hml, hown, hts⟩ hmet ⟨hcb, cn, hts _ m2⟩ ⟨xr_blind, ?_⟩ rfl ?_ hsz (xr_stk hdr) ?_ hd hR) hI hup hbb kk
            · exact xr_pre (as := .ref k :: (st.take M.2.2.2.2.2.1).reverse) hX hK hI hup
            · rw [List.length_map, List.length_reverse]; exact g3
            · show 2 * 0 + _ ≤ 8
              rw [xr_cs_v]; omega
        · cases h
    · rename_i u hs
      simp only [xr_chc] at hc
      cases hM : mt[u]? with
      | none => rw [hM] at h; cases h
      | some M =>
        rw [hM] at h
        simp only at h
        split at h
        · rename_i k rest hdr
          cases hg : (Nat.ble (xr_cs rest) 8 && Nat.beq (st.take M.2.2.2.2.2.1).length M.2.2.2.2.2.1) with
          | false => rw [hg] at h; cases h
          | true =>
            rw [hg] at h
            cases h
            simp only [Bool.and_eq_true] at hg
            obtain ⟨g2, g3⟩ := hg
            have g2 : xr_cs rest ≤ 8 := Nat.le_of_ble_eq_true g2
            have g3 := Nat.eq_of_beq_eq_true g3
            split at hc
            · rename_i heq
              cases heq
            · rename_i u2 h0 hs2 heq
              cases heq
              rw [hM] at hc
              simp only [Bool.and_eq_true, decide_eq_true_eq] at hc
              obtain ⟨c2, cn, cr, c3, c0, c4⟩ := hc
              obtain ⟨m2, _, c4⟩ := xr_hasAll_cons c4
              obtain ⟨m4, _, c4⟩ := xr_hasAll_cons c4
              obtain ⟨m5, _, c4⟩ := xr_hasAll_cons c4
              have hmet := hcon M hM
              obtain ⟨hne, hlen, hmx⟩ := xr_m0_ok c2
              have e5 : xr_hw M = .code M.1 M.2.1 M.2.2.1 none := by rw [xr_hw_nil c3, cr]
              refine xr_go_ret (va_runIN (As := xr_sv ep ba sg (st.take M.2.2.2.2.2.1).reverse) (b := ba + k) (index := idx) (host := "NoiseFields") (bytes := M.2.1) (maxL := M.2.2.1) (n := M.2.2.2.2.2.1) (Ts := xr_tb) (g := F0 m pc ls (xr_sv ep ba sg st)) ⟨hx, hb, hml, hown, hts⟩ hmet ⟨⟨⟨rfl, rfl, hRf, ?_, pay_in hts (xr_goodM m5), ?_⟩, ?_, hts _ m4, hne, hlen, va_Nw.use rfl (hX.2.1 _ (xr_hasO_ok c0))⟩, cn, hts _ m2⟩ ⟨xr_blind, ?_⟩ rfl ?_ hsz (xr_stk hdr) ?_ hd hR) hI hup hbb kk
              · show 8 + (M.2.2.1 + 11) + 150 * d ≤ R.locals
                omega
              · rw [← e5]; exact List.mem_cons_self
              · rw [← e5]; exact hts _ m5
              · exact xr_pre (as := .ref k :: (st.take M.2.2.2.2.2.1).reverse) hX hK hI hup
              · rw [List.length_map, List.length_reverse]; exact g3
              · show 2 * 0 + _ ≤ 8
                rw [xr_cs_v]; omega
            · cases hc
            · rename_i hn1 hn2 hn3
              exact (hn3 _ rfl).elim
        · cases h
    · cases h
  all_goals exact absurd (show (none : Option (Nat × List Value × List Value)) = some _ from h) (fun z => by cases z)
end XRC2
