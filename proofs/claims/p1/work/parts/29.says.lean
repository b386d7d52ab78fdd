/-! String.coder and String.length of a constant; Tape.says of one, where the word that was read is empty -/
def xw_MC : xr_M := (yJ0_coder_7d493, cJ0_coder_7d493, 1, some .byte, [], 0, [])
def xw_ML : xr_M := (yJ0_length_8abf5, cJ0_length_8abf5, 1, some .int, [], 0, [])
def xw_P (ba q n : Nat) : Array Value → State → Prop := fun a U => a = #[.ref q] ∧ va_Z "java/lang/String" "COMPACT_STRINGS" "Z" (.int 1) (fun z => ba ≤ z) U U.heap ∧ xw_S (fun z => ba ≤ z) q n U
def xw_Q (r : Int32) : Array Value → State → Outcome → State → Prop := fun _ st o t => o = .returned (some (.int r)) ∧ t.heap = st.heap
def xw_r (n : Nat) : Int32 := Int32.ofNat n >>> ((0 : Int32) &&& 31)
theorem xw_P_go {ba q n : Nat} {s U : State} {H : Heap} {locs : List Loc} (hZ : va_Z "java/lang/String" "COMPACT_STRINGS" "Z" (.int 1) (fun z => ba ≤ z) s s.heap) (h : xw_S (fun z => ba ≤ z) q n s) (hS : va_S (fun z => ba ≤ z) s.heap H locs) (hU : U.heap = H) (hal : s.vm.Alike U.vm) : xw_P ba q n #[.ref q] U := by
  subst hU
  exact ⟨rfl, (hZ.kept hS.2.1).moved hal, xw_S_go hal hS.2.1 h⟩
theorem xw_blind {ba q n : Nat} : FrameBlind (xw_P ba q n) := by
  intro a U g mk h
  obtain ⟨rfl, h2, h3⟩ := h
  exact xw_P_go (s := U) (U := U.calling g mk #[.ref q]) (locs := []) h2 h3 va_S.rf rfl (Vm.Alike.refl U.vm)
theorem xw_recv {A : Nat → Prop} {q n : Nat} {s : State} {H : Heap} {locs : List Loc} (h : xw_S A q n s) (hS : va_S A s.heap H locs) : ∃ cell : Cell, H[q]? = some cell ∧ cell.vm.isStatics = false ∧ s.vm.findClass "java/lang/String" = some cell.cls := by
  obtain ⟨cell, h1, h2, h3, -⟩ := h.1.kept hS.2.1
  exact ⟨cell, h1, h2, h3⟩
theorem xw_dC : decode cJ0_coder_7d493 0 = .ok (.getstatic 38, 3) ∧ decode cJ0_coder_7d493 3 = .ok (.ifCond .eq 10, 3) ∧ decode cJ0_coder_7d493 6 = .ok (.aload_n 0, 1) ∧ decode cJ0_coder_7d493 7 = .ok (.getfield 15, 3) ∧ decode cJ0_coder_7d493 10 = .ok (.goto 4, 3) ∧ decode cJ0_coder_7d493 14 = .ok (.ireturn, 1) := by decide +kernel
theorem xw_dL : decode cJ0_length_8abf5 0 = .ok (.aload_n 0, 1) ∧ decode cJ0_length_8abf5 1 = .ok (.getfield 9, 3) ∧ decode cJ0_length_8abf5 4 = .ok (.arraylength, 1) ∧ decode cJ0_length_8abf5 5 = .ok (.aload_n 0, 1) ∧ decode cJ0_length_8abf5 6 = .ok (.invokevirtual 335, 3) ∧ decode cJ0_length_8abf5 9 = .ok (.ishr, 1) ∧ decode cJ0_length_8abf5 10 = .ok (.ireturn, 1) := by decide +kernel
theorem xw_dS : decode cX8_says 0 = .ok (.aload_n 1, 1) ∧ decode cX8_says 1 = .ok (.invokevirtual 64, 3) ∧ decode cX8_says 4 = .ok (.aload_n 0, 1) ∧ decode cX8_says 5 = .ok (.getfield 61, 3) ∧ decode cX8_says 8 = .ok (.if_icmp .eq 5, 3) ∧ decode cX8_says 11 = .ok (.iconst 0, 1) ∧ decode cX8_says 12 = .ok (.ireturn, 1) := by decide +kernel
theorem xw_wC : xr_ws xw_MC = Cond.code yJ0_coder_7d493 cJ0_coder_7d493 1 (some .byte) :: xr_tb := by
  unfold xr_ws
  rw [xr_hw_nil rfl]
  rfl
theorem xw_wL : xr_ws xw_ML = Cond.code yJ0_length_8abf5 cJ0_length_8abf5 1 (some .int) :: xr_tb := by
  unfold xr_ws
  rw [xr_hw_nil rfl]
  rfl
theorem xw_gC : xr_hw xw_MC ∈ xr_tb ∧ Cond.initialized xw_MC.1.cls ∈ xr_tb ∧ Cond.methodLink "java/lang/String" 335 xw_MC.1 ∈ xr_tb ∧ Cond.instanceMethod xw_MC.1 ∈ xr_tb ∧ Cond.selects "java/lang/String" xw_MC.1 xw_MC.1 ∈ xr_tb ∧ Cond.fieldLink "java/lang/String" 38 "java/lang/String" "COMPACT_STRINGS" "Z" ∈ xr_tb ∧ Cond.fieldLink "java/lang/String" 15 "java/lang/String" "coder" "B" ∈ xr_tb ∧ Cond.fieldLink "java/lang/String" 9 "java/lang/String" "value" "[B" ∈ xr_tb :=
  ⟨xr_has_ok (h := 909) (by decide +kernel), xr_has_ok (h := 139) (by decide +kernel), xr_has_ok (h := 906) (by decide +kernel), xr_has_ok (h := 907) (by decide +kernel), xr_has_ok (h := 908) (by decide +kernel), xr_has_ok (h := 910) (by decide +kernel), xr_has_ok (h := 2195) (by decide +kernel), xr_has_ok (h := 2194) (by decide +kernel)⟩
theorem xw_gL : xr_hw xw_ML ∈ xr_tb ∧ Cond.initialized xw_ML.1.cls ∈ xr_tb ∧ Cond.methodLink "NoiseFields$Tape" 64 xw_ML.1 ∈ xr_tb ∧ Cond.instanceMethod xw_ML.1 ∈ xr_tb ∧ Cond.selects "java/lang/String" xw_ML.1 xw_ML.1 ∈ xr_tb :=
  ⟨xr_has_ok (h := 905) (by decide +kernel), xr_has_ok (h := 139) (by decide +kernel), xr_has_ok (h := 902) (by decide +kernel), xr_has_ok (h := 903) (by decide +kernel), xr_has_ok (h := 904) (by decide +kernel)⟩
section XWS
variable {p : Program} {l : Launch} {e : Env} {R : Room} {s : State} {m : MethodId} {args : Array Value} {below : List Frame} {meth : Method} {c : Code} {H : Heap} {locs : List Loc} {ce sl : Nat} {Q : State → Prop}
variable {ls : Array Slot} {ba : Nat}
theorem xw_go {pc : Nat} {r : Int32} {a : Array Value} {st0 rest : List Value} (hr : va_Run p l e R s m args below meth c H locs ce sl 0 0 (F0 m pc ls st0) rest (xw_Q r a) (fun q => ba ≤ q)) (hS : va_S (fun q => ba ≤ q) s.heap H locs)
    (kk : ∀ locs' : List Loc, va_S (fun q => ba ≤ q) s.heap H locs' → W p l e R s m args below meth c H locs' ce sl Q (F0 m (pc + 3) ls (.int r :: rest))) : W p l e R s m args below meth c H locs ce sl Q (F0 m pc ls st0) := by
  intro T hT X
  obtain ⟨v, st₀, t, T', L, h0, X', hL, e1, e2, hq, st⟩ := hr T hT X
  obtain ⟨hv, hh⟩ := hq
  cases hv
  obtain ⟨t2, a1, b1⟩ := kk (locs ++ L) ⟨hS.1, hS.2.1, fun q hq => by
    rcases List.mem_append.mp hq with h | h
    · exact hS.2.2 q h
    · exact hL q h⟩ T' (by rw [e1, hh, h0]) X'
  exact ⟨t2, st t2 a1, b1⟩
end XWS
theorem xw_coder {l : Launch} {ba q n : Nat} : Met l xw_MC.1 (xr_ws xw_MC) (xr_rm 1 0 0) (xw_P ba q n) (xw_Q 0) 0 0 (fun z => ba ≤ z) := by
  refine Met.ofW (by decide +kernel) xw_wC (fun p e s m args below meth c s₁ B hml hPc => ?_)
  obtain ⟨rfl, hZ, hO, hC, v, f, hV, hT⟩ := hPc
  have hts : ∀ w ∈ xr_tb, w.before #[.ref q] s = true := fun w hw => atoms_spec (ws := xr_ws xw_MC) B.pre w (List.mem_cons_of_mem _ hw)
  have hown : s.vm.findClass "java/lang/String" = some m.cls := findClass_of_methodNamed B.named
  have hl := lv_entry [Value.ref q] (n := 1) (Nat.le_of_ble_eq_true rfl)
  obtain ⟨d0, d3, d6, d7, d10, d14⟩ := xw_dC
  obtain ⟨-, -, -, -, -, g1, g2, g3⟩ := xw_gC
  rw [lg_entry_eq]
  refine va_gets B.exec B.bytes hZ va_S.rf hown (hts _ g1) (fun _ h => h) d0 ?_
  refine xr_skip_ifCond_eq B.exec B.bytes d3 (by decide) ?_
  refine lv_aload_n B.exec B.bytes d6 rfl (hl.2.2 (0, .ref q) (by simp [lv_args])) ?_
  refine va_getX (N := 1) (i := 0) (v := fun _ => .int 0) (ad := fun _ => q) B.exec B.bytes (fun i hi => hC) (by decide) va_S.rf hown (hts _ g2) (fun _ h => h) d7 ?_
  refine lv_goto B.exec B.bytes d10 (show ((10 : Nat) : Int) + 4 = ((14 : Nat) : Int) by decide) ?_
  exact W.zret B.exec B.bytes B.returns (by decide) (fun t ht _ => ⟨rfl, ht⟩) (fun q hq => by cases hq) d14 B.notSynchronized
theorem xw_length {l : Launch} {ba q n : Nat} : Met l xw_ML.1 (xr_ws xw_ML) (xr_rm 2 0 0) (xw_P ba q n) (xw_Q (xw_r n)) 0 0 (fun z => ba ≤ z) := by
  refine Met.ofW (by decide +kernel) xw_wL (fun p e s m args below meth c s₁ B hml hPc => ?_)
  obtain ⟨rfl, hZ, hSt⟩ := hPc
  obtain ⟨hO, hC, v, f, hV, hT⟩ := id hSt
  have hts : ∀ w ∈ xr_tb, w.before #[.ref q] s = true := fun w hw => atoms_spec (ws := xr_ws xw_ML) B.pre w (List.mem_cons_of_mem _ hw)
  have hown : s.vm.findClass "java/lang/String" = some m.cls := findClass_of_methodNamed B.named
  have hl := lv_entry [Value.ref q] (n := 1) (Nat.le_of_ble_eq_true rfl)
  obtain ⟨d0, d1, d4, d5, d6, d9, d10⟩ := xw_dL
  obtain ⟨m5, m4, m1, m2, m3, -, -, g3⟩ := xw_gC
  rw [lg_entry_eq]
  refine lv_aload_n B.exec B.bytes d0 rfl (hl.2.2 (0, .ref q) (by simp [lv_args])) ?_
  refine va_getX (N := 1) (i := 0) (v := fun _ => .ref v) (ad := fun _ => q) B.exec B.bytes (fun i hi => hV) (by decide) va_S.rf hown (hts _ g3) (fun _ h => h) d1 ?_
  refine va_tlen B.exec B.bytes hT va_S.rf rfl d4 ?_
  refine lv_aload_n B.exec B.bytes d5 rfl (hl.2.2 (0, .ref q) (by simp [lv_args])) ?_
  refine xw_go (ba := ba) (va_runV (As := []) (b := q) (C := "java/lang/String") (index := 335) (bytes := cJ0_coder_7d493) (maxL := 1) (ret := some .byte) (n := 0) (Ts := xr_tb) ⟨B.exec, B.bytes, hml, hown, hts⟩ (xw_coder (q := q) (n := n)) ⟨xr_callB (M := xw_MC) (d := 1) hts (by decide +kernel) rfl m5 m4 m1 (by decide) (by decide), hts _ m2, hts _ m3⟩ ⟨xw_blind, xw_recv hSt va_S.rf, fun U hU hW => xw_P_go hZ hSt va_S.rf hU hW.alike⟩ rfl rfl hl.1 rfl ?_ d6 ⟨Nat.zero_le _, Nat.zero_le _⟩) va_S.rf (fun locs' hS' => ?_)
  · exact Nat.le_of_ble_eq_true rfl
  · refine lv_ishr B.exec B.bytes d9 ?_
    exact W.iret B.exec B.bytes B.returns (fun t ht _ => ⟨rfl, ht⟩) hS'.2.2 d10 B.notSynchronized
/-- Tape.says of a constant, with an empty word: false -/
def xw_sm (d u : Nat) (as : List Value) (w : List xr_C) (b : Bool) : Option xr_Out := bif Nat.beq u 208 then (match as with
  | [.ref k, .float n] => bif Nat.ble 3 d && (Nat.ble 4 n.toNat && Nat.blt n.toNat 15) then (match xr_nth w k with
    | some (.inl (ci, fs)) => bif Nat.beq ci 8 then (match xr_nth fs 7 with
      | some (.int x) => bif xr_cf 0 x 0 then some (.inl (some (.int 0)), w, b, 0, 0) else none
      | _ => none) else none
    | _ => none) else none
  | _ => none) else none
theorem xw_ne : ∀ q ∈ xr_sts, ¬ xw_r q.2.2 = 0 := by decide +kernel
theorem xw_fld : xr_fld "NoiseFields$Tape" 61 [8, 7, 177] = true := by decide +kernel
set_option maxHeartbeats 4000000 in
theorem xw_says {l : Launch} {ep : Nat → Int32} {ba : Nat} {sg : Nat → Nat} {cy : Nat → ClassId} {D : va_G} {M : xr_M} {d j k : Nat} {n : UInt32} {w : List xr_C} {b : Bool} {fs : List Value} {q : Nat × String × Nat} (hd : 3 ≤ d) (en : n.toNat = j + 4) (hq : xr_sts[j]? = some q) (hwk : w[k]? = some (.inl (8, fs))) (hfs : fs[7]? = some (.int 0)) (e1 : M.1 = yX8_says) (e2 : M.2.1 = cX8_says) (e3 : M.2.2.1 = 3) (e4 : M.2.2.2.1 = some .boolean) (e5 : M.2.2.2.2.1 = []) : Met l M.1 (xr_ws M) (xr_rm d 0 0) (xr_Pc D ep ba sg cy [.ref k, .float n] w b) (xr_Qc D ep ba sg cy (some (.int 0)) w b 0) 0 0 (fun q => ba ≤ q) := by
  have hw : xr_ws M = Cond.code M.1 M.2.1 M.2.2.1 M.2.2.2.1 :: xr_tb := by
    unfold xr_ws
    rw [xr_hw_nil e5]
  refine Met.ofW (by rw [e1]; decide +kernel) hw (fun p e s m args below meth c s₁ B hml hPc => ?_)
  obtain ⟨ha, hX, hK, hP, hge, hsz⟩ := hPc
  have hts : ∀ w ∈ xr_tb, w.before args s = true := fun w hw => atoms_spec (ws := xr_ws M) B.pre w (List.mem_cons_of_mem _ hw)
  have hown : s.vm.findClass "NoiseFields$Tape" = some m.cls := by
    have h := findClass_of_methodNamed B.named
    rw [e1] at h
    exact h
  have hb : c.code = cX8_says := B.bytes.trans e2
  have hml : c.maxLocals = 3 := hml.trans e3
  have hZ := hX.1.2.2
  obtain ⟨-, hSt⟩ := hZ.2 j q hq
  have hr := xw_ne q (List.mem_of_getElem? hq)
  have ha : args = ([.ref (ba + k), .ref (sg (j + 4))] : List Value).toArray := by
    rw [ha]
    show (#[Value.ref (ba + k), Value.ref (sg n.toNat)] : Array Value) = _
    rw [en]
  subst ha
  have hl := lv_entry [.ref (ba + k), .ref (sg (j + 4))] (n := 3) (Nat.le_of_ble_eq_true rfl)
  obtain ⟨d0, d1, d4, d5, d8, d11, d12⟩ := xw_dS
  obtain ⟨m5, m4, m1, m2, m3⟩ := xw_gL
  obtain ⟨ci, kf, u, C, T, N, ef, hc, hk, hlk⟩ := xr_fld_ok xw_fld
  cases ef
  rw [e3, lg_entry_eq]
  refine lv_aload_n B.exec hb d0 rfl (hl.2.2 (1, .ref (sg (j + 4))) (by simp [lv_args, Value.category])) ?_
  refine xw_go (ba := ba) (va_runV (As := []) (b := sg (j + 4)) (C := "java/lang/String") (index := 64) (bytes := cJ0_length_8abf5) (maxL := 1) (ret := some .int) (n := 0) (Ts := xr_tb) ⟨B.exec, hb, hml, hown, hts⟩ (xw_length (q := sg (j + 4)) (n := q.2.2)) ⟨xr_callB (M := xw_ML) (d := 2) hts (by decide +kernel) rfl m5 m4 m1 hd (Nat.mul_le_mul_left 150 hd), hts _ m2, hts _ m3⟩ ⟨xw_blind, xw_recv hSt va_S.rf, fun U hU hW => xw_P_go hZ.1 hSt va_S.rf hU hW.alike⟩ rfl rfl hl.1 rfl ?_ d1 ⟨Nat.zero_le _, Nat.zero_le _⟩) va_S.rf (fun locs' hS' => ?_)
  · exact Nat.le_of_ble_eq_true rfl
  · refine lv_aload_n B.exec hb d4 rfl (hl.2.2 (0, .ref (ba + k)) (by simp [lv_args])) ?_
    refine va_get (q0 := k) (k := 7) B.exec hb hts (xr_cls hc).2.2.1 hown hK hP (xr_w_at hwk) hc hk (hts _ hlk) (fun _ h => h) (v := .int 0) (by rw [List.getElem?_map, hfs]; rfl) d5 ?_
    refine xr_skip_if_icmp_eq B.exec hb d8 hr ?_
    refine lv_iconst B.exec hb d11 rfl ?_
    exact xr_end_ok (M := M) (i := .ireturn) (st := [.int 0]) (rv := some (.int 0)) (by rw [e4]; rfl) B.exec B.bytes B.returns B.notSynchronized (by rw [e2]; exact d12) ⟨hP, hS', hge, fun h => by have := hsz h; omega⟩
theorem xw_sm_ok {l : Launch} {ep : Nat → Int32} {ba : Nat} {sg : Nat → Nat} {cy : Nat → ClassId} {D : va_G} {mt : List xr_M} (hmt : ∀ M, mt[208]? = some M → M.1 = yX8_says ∧ M.2.1 = cX8_says ∧ M.2.2.1 = 3 ∧ M.2.2.2.1 = some .boolean ∧ M.2.2.2.2.1 = []) : ∀ (d u : Nat) (as : List Value) (w : List xr_C) (b : Bool) (o : xr_Out), xw_sm d u as w b = some o → xr_Con l D ep ba sg cy mt d u as w b o := by
  intro d u as w b o h
  unfold xw_sm at h
  cases hu : Nat.beq u 208 with
  | false => rw [hu] at h; cases h
  | true =>
    rw [hu] at h
    have hu := Nat.eq_of_beq_eq_true hu
    subst hu
    simp only [cond_true, xr_nth_eq] at h
    split at h
    · rename_i k n
      cases hg : (Nat.ble 3 d && (Nat.ble 4 n.toNat && Nat.blt n.toNat 15)) with
      | false => rw [hg] at h; cases h
      | true =>
        rw [hg] at h
        simp only [cond_true] at h
        simp only [Bool.and_eq_true] at hg
        obtain ⟨g1, g2, g3⟩ := hg
        have g1 : 3 ≤ d := Nat.le_of_ble_eq_true g1
        have g2 : 4 ≤ n.toNat := Nat.le_of_ble_eq_true g2
        have g3 : n.toNat + 1 ≤ 15 := Nat.le_of_ble_eq_true g3
        split at h
        · rename_i ci fs hwk
          cases hci : Nat.beq ci 8 with
          | false => rw [hci] at h; cases h
          | true =>
            rw [hci] at h
            have hci := Nat.eq_of_beq_eq_true hci
            subst hci
            simp only [cond_true] at h
            split at h
            · rename_i x hfs
              cases hx0 : xr_cf 0 x 0 with
              | false => rw [hx0] at h; cases h
              | true =>
                rw [hx0] at h
                rw [xr_cf_eq] at hx0
                have hx0 : x = 0 := of_decide_eq_true hx0
                subst hx0
                simp only [cond_true] at h
                cases h
                have hj : n.toNat - 4 < xr_sts.length := show n.toNat - 4 < 11 by omega
                refine ⟨id, fun M hM => ?_⟩
                obtain ⟨e1, e2, e3, e4, e5⟩ := hmt M hM
                exact xw_says (j := n.toNat - 4) g1 (by omega) (List.getElem?_eq_getElem hj) hwk hfs e1 e2 e3 e4 e5
            · cases h
        · cases h
    · cases h
