section XRO
variable {ep : Nat → Int32} {ba : Nat} {sg : Nat → Nat} {cy : Nat → ClassId} {D : va_G} {mt : List xr_M} {l : Launch}
theorem xr_lp_b {df : xr_D} {fx : xr_F} {scr : Option (List Value)} {d : Nat} {callf : Nat → List Value → List xr_C → Bool → Option xr_Out} {M : xr_M} {out : xr_Out} (hcall : ∀ u as w b o, callf u as w b = some o → (o.2.2.1 = true → b = true)) :
    ∀ (n : Nat) (rem : List xr_En) (lv : xr_L) (st : List Value) (w : List xr_C) (b : Bool) (ce sl : Nat), xr_lp xr_K0 df fx scr mt d callf M n rem lv st w b ce sl = some out → (out.2.2.1 = true → b = true) := by
  intro n
  induction n with
  | zero => intro rem lv st w b ce sl h; cases h
  | succ n ih =>
    intro rem lv st w b ce sl h
    have h : xr_st df fx scr mt d callf M (xr_lp xr_K0 df fx scr mt d callf M n) rem lv st w b ce sl = some out := h
    unfold xr_st at h
    have g3 : ∀ o, xr_g3 (xr_lp xr_K0 df fx scr mt d callf M n) w b ce sl o = some out → (out.2.2.1 = true → b = true) := by
      intro o h
      unfold xr_g3 at h
      split at h
      · exact ih _ _ _ _ _ _ _ h
      · cases h
    have g6 : ∀ o, xr_g6 (xr_lp xr_K0 df fx scr mt d callf M n) b ce sl o = some out → (out.2.2.1 = true → b = true) := by
      intro o h
      unfold xr_g6 at h
      split at h
      · exact ih _ _ _ _ _ _ _ h
      · cases h
    split at h
    · cases h
    · split at h
      · exact g3 _ h
      · exact g3 _ h
      · exact g3 _ h
      · exact g3 _ h
      · exact g3 _ h
      · exact g3 _ h
      · unfold xr_g4 at h
        split at h
        · exact ih _ _ _ _ _ _ _ h
        · cases h
      · unfold xr_gc at h
        split at h
        · cases h
        · split at h
          · cases h
          · rename_i o ho
            split at h
            · split at h
              · exact fun z => hcall _ _ _ _ _ ho (ih _ _ _ _ _ _ _ h z)
              · cases h
            · simp only [Bool.cond_eq_ite] at h
              split at h
              · split at h
                · cases h; intro z; cases z
                · split at h
                  · cases h; intro z; cases z
                  · cases h
              · cases h
      · unfold xr_ge at h
        split at h
        · simp only [Bool.cond_eq_ite] at h
          split at h
          · cases h; exact id
          · cases h
        · cases h
      · exact g3 _ h
      · exact g6 _ h
      · exact g6 _ h
      · unfold xr_gt at h
        split at h
        · cases h; intro z; cases z
        · cases h
theorem xr_args (as : List Value) : ∀ k : Nat, lv_args k (xr_sv ep ba sg as) = xr_lv ep ba sg (lv_args k as) := by
  induction as with
  | nil => intro k; rfl
  | cons v t ih =>
    intro k
    show (k, xr_v ep ba sg v) :: lv_args (if (xr_v ep ba sg v).category = 2 then k + 2 else k + 1) (xr_sv ep ba sg t) = (k, xr_v ep ba sg v) :: xr_lv ep ba sg (lv_args (if v.category = 2 then k + 2 else k + 1) t)
    rw [xr_cat, ih]
theorem xr_sll (as : List Value) : (lg_sl (xr_sv ep ba sg as)).length = (lg_sl as).length := by
  induction as with
  | nil => rfl
  | cons v t ih =>
    simp only [lg_sl, xr_sv, List.map_cons, List.flatMap_cons, List.length_append] at ih ⊢
    rw [ih, xr_cat]
    by_cases h : v.category = 2 <;> simp [h]
theorem xr_ofWH {y : MethodName} {ws ws' : List Cond} {rm : Room} {Pc : Array Value → State → Prop} {Qc : Array Value → State → Outcome → State → Prop} {mc ms : Nat} {free : Addr → Prop} {cc : ByteArray} {maxL : Nat} {ret : Option FieldType} {hh : List (Nat × Nat × Nat × Nat)}
    (hy : plainName y.cls = true) (hw : ws = Cond.codeWith y cc maxL ret hh :: ws')
    (body : ∀ p e s m args below meth c s₁, BodyLoose p l y (headSpec ws rm) cc maxL ret e s m args below meth c s₁ → c.maxLocals = maxL → Pc args s →
      W p l e (headSpec ws rm).room s m args below meth c s.heap [] 0 0 (MQ below Qc args s mc ms free) (entryFrame m args maxL)) : Met l y ws rm Pc Qc mc ms free := by
  refine MetFree.of_bodyS (code := cc) (maxLocals := maxL) (ret := ret) hy ?_ ?_
  · intro args s m h hn
    obtain ⟨m9, meth, c, hn9, h1, h2, h3, h4, -, h5, h6, -⟩ := Cond.codeWith_spec (atoms_spec (ws := ws) h _ (by rw [hw]; exact List.mem_cons_self))
    cases hn.symm.trans hn9
    exact ⟨meth, c, h1, h2, h3, h4, h5, h6⟩
  · intro p e s m args below meth c s₁ B hml hP _
    have hh0 : s₁.heap = s.heap := by rw [B.state]; rfl
    obtain ⟨t, a1, o, b1, b2, b3⟩ := body p e s m args below meth c s₁ B hml hP s₁ hh0 (Stand.of_body B)
    exact ⟨t, o, a1, b1, b2, ⟨b3.1, b3.2⟩⟩
theorem xr_tabE {p : Program} {y : MethodName} {ws ws' : List Cond} {rm : Room} {cc : ByteArray} {maxL : Nat} {ret : Option FieldType} {e : Env} {s s₁ : State} {m : MethodId} {args : Array Value} {below : List Frame} {meth : Method} {c : Code} (hw : ws = Cond.code y cc maxL ret :: ws') (B : BodyLoose p l y (headSpec ws rm) cc maxL ret e s m args below meth c s₁) : c.exceptionTable.toList = tableOf [] := by
  obtain ⟨meth9, c9, h1, h2, -, -, -, -, h7, -⟩ := Cond.code_spec B.named (atoms_spec (ws := ws) B.pre _ (by rw [hw]; exact List.mem_cons_self))
  cases Option.some.inj (h1.symm.trans B.method)
  cases Option.some.inj (h2.symm.trans (Stand.of_body B).code)
  rw [Array.isEmpty_iff.mp h7]
  rfl
/-- what a method's body finds at its entry -/
theorem xr_entry {df : xr_D} {fx : xr_F} {M : xr_M} {d n : Nat} {callf : Nat → List Value → List xr_C → Bool → Option xr_Out} {as : List Value} {w : List xr_C} {b : Bool} {out : xr_Out} {p : Program} {e : Env} {R : Room} {s : State} {m : MethodId} {args : Array Value} {below : List Frame} {meth : Method} {c : Code} {Q : State → Prop} (hD : xr_okD ep ba sg df) (hF : xr_okF ep ba sg fx) (hok : xr_Mok mt M = true) (hrun : xr_lp xr_K0 df fx none mt d callf M n M.2.2.2.2.2.2 (lv_args 0 as) [] w b 0 0 = some out) (hsl : (lg_sl as).length ≤ M.2.2.1) (hcall : ∀ u as w b o, callf u as w b = some o → xr_Con l D ep ba sg cy mt d u as w b o)
    (hx : p.tables.exec = Jvm.exec) (hb : c.code = M.2.1) (hml : c.maxLocals = M.2.2.1) (hown : s.vm.findClass M.1.cls = some m.cls) (hname : meth.name = M.1.name) (hts : ∀ w ∈ xr_tb, w.before args s = true) (hTab : c.exceptionTable.toList = tableOf M.2.2.2.2.1) (hRf : d + 1 ≤ R.frames) (hRl : 150 * (d + 1) ≤ R.locals) (hRc : out.2.2.2.1 ≤ R.cells) (hRs : out.2.2.2.2 ≤ R.slots) (hPc : xr_Pc D ep ba sg cy as w b args s)
    (hEnd : ∀ (i : Instr) (pc : Nat) (st : List Value) (rv : Option Value) (w : List xr_C) (b : Bool) (ce sl : Nat) (H : Heap) (locs : List Loc) (ls : Array Slot), out = (.inl rv, w, b, ce, sl) → xr_rt M.2.2.2.1 i st = some rv → decode M.2.1 pc = .ok (i, 1) → xr_I D ep ba sg cy s w b ce H locs → W p l e R s m args below meth c H locs ce sl Q (F0 m pc ls (xr_sv ep ba sg st)))
    (hThr : ∀ (t pc : Nat) (st : List Value) (w : List xr_C) (b : Bool) (ce sl : Nat) (H : Heap) (locs : List Loc) (ls : Array Slot), out = (.inr t, w, false, ce + 1, sl + 6) → xr_site M pc t = true → xr_cs st ≤ 8 → 5 ≤ d → ls.size = M.2.2.1 → xr_I D ep ba sg cy s w b ce H locs → W p l e R s m args below meth c H locs ce sl Q (F0 m pc ls (xr_sv ep ba sg st)))
    (hPas : ∀ (t pc : Nat) (rest : List Value) (w : List xr_C) (ce sl : Nat) (H : Heap) (locs : List Loc) (ls : Array Slot) (q : Addr) (cl : Cell), out = (.inr t, w, false, ce, sl) → M.2.2.2.2.1 = [] → xr_I D ep ba sg cy s w false ce H locs → H[q]? = some cl → cl.vm = .none → s.vm.findClass (xr_Ex t) = some cl.cls → vx_W p l e R s m args below meth c H locs ce sl Q (F0 m pc ls rest) q) :
    W p l e R s m args below meth c s.heap [] 0 0 Q (entryFrame m args M.2.2.1) := by
  obtain ⟨ha, hX, hK, hP, hge, hsz⟩ := hPc
  simp only [xr_Mok, Bool.and_eq_true, decide_eq_true_eq] at hok
  obtain ⟨-, -, hpc0, hcs, hall⟩ := hok
  have hMt : ∀ x ∈ M.2.2.2.2.2.2, xr_chk mt M x = true := List.all_eq_true.mp hall
  have hba : ba ≤ s.heap.size := by omega
  have hI : xr_I D ep ba sg cy s w b 0 s.heap [] := ⟨hP, va_S.rf, hge, fun h => by have := hsz h; omega⟩
  have key := (xr_lp_ok (Q := Q) hD hF hcall hMt hcs hx hb hml hown hname hts hK hX hba (fun xs h => by cases h) hTab hRf hRl hRc hRs hEnd hThr hPas (fun _ _ _ _ _ _ _ h => by cases h) n _ _ _ _ _ _ _ hrun (fun _ h => h)).2
  have hl := lv_entry (xr_sv ep ba sg as) (n := M.2.2.1) (by rw [xr_sll]; exact hsl)
  rw [xr_args] at hl
  have k := key s.heap [] _ hI hl
  rw [hpc0] at k
  rw [ha, lg_entry_eq]
  rw [ha] at k
  exact k
set_option maxHeartbeats 4000000 in
theorem xr_R_ok {df : xr_D} {fx : xr_F} {sm : Nat → Nat → List Value → List xr_C → Bool → Option xr_Out} (hsm : ∀ d u as w b o, sm d u as w b = some o → xr_Con l D ep ba sg cy mt d u as w b o) (hst : l.stackTraces = false) (hD : xr_okD ep ba sg df) (hF : xr_okF ep ba sg fx) (hmt : ∀ M ∈ mt, xr_Mok mt M = true) (n : Nat) : ∀ (d u : Nat) (as : List Value) (w : List xr_C) (b : Bool) (o : xr_Out), xr_R df fx sm mt n d u as w b = some o → xr_Con l D ep ba sg cy mt d u as w b o := by
  intro d
  induction d with
  | zero => intro u as w b o h; cases h
  | succ d ih =>
    intro u as w b o h
    have h : (match sm (d + 1) u as w b with
      | some o => some o
      | none => match xr_nth mt u with
      | some M => bif Nat.ble (lg_sl as).length M.2.2.1 then xr_lp xr_K0 df fx none mt d (xr_R df fx sm mt n d) M n M.2.2.2.2.2.2 (lv_args 0 as) [] w b 0 0 else none
      | none => none) = some o := h
    cases hm9 : sm (d + 1) u as w b with
    | some o9 =>
      rw [hm9] at h
      cases h
      exact hsm _ _ _ _ _ _ hm9
    | none =>
    rw [hm9] at h
    simp only [xr_nth_eq] at h
    cases hM : mt[u]? with
    | none => rw [hM] at h; cases h
    | some M =>
      rw [hM] at h
      simp only at h
      cases hs : Nat.ble (lg_sl as).length M.2.2.1 with
      | false => rw [hs] at h; cases h
      | true =>
        rw [hs] at h
        simp only [cond_true] at h
        have hsl := Nat.le_of_ble_eq_true hs
        have hok := hmt M (List.mem_of_getElem? hM)
        have hpl : plainName M.1.cls = true := by
          simp only [xr_Mok, Bool.and_eq_true] at hok
          exact hok.1
        refine ⟨xr_lp_b (fun u as w b o ho => (ih u as w b o ho).1) _ _ _ _ _ _ _ _ h, fun M' hM' => ?_⟩
        cases Option.some.inj (hM.symm.trans hM')
        obtain ⟨o1, w', b', dc, ds⟩ := o
        cases o1 with
        | inl rv =>
          show Met l M.1 (xr_ws M) (xr_rm (d + 1) dc ds) (xr_Pc D ep ba sg cy as w b) (xr_Qc D ep ba sg cy rv w' b' dc) dc ds (fun q => ba ≤ q)
          have body : ∀ (p : Program) (e : Env) (s : State) (m : MethodId) (args : Array Value) (below : List Frame) (meth : Method) (c : Code) (s₁ : State), BodyLoose p l M.1 (headSpec (xr_ws M) (xr_rm (d + 1) dc ds)) M.2.1 M.2.2.1 M.2.2.2.1 e s m args below meth c s₁ → c.maxLocals = M.2.2.1 → c.exceptionTable.toList = tableOf M.2.2.2.2.1 → xr_Pc D ep ba sg cy as w b args s →
              W p l e (headSpec (xr_ws M) (xr_rm (d + 1) dc ds)).room s m args below meth c s.heap [] 0 0 (MQ below (xr_Qc D ep ba sg cy rv w' b' dc) args s dc ds (fun q => ba ≤ q)) (entryFrame m args M.2.2.1) := by
            intro p e s m args below meth c s₁ B hml hTab hPc
            have hts : ∀ w ∈ xr_tb, w.before args s = true := fun w hw => atoms_spec (ws := xr_ws M) B.pre w (List.mem_cons_of_mem _ hw)
            refine xr_entry hD hF hok h hsl ih B.exec B.bytes hml (findClass_of_methodNamed B.named) (name_of_methodNamed B.named B.method).1 hts hTab (Nat.le_refl _) (Nat.le_refl _) (Nat.le_refl _) (Nat.le_refl _) hPc ?_ ?_ ?_
            · intro i pc st rv2 w2 b2 ce sl H locs ls ho hrt hd hI
              cases ho
              exact xr_end_ok hrt B.exec B.bytes B.returns B.notSynchronized hd hI
            · intro t pc st w2 b2 ce sl H locs ls ho; cases ho
            · intro t pc rest w2 ce sl H locs ls q cl ho; cases ho
          cases hh : M.2.2.2.2.1 with
          | nil =>
            have hw : xr_ws M = Cond.code M.1 M.2.1 M.2.2.1 M.2.2.2.1 :: xr_tb := by unfold xr_ws; rw [xr_hw_nil hh]
            exact Met.ofW hpl hw (fun p e s m args below meth c s₁ B hml hPc => body p e s m args below meth c s₁ B hml (by rw [hh]; exact xr_tabE hw B) hPc)
          | cons h1 ht =>
            have hw : xr_ws M = Cond.codeWith M.1 M.2.1 M.2.2.1 M.2.2.2.1 (h1 :: ht) :: xr_tb := by unfold xr_ws xr_hw; rw [hh]
            exact xr_ofWH hpl hw (fun p e s m args below meth c s₁ B hml hPc => body p e s m args below meth c s₁ B hml (by rw [hh]; exact vx_table (x := M.1) B (atoms_spec (ws := xr_ws M) B.pre _ (by rw [hw]; exact List.mem_cons_self))) hPc)
        | inr t =>
          show vx_Met l M.1 (xr_ws M) (xr_rm (d + 1) dc ds) (xr_Pc D ep ba sg cy as w b) (fun _ _ _ _ => False) (xr_XC D ep ba sg cy t w') dc ds (fun q => ba ≤ q)
          have body : ∀ (p : Program) (e : Env) (s : State) (m : MethodId) (args : Array Value) (below : List Frame) (meth : Method) (c : Code) (s₁ : State), BodyLoose p l M.1 (headSpec (xr_ws M) (xr_rm (d + 1) dc ds)) M.2.1 M.2.2.1 M.2.2.2.1 e s m args below meth c s₁ → c.maxLocals = M.2.2.1 → c.exceptionTable.toList = tableOf M.2.2.2.2.1 → xr_Pc D ep ba sg cy as w b args s →
              W p l e (headSpec (xr_ws M) (xr_rm (d + 1) dc ds)).room s m args below meth c s.heap [] 0 0 (vx_MQ below (fun _ _ _ _ => False) (xr_XC D ep ba sg cy t w') args s dc ds (fun q => ba ≤ q)) (entryFrame m args M.2.2.1) := by
            intro p e s m args below meth c s₁ B hml hTab hPc
            have hts : ∀ w ∈ xr_tb, w.before args s = true := fun w hw => atoms_spec (ws := xr_ws M) B.pre w (List.mem_cons_of_mem _ hw)
            have hown : s.vm.findClass M.1.cls = some m.cls := findClass_of_methodNamed B.named
            refine xr_entry hD hF hok h hsl ih B.exec B.bytes hml hown (name_of_methodNamed B.named B.method).1 hts hTab (Nat.le_refl _) (Nat.le_refl _) (Nat.le_refl _) (Nat.le_refl _) hPc ?_ ?_ ?_
            · intro i pc st rv2 w2 b2 ce sl H locs ls ho; cases ho
            · intro t2 pc st w2 b2 ce sl H locs ls ho hsite hcs h5 hsz hI
              cases ho
              exact xr_thr_ok hst hsite hcs h5 B.exec B.bytes hml hown B.notSynchronized hts hPc.2.1 hTab (Nat.le_refl _) (Nat.le_refl _) (Nat.le_refl _) (Nat.le_refl _) hsz hI
            · intro t2 pc rest w2 ce sl H locs ls q cl ho hh hI hq hv hcl
              cases ho
              exact xr_pas_ok hh hTab B.notSynchronized hI hq hv hcl
          cases hh : M.2.2.2.2.1 with
          | nil =>
            have hw : xr_ws M = Cond.code M.1 M.2.1 M.2.2.1 M.2.2.2.1 :: xr_tb := by unfold xr_ws; rw [xr_hw_nil hh]
            exact vx_ofW hpl hw (fun p e s m args below meth c s₁ B hml _ hPc => body p e s m args below meth c s₁ B hml (by rw [hh]; exact xr_tabE hw B) hPc)
          | cons h1 ht =>
            have hw : xr_ws M = Cond.codeWith M.1 M.2.1 M.2.2.1 M.2.2.2.1 (h1 :: ht) :: xr_tb := by unfold xr_ws xr_hw; rw [hh]
            exact vx_ofWH hpl hw (fun p e s m args below meth c s₁ B hml hPc => body p e s m args below meth c s₁ B hml (by rw [hh]; exact vx_table (x := M.1) B (atoms_spec (ws := xr_ws M) B.pre _ (by rw [hw]; exact List.mem_cons_self))) hPc)
end XRO
