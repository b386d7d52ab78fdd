section XRL
variable {p : Program} {l : Launch} {e : Env} {R : Room} {s : State} {m : MethodId} {args : Array Value} {below : List Frame} {meth : Method} {c : Code} {Q : State → Prop}
variable {ep : Nat → Int32} {ba : Nat} {sg : Nat → Nat} {cy : Nat → ClassId} {D : va_G} {mt : List xr_M} {d : Nat}
theorem xr_al_chn {M : xr_M} {b : Bool} {r : List xr_En} {pc pc' len : Nat} {aux : List Nat} {lv : xr_L} {st : List Value} {w : List xr_C} {i : Instr} {q : xr_U} (h : xr_al b r pc len aux lv st w i = some q) (hn : xr_nc M pc' i aux = true) : xr_chn M.1.cls i aux = true := by
  cases i <;> first | exact hn | skip
  unfold xr_nc at hn
  simp only at hn
  split at hn
  · unfold xr_al at h
    cases b with
    | false => cases h
    | true =>
      simp only [cond_true] at h
      rw [show Nat.ble 99 12 = false from rfl] at h
      cases h
  · exact hn
theorem xr_ctn_ok {ct t : Nat} (h : xr_ctn ct = some t) : Cond.classLink "NoiseFieldsLaw" ct (xr_Ex t) ∈ xr_tb ∧ Cond.castable (xr_Ex t) (xr_Ex t) ∈ xr_ob := by
  unfold xr_ctn at h
  split at h
  · cases h; exact ⟨xr_has_ok (h := 790) (by decide +kernel), xr_hasO_ok (h := 810) (by decide +kernel)⟩
  · cases h; exact ⟨xr_has_ok (h := 1212) (by decide +kernel), xr_hasO_ok (h := 1227) (by decide +kernel)⟩
  · cases h
theorem xr_cov_ok {a b pc h ct : Nat} (q : xr_cov a b pc = true) : covers ⟨a, b, h, ct⟩ pc = true := by
  simp only [xr_cov, Bool.and_eq_true] at q
  simp only [covers, Bool.and_eq_true, decide_eq_true_eq]
  exact ⟨Nat.le_of_ble_eq_true q.1, Nat.le_of_ble_eq_true q.2⟩
/-- a handler's three instructions -/
theorem xr_hc_ok {M : xr_M} {h : Nat × Nat × Nat × Nat} {k : Nat} {H : Heap} {locs : List Loc} {ce sl : Nat} {ls : Array Slot} {lv : List (Nat × Value)} {q : Addr} (hk : k = 1 ∨ k = 2) (hc : xr_hc M h k = true) (hx : p.tables.exec = Jvm.exec) (hb : c.code = M.2.1) (hl : lv_has ls M.2.2.1 lv)
    (kk : ∀ (pc : Nat) (ls' : Array Slot), decode M.2.1 pc = .ok (.ireturn, 1) → W p l e R s m args below meth c H locs ce sl Q (F0 m pc ls' [.int (Int32.ofNat k)])) : W p l e R s m args below meth c H locs ce sl Q (F0 m h.2.2.1 ls [.ref q]) := by
  simp only [xr_hc, Bool.and_eq_true] at hc
  obtain ⟨-, -, hc⟩ := hc
  have hki : Int32.ofInt (k : Int) = Int32.ofNat k := by rcases hk with rfl | rfl <;> decide
  split at hc
  · rename_i z hz
    simp only [Bool.and_eq_true, decide_eq_true_eq] at hc
    refine lv_astore_n hx hb hz rfl hl (Nat.le_of_ble_eq_true hc.1) rfl (fun ls' hl' => ?_)
    exact lv_iconst hx hb hc.2.1 hki (kk _ _ hc.2.2)
  · rename_i z hz
    simp only [Bool.and_eq_true, decide_eq_true_eq] at hc
    refine lv_astore hx hb hz hl (Nat.le_of_ble_eq_true hc.1) rfl (fun ls' hl' => ?_)
    exact lv_iconst hx hb hc.2.1 hki (kk _ _ hc.2.2)
  · cases hc
set_option maxHeartbeats 4000000 in
theorem xr_catch_ok {M : xr_M} {pc t : Nat} {h : Nat × Nat} {H : Heap} {locs : List Loc} {ce sl : Nat} {ls : Array Slot} {lv : List (Nat × Value)} {rest : List Value} {q : Addr} {cl : Cell} (hcs : xr_hcs M = true) (hTab : c.exceptionTable.toList = tableOf M.2.2.2.2.1) (hh : xr_hdl M.2.2.2.2.1 pc t = some h) (hx : p.tables.exec = Jvm.exec) (hb : c.code = M.2.1) (hown : s.vm.findClass M.1.cls = some m.cls) (hts : ∀ w ∈ xr_tb, w.before args s = true) (hX : xr_X ba sg s) (hl : lv_has ls M.2.2.1 lv) (hcell : H[q]? = some cl) (hv : cl.vm = .none) (hcl : s.vm.findClass (xr_Ex t) = some cl.cls)
    (kk : M.2.2.2.1 = some .int → ∀ (pc : Nat) (ls' : Array Slot), decode M.2.1 pc = .ok (.ireturn, 1) → W p l e R s m args below meth c H locs ce sl Q (F0 m pc ls' [.int (Int32.ofNat h.2)])) : vx_W p l e R s m args below meth c H locs ce sl Q (F0 m pc ls rest) q := by
  unfold xr_hdl at hh
  split at hh
  · rename_i a b hp ct heq
    simp only [xr_hcs, heq, Bool.and_eq_true, decide_eq_true_eq] at hcs
    obtain ⟨ho, hr, hc⟩ := hcs
    cases hg : (xr_cov a b pc && decide (xr_ctn ct = some t)) with
    | false => rw [hg] at hh; cases hh
    | true =>
      rw [hg] at hh
      cases hh
      simp only [Bool.and_eq_true, decide_eq_true_eq] at hg
      obtain ⟨w1, w2⟩ := xr_ctn_ok hg.2
      have hct : ct ≠ 0 := by
        intro z
        rw [z] at hg
        simp [xr_ctn] at hg
      rw [heq] at hTab
      refine vx_catch (name := xr_Ex t) hown [] ⟨a, b, hp, ct⟩ [] hTab (fun z hz => by cases hz) (xr_cov_ok hg.1) hct ?_ (va_Nw.use rfl (hX.2.1 _ w2)) hcell hv hcl (xr_hc_ok (h := (a, b, hp, ct)) (Or.inl rfl) hc hx hb hl (kk hr))
      rw [ho]
      exact hts _ w1
  · rename_i a b hp ct a' b' hp' ct' heq
    simp only [xr_hcs, heq, Bool.and_eq_true, decide_eq_true_eq] at hcs
    obtain ⟨ho, hr, hc, hc'⟩ := hcs
    cases hg : (xr_cov a b pc && (xr_cov a' b' pc && (decide (xr_ctn ct = some 1) && decide (xr_ctn ct' = some 0)))) with
    | false => rw [hg] at hh; cases hh
    | true =>
      rw [hg] at hh
      simp only [Bool.and_eq_true, decide_eq_true_eq] at hg
      obtain ⟨g1, g2, g3, g4⟩ := hg
      obtain ⟨w1, w2⟩ := xr_ctn_ok g3
      obtain ⟨w3, w4⟩ := xr_ctn_ok g4
      have hct : ct ≠ 0 := by
        intro z
        rw [z] at g3
        simp [xr_ctn] at g3
      have hct' : ct' ≠ 0 := by
        intro z
        rw [z] at g4
        simp [xr_ctn] at g4
      rw [heq] at hTab
      simp only [cond_true] at hh
      split at hh
      · cases hh
        refine vx_catch (name := xr_Ex 1) hown [] ⟨a, b, hp, ct⟩ [⟨a', b', hp', ct'⟩] hTab (fun z hz => by cases hz) (xr_cov_ok g1) hct ?_ (va_Nw.use rfl (hX.2.1 _ w2)) hcell hv hcl (xr_hc_ok (h := (a, b, hp, ct)) (Or.inl rfl) hc hx hb hl (kk hr))
        rw [ho]
        exact hts _ w1
      · cases hh
        refine vx_catch (name := xr_Ex 0) hown [⟨a, b, hp, ct⟩] ⟨a', b', hp', ct'⟩ [] hTab (fun z hz => ?_) (xr_cov_ok g2) hct' ?_ (va_Nw.use rfl (hX.2.1 _ w4)) hcell hv hcl (xr_hc_ok (h := (a', b', hp', ct')) (Or.inr rfl) hc' hx hb hl (kk hr))
        · rcases List.mem_cons.mp hz with rfl | hz
          · refine Or.inr ⟨hct, xr_Ex 1, ?_, hX.2.2.2.2.2.2.2⟩
            rw [ho]
            exact hts _ w1
          · cases hz
        · rw [ho]
          exact hts _ w3
      · cases hh
  · cases hh
set_option maxHeartbeats 4000000 in
theorem xr_lp_ok {K : List xr_En → xr_L → List Value → List xr_C → Bool → Nat → Nat → Option xr_Out} {df : xr_D} {fx : xr_F} {scr : Option (List Value)} {callf : Nat → List Value → List xr_C → Bool → Option xr_Out} {M : xr_M} {out : xr_Out} (hD : xr_okD ep ba sg df) (hF : xr_okF ep ba sg fx) (hcall : ∀ u as w b o, callf u as w b = some o → xr_Con l D ep ba sg cy mt d u as w b o)
    (hMt : ∀ x ∈ M.2.2.2.2.2.2, xr_chk mt M x = true) (hcs : xr_hcs M = true) (hx : p.tables.exec = Jvm.exec) (hb : c.code = M.2.1) (hml : c.maxLocals = M.2.2.1) (hown : s.vm.findClass M.1.cls = some m.cls) (hname : meth.name = M.1.name) (hts : ∀ w ∈ xr_tb, w.before args s = true) (hK : va_K D vwCl (xr_ty cy) s) (hX : xr_X ba sg s) (hba : ba ≤ s.heap.size) (hsc : xr_Sc ep ba sg s scr) (hTab : c.exceptionTable.toList = tableOf M.2.2.2.2.1) (hRf : d + 1 ≤ R.frames) (hRl : 150 * (d + 1) ≤ R.locals) (hRc : out.2.2.2.1 ≤ R.cells) (hRs : out.2.2.2.2 ≤ R.slots)
    (hEnd : ∀ (i : Instr) (pc : Nat) (st : List Value) (rv : Option Value) (w : List xr_C) (b : Bool) (ce sl : Nat) (H : Heap) (locs : List Loc) (ls : Array Slot), out = (.inl rv, w, b, ce, sl) → xr_rt M.2.2.2.1 i st = some rv → decode M.2.1 pc = .ok (i, 1) → xr_I D ep ba sg cy s w b ce H locs → W p l e R s m args below meth c H locs ce sl Q (F0 m pc ls (xr_sv ep ba sg st)))
    (hThr : ∀ (t pc : Nat) (st : List Value) (w : List xr_C) (b : Bool) (ce sl : Nat) (H : Heap) (locs : List Loc) (ls : Array Slot), out = (.inr t, w, false, ce + 1, sl + 6) → xr_site M pc t = true → xr_cs st ≤ 8 → 5 ≤ d → ls.size = M.2.2.1 → xr_I D ep ba sg cy s w b ce H locs → W p l e R s m args below meth c H locs ce sl Q (F0 m pc ls (xr_sv ep ba sg st)))
    (hPas : ∀ (t pc : Nat) (rest : List Value) (w : List xr_C) (ce sl : Nat) (H : Heap) (locs : List Loc) (ls : Array Slot) (q : Addr) (cl : Cell), out = (.inr t, w, false, ce, sl) → M.2.2.2.2.1 = [] → xr_I D ep ba sg cy s w false ce H locs → H[q]? = some cl → cl.vm = .none → s.vm.findClass (xr_Ex t) = some cl.cls → vx_W p l e R s m args below meth c H locs ce sl Q (F0 m pc ls rest) q) :
    (∀ (rem : List xr_En) (lv : xr_L) (st : List Value) (w : List xr_C) (b : Bool) (ce sl : Nat), K rem lv st w b ce sl = some out → (∀ x ∈ rem, x ∈ M.2.2.2.2.2.2) →
      ((out.2.2.1 = true → b = true) ∧ ce ≤ out.2.2.2.1 ∧ sl ≤ out.2.2.2.2) ∧ ∀ (H : Heap) (locs : List Loc) (ls : Array Slot), xr_I D ep ba sg cy s w b ce H locs → lv_has ls M.2.2.1 (xr_lv ep ba sg lv) → W p l e R s m args below meth c H locs ce sl Q (F0 m (xr_pc rem) ls (xr_sv ep ba sg st))) →
    ∀ (n : Nat) (rem : List xr_En) (lv : xr_L) (st : List Value) (w : List xr_C) (b : Bool) (ce sl : Nat), xr_lp K df fx scr mt d callf M n rem lv st w b ce sl = some out → (∀ x ∈ rem, x ∈ M.2.2.2.2.2.2) →
      ((out.2.2.1 = true → b = true) ∧ ce ≤ out.2.2.2.1 ∧ sl ≤ out.2.2.2.2) ∧ ∀ (H : Heap) (locs : List Loc) (ls : Array Slot), xr_I D ep ba sg cy s w b ce H locs → lv_has ls M.2.2.1 (xr_lv ep ba sg lv) → W p l e R s m args below meth c H locs ce sl Q (F0 m (xr_pc rem) ls (xr_sv ep ba sg st)) := by
  intro hKK n
  induction n with
  | zero => intro rem lv st w b ce sl h hmem; exact hKK rem lv st w b ce sl h hmem
  | succ n ih =>
    intro rem lv st w b ce sl h hmem
    have h : xr_st df fx scr mt d callf M (xr_lp K df fx scr mt d callf M n) rem lv st w b ce sl = some out := h
    cases rem with
    | nil => cases h
    | cons x r =>
      have hck := hMt x (hmem x List.mem_cons_self)
      have hmr : ∀ y ∈ r, y ∈ M.2.2.2.2.2.2 := fun y hy => hmem y (List.mem_cons_of_mem _ hy)
      simp only [xr_chk, Bool.and_eq_true, decide_eq_true_eq] at hck
      obtain ⟨hdec, hfc, hnc, hct, hcm, hcc⟩ := hck
      unfold xr_st at h
      simp only at h
      have pur : ∀ q, xr_pure df fx M.2.2.1 M.2.2.2.2.2.2 r x.1 x.2.2.1 x.2.2.2.1 lv st x.2.1 = some q → xr_lp K df fx scr mt d callf M n q.1 q.2.1 q.2.2 w b ce sl = some out → ((out.2.2.1 = true → b = true) ∧ ce ≤ out.2.2.2.1 ∧ sl ≤ out.2.2.2.2) ∧ ∀ (H : Heap) (locs : List Loc) (ls : Array Slot), xr_I D ep ba sg cy s w b ce H locs → lv_has ls M.2.2.1 (xr_lv ep ba sg lv) → W p l e R s m args below meth c H locs ce sl Q (F0 m (xr_pc (x :: r)) ls (xr_sv ep ba sg st)) := by
        intro q h3 h
        obtain ⟨r', l', st'⟩ := q
        have IH := ih r' l' st' w b ce sl h (xr_suf_mem hmr (xr_pure_suf h3))
        exact ⟨IH.1, fun H locs ls hI hl => xr_pure_ok hD hF h3 hx hb hdec hl (fun ls' hl' => IH.2 H locs ls' hI hl')⟩
      split at h
      · unfold xr_g3 at h
        split at h
        · rename_i q h3; exact pur q (xr_pA_le h3) h
        · cases h
      · unfold xr_g3 at h
        split at h
        · rename_i q h3; exact pur q (xr_pB_le h3) h
        · cases h
      · unfold xr_g3 at h
        split at h
        · rename_i q h3; exact pur q (xr_pC_le h3) h
        · cases h
      · unfold xr_g3 at h
        split at h
        · rename_i q h3; exact pur q (xr_pD_le h3) h
        · cases h
      · unfold xr_g3 at h
        split at h
        · rename_i q h3; exact pur q (xr_pE_le h3) h
        · cases h
      · unfold xr_g3 at h
        split at h
        · rename_i q h4
          obtain ⟨r', l', st'⟩ := q
          have IH := ih r' l' st' w b ce sl h (xr_suf_mem hmr (xr_rd_suf h4))
          exact ⟨IH.1, fun H locs ls hI hl => xr_rd_ok h4 hx hb hdec hown hts hK hI hsc (fun idx he => by rw [he] at hfc; exact hfc) hl (fun ls' hl' => IH.2 H locs ls' hI hl')⟩
        · cases h
      · unfold xr_g4 at h
        split at h
        · rename_i q h5
          obtain ⟨r', l', st', w'⟩ := q
          have IH := ih r' l' st' w' b ce sl h (xr_suf_mem hmr (xr_wt_suf h5))
          exact ⟨IH.1, fun H locs ls hI hl => xr_wt_ok hD h5 hx hb hdec hown hts hK hI (fun idx he => by rw [he] at hfc; simp only [xr_fc, Bool.and_eq_true] at hfc; rw [hname]; exact hfc) hl (fun H' locs' ls' hI' hl' => IH.2 H' locs' ls' hI' hl')⟩
        · cases h
      · unfold xr_gc at h
        cases h8 : xr_ca mt x.2.2.2.1 st w x.2.1 with
        | none => rw [h8] at h; cases h
        | some a =>
          rw [h8] at h
          simp only at h
          cases h9 : callf a.1 a.2.1 w b with
          | none => rw [h9] at h; cases h
          | some o =>
            rw [h9] at h
            have hcon := hcall _ _ _ _ _ h9
            obtain ⟨o1, w', b', dc, ds⟩ := o
            simp only at h
            cases o1 with
            | inl rv =>
              simp only at h
              cases h10 : xr_seq r x.1 x.2.2.1 3 lv (rv.toList ++ a.2.2) with
              | none => rw [h10] at h; cases h
              | some q =>
                rw [h10] at h
                obtain ⟨r', l', st'⟩ := q
                obtain ⟨e3, hpc, rfl, rfl, rfl⟩ := xr_seq_ok h10
                have IH := ih r lv (rv.toList ++ a.2.2) w' b' (ce + dc) (sl + ds) h hmr
                rw [e3] at hdec
                refine ⟨⟨fun z => hcon.1 (IH.1.1 z), by omega, by omega⟩, fun H locs ls hI hl => xr_ca_ret h8 hcc hcon hx hb hml hown hts hK hX hdec hRf hRl ⟨by omega, by omega⟩ hI hl.1 (fun H' locs' hI' => ?_)⟩
                have := IH.2 H' locs' ls hI' hl
                rw [hpc] at this
                exact this
            | inr t =>
              simp only at h
              cases hg : (xr_isV x.2.1 && Nat.beq x.2.2.1 3) with
              | false => rw [hg] at h; cases h
              | true =>
                rw [hg] at h
                simp only [cond_true] at h
                simp only [Bool.and_eq_true] at hg
                have e3 := Nat.eq_of_beq_eq_true hg.2
                rw [e3] at hdec
                cases hh : M.2.2.2.2.1 with
                | nil =>
                  rw [hh] at h
                  simp only [Option.some.injEq] at h
                  have q1 : out.2.2.2.1 = ce + dc := by rw [← h]
                  have q2 : out.2.2.2.2 = sl + ds := by rw [← h]
                  refine ⟨⟨fun z => (by rw [← h] at z; cases z), by omega, by omega⟩, fun H locs ls hI hl => xr_ca_thr hg.1 h8 hcc hcon hx hb hml hown hts hK hX hdec hRf hRl ⟨by omega, by omega⟩ hI hl.1 (fun H' locs' q cl hI' hq hv hcl => hPas t x.1 _ w' (ce + dc) (sl + ds) H' locs' ls q cl h.symm hh hI' hq hv hcl)⟩
                | cons h1' ht =>
                  rw [hh] at h
                  simp only at h
                  rw [← hh] at h
                  cases h11 : xr_hdl M.2.2.2.2.1 x.1 t with
                  | none => rw [h11] at h; cases h
                  | some k =>
                    rw [h11] at h
                    simp only [Option.some.injEq] at h
                    have q1 : out.2.2.2.1 = ce + dc := by rw [← h]
                    have q2 : out.2.2.2.2 = sl + ds := by rw [← h]
                    refine ⟨⟨fun z => (by rw [← h] at z; cases z), by omega, by omega⟩, fun H locs ls hI hl => xr_ca_thr hg.1 h8 hcc hcon hx hb hml hown hts hK hX hdec hRf hRl ⟨by omega, by omega⟩ hI hl.1 (fun H' locs' q cl hI' hq hv hcl => xr_catch_ok hcs hTab h11 hx hb hown hts hX hl hq hv hcl (fun hr pc' ls' hd' => ?_))⟩
                    exact hEnd .ireturn pc' [.int (Int32.ofNat k.2)] (some (.int (Int32.ofNat k.2))) w' false (ce + dc) (sl + ds) H' locs' ls' h.symm (by rw [hr]; rfl) hd' hI'
      · unfold xr_ge at h
        cases h1 : xr_rt M.2.2.2.1 x.2.1 st with
        | none => rw [h1] at h; cases h
        | some rv =>
          rw [h1] at h
          simp only at h
          cases hlen : Nat.beq x.2.2.1 1 with
          | false => rw [hlen] at h; cases h
          | true =>
            rw [hlen] at h
            simp only [cond_true, Option.some.injEq] at h
            have hlen := Nat.eq_of_beq_eq_true hlen
            rw [hlen] at hdec
            refine ⟨?_, fun H locs ls hI hl => hEnd x.2.1 x.1 st rv w b ce sl H locs ls h.symm h1 hdec hI⟩
            rw [← h]
            exact ⟨id, Nat.le_refl _, Nat.le_refl _⟩
      · unfold xr_g3 at h
        split at h
        · rename_i q h3; exact pur q h3 h
        · cases h
      · unfold xr_g6 at h
        split at h
        · rename_i q h6
          have hch := xr_al_chn h6 hnc
          obtain ⟨r', l', st', w', dc, ds⟩ := q
          have IH := ih r' l' st' w' b (ce + dc) (sl + ds) h (xr_suf_mem hmr (xr_al_suf h6))
          refine ⟨⟨IH.1.1, by omega, by omega⟩, fun H locs ls hI hl => xr_al_ok h6 hx hb hdec hown hts hK hI hX.2.2.1 hch ⟨by omega, by omega⟩ hl (fun H' locs' ls' hI' hl' => IH.2 H' locs' ls' hI' hl')⟩
        · cases h
      · unfold xr_g6 at h
        split at h
        · rename_i q h7
          obtain ⟨r', l', st', w', dc, ds⟩ := q
          have IH := ih r' l' st' w' b (ce + dc) (sl + ds) h (xr_suf_mem hmr (xr_nt_suf h7))
          refine ⟨⟨IH.1.1, by omega, by omega⟩, fun H locs ls hI hl => xr_nt_ok h7 hx hb hml hdec hown hts hX.2.1 hK hI hba hX.1 hct hcm ⟨by omega, by omega⟩ (by omega) (by omega) hl (fun H' locs' ls' hI' hl' => IH.2 H' locs' ls' hI' hl')⟩
        · cases h
      · unfold xr_gt at h
        cases h2 : xr_thr d x.2.1 x.2.2.2.1 st with
        | none => rw [h2] at h; cases h
        | some t =>
          rw [h2] at h
          simp only [Option.some.injEq] at h
          refine ⟨?_, fun H locs ls hI hl => ?_⟩
          · rw [← h]
            exact ⟨fun z => absurd (show false = true from z) (by decide), Nat.le_succ _, Nat.le_add_right _ _⟩
          · unfold xr_thr at h2
            split at h2
            · rename_i idx hi
              split at h2
              · rename_i t' u ha
                cases hg : (Nat.ble 5 d && Nat.ble (xr_cs st) 8) with
                | false => rw [hg] at h2; cases h2
                | true =>
                  rw [hg] at h2
                  cases h2
                  simp only [Bool.and_eq_true] at hg
                  refine hThr t x.1 st w b ce sl H locs ls h.symm ?_ (Nat.le_of_ble_eq_true hg.2) (Nat.le_of_ble_eq_true hg.1) hl.1 hI
                  rw [hi, ha] at hnc
                  exact hnc
              · cases h2
            · cases h2
end XRL
