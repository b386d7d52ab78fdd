/-! a method's contract out of its run -/
abbrev xr_nm : List String := ["java/lang/RuntimeException", "java/lang/Exception"]
def xr_both (w : Cond) : Bool := decide (w ∈ lw_tbl) && (goodWord w || xr_owk w)
theorem xr_both_ok {L : List Cond} (h : L.all xr_both = true) {args : Array Value} {s : State} (hts : ∀ w ∈ xr_tb, w.before args s = true) (hto : ∀ w ∈ xr_ob, va_Nw w s) : ∀ w ∈ L, w.before args s = true := by
  intro w hw
  have h1 := List.all_eq_true.mp h w hw
  simp only [xr_both, Bool.and_eq_true, Bool.or_eq_true, decide_eq_true_eq] at h1
  rcases h1.2 with h2 | h2
  · exact hts w (List.mem_filter.mpr ⟨h1.1, h2⟩)
  · have hn := hto w (List.mem_filter.mpr ⟨h1.1, h2⟩)
    cases w <;> first | exact va_Nw.use rfl hn | (simp [xr_owk] at h2)
theorem xr_at0 : (vx_atS "NoiseFields" 406 "java/lang/IllegalArgumentException" xr_nm).all xr_both = true := by decide +kernel
theorem xr_at1 : (xr_atX "NoiseFields" 399 "java/util/NoSuchElementException" 13 prog_32_method_4_code xr_nm).all xr_both = true := by decide +kernel
theorem xr_go0 : ∀ w ∈ Cond.classLink "NoiseFields" 402 "java/lang/IllegalArgumentException" :: Cond.initialized "java/lang/IllegalArgumentException" :: vx_atS "NoiseFields" 406 "java/lang/IllegalArgumentException" xr_nm, vx_ot w = true := by decide +kernel
theorem xr_go1 : ∀ w ∈ Cond.classLink "NoiseFields" 395 "java/util/NoSuchElementException" :: Cond.initialized "java/util/NoSuchElementException" :: xr_atX "NoiseFields" 399 "java/util/NoSuchElementException" 13 prog_32_method_4_code xr_nm, vx_ot w = true := by decide +kernel
theorem xr_d0 : decode cX11_refuseWrong 10 = .ok (.new 402, 3) ∧ decode cX11_refuseWrong 13 = .ok (.dup, 1) ∧ decode cX11_refuseWrong 14 = .ok (.ldc_w 404, 3) ∧ decode cX11_refuseWrong 17 = .ok (.invokespecial 406, 3) ∧ decode cX11_refuseWrong 20 = .ok (.athrow, 1) := by decide +kernel
theorem xr_d1 : decode cX11_refuseMissing 10 = .ok (.new 395, 3) ∧ decode cX11_refuseMissing 13 = .ok (.dup, 1) ∧ decode cX11_refuseMissing 14 = .ok (.ldc_w 397, 3) ∧ decode cX11_refuseMissing 17 = .ok (.invokespecial 399, 3) ∧ decode cX11_refuseMissing 20 = .ok (.athrow, 1) := by decide +kernel
theorem xr_ii : Cond.initialized "java/lang/IllegalArgumentException" ∈ xr_tb ∧ Cond.initialized "java/util/NoSuchElementException" ∈ xr_tb ∧ Cond.classLink "NoiseFields" 402 "java/lang/IllegalArgumentException" ∈ xr_tb ∧ Cond.classLink "NoiseFields" 395 "java/util/NoSuchElementException" ∈ xr_tb := ⟨xr_has_ok (h := 138) (by decide +kernel), xr_has_ok (h := 144) (by decide +kernel), xr_has_ok (h := 808) (by decide +kernel), xr_has_ok (h := 1225) (by decide +kernel)⟩
section XRM
variable {p : Program} {l : Launch} {e : Env} {R : Room} {s : State} {m : MethodId} {args : Array Value} {below : List Frame} {meth : Method} {c : Code} {H : Heap} {locs : List Loc} {ce sl : Nat}
variable {ep : Nat → Int32} {ba : Nat} {sg : Nat → Nat} {cy : Nat → ClassId} {D : va_G} {mt : List xr_M} {d : Nat} {ls : Array Slot}
theorem xr_Fr_of {t : State} (hS : va_S (fun q => ba ≤ q) s.heap H locs) (hz : H.size ≤ t.heap.size) (hq : ∀ q : Nat, q < H.size → t.heap[q]? = H[q]?) : xr_Fr ba s t := ⟨Nat.le_trans hS.1 hz, fun q h1 h2 => (hq q (Nat.lt_of_lt_of_le h1 hS.1)).trans (hS.2.1 q h1 h2)⟩
theorem xr_end_ok {M : xr_M} {i : Instr} {pc : Nat} {st : List Value} {rv : Option Value} {w : List xr_C} {b : Bool} (h : xr_rt M.2.2.2.1 i st = some rv) (hx : p.tables.exec = Jvm.exec) (hb : c.code = M.2.1) (hr : meth.sig.returnType = M.2.2.2.1) (hlocks : meth.locks = false) (hd : decode M.2.1 pc = .ok (i, 1)) (hI : xr_I D ep ba sg cy s w b ce H locs) : W p l e R s m args below meth c H locs ce sl (MQ below (xr_Qc D ep ba sg cy rv w b ce) args s ce sl (fun q => ba ≤ q)) (F0 m pc ls (xr_sv ep ba sg st)) := by
  have hq : ∀ (v : Option Value) (t : State), v = rv.map (xr_v ep ba sg) → t.heap = H → xr_Qc D ep ba sg cy rv w b ce args s (.returned v) t := by
    intro v t hv ht
    refine ⟨by rw [hv], by rw [ht]; exact hI.1, by rw [ht]; exact hI.2.2.1, hI.2.2.2, xr_Fr_of hI.2.1 (by rw [ht]; exact Nat.le_refl _) (fun q _ => by rw [ht])⟩
  have hf : ∀ q ∈ locs, (fun q => ba ≤ q) q.base := hI.2.1.2.2
  unfold xr_rt at h
  split at h
  · split at h
    · rename_i hret
      cases h
      rw [hret] at hr
      exact W.vret hx hb hr (fun t ht _ => hq none t rfl ht) hf hd
    · cases h
  · split at h
    · rename_i v hret
      cases hi : xr_isI v with
      | false => rw [hi] at h; cases h
      | true =>
        rw [hi] at h
        cases h
        obtain ⟨x, ex⟩ := xr_isI_ok (ep := ep) (ba := ba) (sg := sg) hi
        rw [hret] at hr
        simp only [xr_sv, List.map_cons, List.map_nil, ex]
        exact W.iret hx hb hr (fun t ht _ => hq _ t (by rw [← ex]; rfl) ht) hf hd
    · rename_i x hret
      cases hi : (decide (x = 0) || decide (x = 1)) with
      | false => rw [hi] at h; cases h
      | true =>
        rw [hi] at h
        cases h
        rw [hret] at hr
        simp only [Bool.or_eq_true, decide_eq_true_eq] at hi
        refine W.zret hx hb hr ?_ (fun t ht _ => hq _ t rfl ht) hf hd
        rcases hi with rfl | rfl <;> decide
    · rename_i x hret
      cases hi : decide (x = 0) with
      | false => rw [hi] at h; cases h
      | true =>
        rw [hi] at h
        cases h
        rw [hret] at hr
        simp only [decide_eq_true_eq] at hi
        refine W.zret hx hb hr ?_ (fun t ht _ => hq _ t rfl ht) hf hd
        subst hi
        decide
    · cases h
  · split at h
    · rename_i v hret
      cases hi : xr_isL v with
      | false => rw [hi] at h; cases h
      | true =>
        rw [hi] at h
        cases h
        obtain ⟨x, ex⟩ := xr_isL_ok (ep := ep) (ba := ba) (sg := sg) hi
        rw [hret] at hr
        simp only [xr_sv, List.map_cons, List.map_nil, ex]
        exact W.lret hx hb hr (fun t ht _ => hq _ t (by rw [← ex]; rfl) ht) hf hd
    · cases h
  · split at h
    · rename_i t0 v hret
      cases hi : xr_isR v with
      | false => rw [hi] at h; cases h
      | true =>
        rw [hi] at h
        cases h
        rw [hret] at hr
        refine W.aret (v := xr_v ep ba sg v) hx hb hr (Or.inr ⟨_, rfl⟩) ?_ (fun t ht _ => hq _ t rfl ht) hf hd
        cases v <;> first | exact Or.inl rfl | exact Or.inr ⟨_, rfl⟩ | cases hi
    · rename_i t0 v hret
      cases hi : xr_isR v with
      | false => rw [hi] at h; cases h
      | true =>
        rw [hi] at h
        cases h
        rw [hret] at hr
        refine W.aret (v := xr_v ep ba sg v) hx hb hr (Or.inl ⟨_, rfl⟩) ?_ (fun t ht _ => hq _ t rfl ht) hf hd
        cases v <;> first | exact Or.inl rfl | exact Or.inr ⟨_, rfl⟩ | cases hi
    · cases h
  · cases h
theorem xr_XC_of {t : State} {k : Nat} {w : List xr_C} {b : Bool} (hI : xr_I D ep ba sg cy s w b ce H locs) (hz : H.size ≤ t.heap.size) (hq : ∀ q : Nat, q < H.size → t.heap[q]? = H[q]?) : xr_XC D ep ba sg cy k w (xr_Ex k) s t :=
  ⟨rfl, hI.1.kept (fun j x hx => hq _ ((hI.1 j x hx).lt)), Nat.le_trans hI.2.2.1 hz, xr_Fr_of hI.2.1 hz hq⟩
set_option maxHeartbeats 4000000 in
theorem xr_thr_ok {M : xr_M} {t pc : Nat} {st : List Value} {w : List xr_C} {b : Bool} {Qc : Array Value → State → Outcome → State → Prop} (hst : l.stackTraces = false) (hs : xr_site M pc t = true) (hcs : xr_cs st ≤ 8) (hd5 : 5 ≤ d) (hx : p.tables.exec = Jvm.exec) (hb : c.code = M.2.1) (hml : c.maxLocals = M.2.2.1) (hown : s.vm.findClass M.1.cls = some m.cls) (hlocks : meth.locks = false) (hts : ∀ w ∈ xr_tb, w.before args s = true) (hX : xr_X ba sg s) (hTab : c.exceptionTable.toList = tableOf M.2.2.2.2.1) (hRf : d + 1 ≤ R.frames) (hRl : 150 * (d + 1) ≤ R.locals) (hRc : ce + 1 ≤ R.cells) (hRs : sl + 6 ≤ R.slots) (hsz : ls.size = M.2.2.1) (hI : xr_I D ep ba sg cy s w b ce H locs) :
    W p l e R s m args below meth c H locs ce sl (vx_MQ below Qc (xr_XC D ep ba sg cy t w) args s (ce + 1) (sl + 6) (fun q => ba ≤ q)) (F0 m pc ls (xr_sv ep ba sg st)) := by
  obtain ⟨w1, w2, w3, w4⟩ := xr_ii
  unfold xr_site at hs
  split at hs
  · simp only [Bool.and_eq_true, decide_eq_true_eq] at hs
    obtain ⟨e1, e2, e3, e4⟩ := hs
    have e3 := Nat.eq_of_beq_eq_true e3
    subst e3
    rw [e2] at hb
    have hown : s.vm.findClass "NoiseFields" = some m.cls := by rw [e1] at hown; exact hown
    obtain ⟨d0, d3, d4, d7, d10⟩ := xr_d0
    refine vx_throwSW (names := xr_nm) (ik := 402) (is := 404) (ic := 406) (sa := sg 2) (A := fun q => ba ≤ q) hx hb hst hown (by decide +kernel) (by decide +kernel) (hts _ w3) (hts _ w1) hX.2.2.2.1 (xr_both_ok xr_at0 hts hX.2.1) xr_go0 hX.2.2.2.2.2.1 hX.2.2.2.2.2.2.1 hI.2.1 (hsz.trans hml.symm) d0 d3 d4 d7 d10 ?_ ?_ ?_ hRc hRs hlocks (fun t _ hz hq => xr_XC_of (k := 0) hI hz hq) hI.2.1.2.2 (Nat.le_refl _) (Nat.le_refl _)
    · rw [hTab, e4]; intro x hx; cases hx
    · show 2 + 3 < R.frames; omega
    · rw [xr_cs_v]; show _ + (13 * 3 + 43) ≤ R.locals; omega
  · simp only [Bool.and_eq_true, decide_eq_true_eq] at hs
    obtain ⟨e1, e2, e3, e4⟩ := hs
    have e3 := Nat.eq_of_beq_eq_true e3
    subst e3
    rw [e2] at hb
    have hown : s.vm.findClass "NoiseFields" = some m.cls := by rw [e1] at hown; exact hown
    obtain ⟨d0, d3, d4, d7, d10⟩ := xr_d1
    refine xr_throwX (ix := 13) (rx := prog_32_method_4_code) (x0 := by decide +kernel) (x1 := by decide +kernel) (x2 := by decide +kernel) (x5 := by decide +kernel) (names := xr_nm) (ik := 395) (is := 397) (ic := 399) (sa := sg 3) (A := fun q => ba ≤ q) hx hb hst hown (by decide +kernel) (by decide +kernel) (hts _ w4) (hts _ w2) hX.2.2.2.2.1 (xr_both_ok xr_at1 hts hX.2.1) xr_go1 hX.2.2.2.2.2.1 hX.2.2.2.2.2.2.1 hI.2.1 (hsz.trans hml.symm) d0 d3 d4 d7 d10 ?_ ?_ ?_ hRc hRs hlocks (fun t _ hz hq => xr_XC_of (k := 1) hI hz hq) hI.2.1.2.2 (Nat.le_refl _) (Nat.le_refl _)
    · rw [hTab, e4]; intro x hx; cases hx
    · show 2 + 3 < R.frames; omega
    · rw [xr_cs_v]; show _ + (13 * 3 + 43) ≤ R.locals; omega
  · cases hs
theorem xr_pas_ok {M : xr_M} {t pc : Nat} {rest : List Value} {w : List xr_C} {q : Addr} {cl : Cell} {Qc : Array Value → State → Outcome → State → Prop} (hh : M.2.2.2.2.1 = []) (hTab : c.exceptionTable.toList = tableOf M.2.2.2.2.1) (hlocks : meth.locks = false) (hI : xr_I D ep ba sg cy s w false ce H locs) (hcell : H[q]? = some cl) (hv : cl.vm = .none) (hcl : s.vm.findClass (xr_Ex t) = some cl.cls) : vx_W p l e R s m args below meth c H locs ce sl (vx_MQ below Qc (xr_XC D ep ba sg cy t w) args s ce sl (fun q => ba ≤ q)) (F0 m pc ls rest) q :=
  vx_out (by rw [hTab, hh]; intro x hx; cases hx) hlocks hcell hv hcl (fun t9 ht _ => xr_XC_of hI (by rw [ht]; exact Nat.le_refl _) (fun q _ => by rw [ht])) hI.2.1.2.2 (Nat.le_refl _) (Nat.le_refl _)
end XRM
