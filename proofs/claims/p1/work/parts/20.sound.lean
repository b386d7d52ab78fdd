/-! what the real machine does -/
def xr_Xt (ba : Nat) (sg : Nat → Nat) (s : State) : Prop :=
  vk_R "NoiseFields" 404 "an argument is outside what the document allows" (sg 2) s ∧ vk_R "NoiseFields" 397 "no such field, sound or order" (sg 3) s ∧
  vx_Zq Bundle.tN "UNASSIGNED_STACK" Bundle.steD (fun q => ba ≤ q) s s.heap ∧ vx_Zq Bundle.tN "SUPPRESSED_SENTINEL" Bundle.listD (fun q => ba ≤ q) s s.heap ∧
  va_Nc "java/lang/IllegalArgumentException" "java/util/NoSuchElementException" s
def xr_X (ba : Nat) (sg : Nat → Nat) (s : State) : Prop := xr_Z ba sg s ∧ (∀ w ∈ xr_ob, va_Nw w s) ∧ (Cond.arrayOver (.array .int)).before #[] s = true ∧ xr_Xt ba sg s
/-- the class of the rows of rows of ints stays as it is (after the kit's va_AO.moved, which is of rows of objects) -/
theorem xr_over_go {s U : State} {A A' : Array Value} (hW : s.WarmedH U.vm) (h : (Cond.arrayOver (.array .int)).before A s = true) : (Cond.arrayOver (.array .int)).before A' U = true := by
  have hvm := hW.alike
  have h0 : ∃ (comp c : ClassId) (k : Class), s.vm.findClass (FieldType.array .int).toString = some comp ∧ (s.vm.classes.findIdx? fun (x : Class) => match x.kind with | .array component _ => component == comp | _ => false) = some c ∧ s.vm.classes[c]? = some k ∧ k.kind = .array comp (.array .int) ∧ s.vm.findClass ("[" ++ (FieldType.array .int).toString) = some c := by
    have h : (Cond.arrayOver (.array .int)).holds A s none s [] = true := h
    simp only [Cond.holds, Cond.value, beq_iff_eq] at h
    cases hc : s.vm.findClass (FieldType.array .int).toString with
    | none => simp [hc] at h
    | some comp =>
      simp only [hc, Option.bind_some, Option.bind_eq_some_iff, Option.map_eq_some_iff] at h
      obtain ⟨c, hi, k, hk, hb⟩ := h
      obtain ⟨hlt, hp, -⟩ := Array.findIdx?_eq_some_iff_getElem.mp hi
      have hkk : s.vm.classes[c] = k := (Array.getElem?_eq_some_iff.mp hk).2
      rw [hkk] at hp
      cases hkind : k.kind with
      | array component ty =>
        rw [hkind] at hb hp
        simp at hb hp
        refine ⟨comp, c, k, rfl, hi, hk, ?_, hb.2⟩
        rw [hkind, hb.1, hp]
      | _ => rw [hkind] at hb; simp at hb
  obtain ⟨comp, c, k, h1, h2, h3, h4, h5⟩ := h0
  obtain ⟨k', hk', he⟩ := hvm.2.2 _ _ h3
  have hi : (U.vm.classes.findIdx? fun (x : Class) => match x.kind with | .array component _ => component == comp | _ => false) = some c := by
    have e1 := va_idx_bare U.vm comp
    have e2 := va_idx_bare s.vm comp
    have e3 : U.vm.bare = s.vm.bare := by first | exact hvm.bare_eq | exact hvm.bare_eq.symm
    rw [e3] at e1
    exact e1.symm.trans (e2.trans h2)
  have hkind : k'.kind = .array comp (.array .int) := by rw [he]; exact h4
  have f1 : U.vm.findClass (FieldType.array .int).toString = some comp := by rw [hvm.findClass]; exact h1
  have f2 : U.vm.findClass ("[" ++ (FieldType.array .int).toString) = some c := by rw [hvm.findClass]; exact h5
  unfold Cond.before Cond.holds
  simp only [Cond.value]
  rw [f1, Option.bind_some]
  refine (congrArg (fun o : Option Nat => (o.bind (fun c => (U.vm.classes[c]?).map fun (k : Class) => match k.kind with | .array _ ty => decide (ty = FieldType.array .int) && decide (U.vm.findClass ("[" ++ (FieldType.array .int).toString) = some c) | _ => false) == some true)) hi).trans ?_
  simp [hk', hkind, f2]
theorem xr_X_go {ba : Nat} {sg : Nat → Nat} {s U : State} {H : Heap} {locs : List Loc} (hX : xr_X ba sg s) (hW : s.WarmedH U.vm) (hS : va_S (fun q => ba ≤ q) s.heap H locs) (hH : U.heap = H) : xr_X ba sg U := by
  obtain ⟨⟨hz, ht, hs⟩, ho, hv, h1, h2, h3, h4, h5⟩ := hX
  have hal := hW.alike
  subst hH
  refine ⟨⟨(hz.kept hS.2.1).moved hal, (ht.kept hS.2.1).moved hal, xw_Z_go hs hW hS⟩, fun w hw => xr_owk_warm (List.mem_filter.mp hw).2 hW (ho w hw), xr_over_go hW hv, vk_R.warm hW h1, vk_R.warm hW h2, (h3.kept hS.2.1).moved hal, (h4.kept hS.2.1).moved hal, h5.moved hal⟩
def xr_Pc (D : va_G) (ep : Nat → Int32) (ba : Nat) (sg : Nat → Nat) (cy : Nat → ClassId) (as : List Value) (w : List xr_C) (b : Bool) : Array Value → State → Prop := fun a U =>
  a = (xr_sv ep ba sg as).toArray ∧ xr_X ba sg U ∧ va_K D vwCl (xr_ty cy) U ∧ va_P D vwCl (xr_w ep ba sg cy 0 w) U.heap ∧ ba + w.length ≤ U.heap.size ∧ (b = true → U.heap.size = ba + w.length)
def xr_Fr (ba : Nat) (st t : State) : Prop := st.heap.size ≤ t.heap.size ∧ ∀ q : Nat, q < st.heap.size → ¬ ba ≤ q → t.heap[q]? = st.heap[q]?
def xr_Qc (D : va_G) (ep : Nat → Int32) (ba : Nat) (sg : Nat → Nat) (cy : Nat → ClassId) (rv : Option Value) (w : List xr_C) (b : Bool) (dc : Nat) : Array Value → State → Outcome → State → Prop := fun _ st o t =>
  o = .returned (rv.map (xr_v ep ba sg)) ∧ va_P D vwCl (xr_w ep ba sg cy 0 w) t.heap ∧ ba + w.length ≤ t.heap.size ∧ (b = true → st.heap.size + dc = ba + w.length) ∧ xr_Fr ba st t
def xr_XC (D : va_G) (ep : Nat → Int32) (ba : Nat) (sg : Nat → Nat) (cy : Nat → ClassId) (k : Nat) (w : List xr_C) : String → State → State → Prop := fun E st t =>
  E = xr_Ex k ∧ va_P D vwCl (xr_w ep ba sg cy 0 w) t.heap ∧ ba + w.length ≤ t.heap.size ∧ xr_Fr ba st t
abbrev xr_rm (d ce sl : Nat) : Room := { frames := d, cells := ce, slots := sl, locals := 150 * d }
def xr_Con (l : Launch) (D : va_G) (ep : Nat → Int32) (ba : Nat) (sg : Nat → Nat) (cy : Nat → ClassId) (mt : List xr_M) (d u : Nat) (as : List Value) (w : List xr_C) (b : Bool) (o : xr_Out) : Prop :=
  (o.2.2.1 = true → b = true) ∧ ∀ M, mt[u]? = some M → match o.1 with
    | .inl rv => Met l M.1 (xr_ws M) (xr_rm d o.2.2.2.1 o.2.2.2.2) (xr_Pc D ep ba sg cy as w b) (xr_Qc D ep ba sg cy rv o.2.1 o.2.2.1 o.2.2.2.1) o.2.2.2.1 o.2.2.2.2 (fun q => ba ≤ q)
    | .inr k => vx_Met l M.1 (xr_ws M) (xr_rm d o.2.2.2.1 o.2.2.2.2) (xr_Pc D ep ba sg cy as w b) (fun _ _ _ _ => False) (xr_XC D ep ba sg cy k o.2.1) o.2.2.2.1 o.2.2.2.2 (fun q => ba ≤ q)
section XRC
variable {p : Program} {l : Launch} {e : Env} {R : Room} {s : State} {m : MethodId} {args : Array Value} {below : List Frame} {meth : Method} {c : Code} {H : Heap} {locs : List Loc} {ce sl : Nat} {Q : State → Prop}
variable {cc : ByteArray} {ep : Nat → Int32} {ba : Nat} {sg : Nat → Nat} {cy : Nat → ClassId} {D : va_G} {ls : Array Slot} {nL : Nat} {own : String} {mt : List xr_M} {d : Nat}
theorem xr_blind {as : List Value} {w : List xr_C} {b : Bool} : FrameBlind (xr_Pc D ep ba sg cy as w b) := by
  intro a U g mk h
  obtain ⟨h1, h2, h3, h4, h5, h6⟩ := h
  exact ⟨h1, xr_X_go h2 (State.WarmedH.refl U) (locs := []) va_S.rf rfl, va_K.moved (u := U) (U := U.calling g mk a) (Vm.Alike.refl U.vm) h3, h4, h5, h6⟩
theorem xr_pre {as : List Value} {w : List xr_C} {b : Bool} (hX : xr_X ba sg s) (hK : va_K D vwCl (xr_ty cy) s) (hI : xr_I D ep ba sg cy s w b ce H locs) (hup : H.size ≤ s.heap.size + ce) : ∀ U : State, U.heap = H → s.WarmedH U.vm → xr_Pc D ep ba sg cy as w b (xr_sv ep ba sg as).toArray U := by
  intro U hU hW
  refine ⟨rfl, xr_X_go hX hW hI.2.1 hU, va_K.moved hW.alike hK, by rw [hU]; exact hI.1, by rw [hU]; exact hI.2.2.1, fun hb => ?_⟩
  have h1 := hI.2.2.2 hb
  have h2 := hI.2.2.1
  rw [hU]
  omega
theorem xr_goodM {M : xr_M} (h : xr_hw M ∈ xr_tb) : GoodIn xr_tb (xr_ws M) := by
  intro w hw
  rcases List.mem_cons.mp hw with rfl | hw
  · exact xr_tb_good h
  · exact xr_tb_good hw
theorem xr_hasAll_cons {w : Cond} {ws : List Cond} {hs : List Nat} (h : xr_hasAll (w :: ws) hs = true) : w ∈ xr_tb ∧ ∃ hs', xr_hasAll ws hs' = true := by
  cases hs with
  | nil => cases h
  | cons a t =>
    simp only [xr_hasAll, Bool.and_eq_true] at h
    exact ⟨xr_has_ok h.1, t, h.2⟩
/-- what a call owes and gives: the callee's contract at this heap -/
theorem xr_I_ret {w w' : List xr_C} {b b' : Bool} {dc : Nat} {rv : Option Value} {a : Array Value} {v : Option Value} {st₀ t T' : State} {L : List Loc} (hI : xr_I D ep ba sg cy s w b ce H locs) (hup : H.size ≤ s.heap.size + ce) (hbb : b' = true → b = true) (h0 : st₀.heap = H) (hL : ∀ q ∈ L, ba ≤ q.base) (e1 : T'.heap = t.heap) (hq : xr_Qc D ep ba sg cy rv w' b' dc a st₀ (.returned v) t) : v = rv.map (xr_v ep ba sg) ∧ xr_I D ep ba sg cy s w' b' (ce + dc) T'.heap (locs ++ L) := by
  obtain ⟨hv, hP, hz, hsz, hf1, hf2⟩ := hq
  cases hv
  rw [h0] at hsz hf1 hf2
  refine ⟨rfl, by rw [e1]; exact hP, ⟨?_, ?_, ?_⟩, by rw [e1]; exact hz, fun hb => ?_⟩
  · rw [e1]; exact Nat.le_trans hI.2.1.1 hf1
  · intro q h1 h2
    rw [e1, hf2 q (Nat.lt_of_lt_of_le h1 hI.2.1.1) h2]
    exact hI.2.1.2.1 q h1 h2
  · intro q hq
    rcases List.mem_append.mp hq with h | h
    · exact hI.2.1.2.2 q h
    · exact hL q h
  · have h1 := hsz hb
    have h2 := hI.2.2.2 (hbb hb)
    have h3 := hI.2.2.1
    omega
theorem xr_I_thr {w w' : List xr_C} {b : Bool} {k : Nat} {E : String} {st₀ t T' : State} {L : List Loc} (hI : xr_I D ep ba sg cy s w b ce H locs) (h0 : st₀.heap = H) (hL : ∀ q ∈ L, ba ≤ q.base) (e1 : T'.heap = t.heap) (hq : xr_XC D ep ba sg cy k w' E st₀ t) (dc : Nat) : E = xr_Ex k ∧ xr_I D ep ba sg cy s w' false (ce + dc) T'.heap (locs ++ L) := by
  obtain ⟨hE, hP, hz, hf1, hf2⟩ := hq
  rw [h0] at hf1 hf2
  refine ⟨hE, by rw [e1]; exact hP, ⟨?_, ?_, ?_⟩, by rw [e1]; exact hz, fun hb => by cases hb⟩
  · rw [e1]; exact Nat.le_trans hI.2.1.1 hf1
  · intro q h1 h2
    rw [e1, hf2 q (Nat.lt_of_lt_of_le h1 hI.2.1.1) h2]
    exact hI.2.1.2.1 q h1 h2
  · intro q hq
    rcases List.mem_append.mp hq with h | h
    · exact hI.2.1.2.2 q h
    · exact hL q h
end XRC
