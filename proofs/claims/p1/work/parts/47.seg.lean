/-! worlds made small: what is shadowed, or as usual, left out -/
theorem xz_ne {a b : Nat} (h : a ≠ b) : Nat.beq a b = false := Bool.eq_false_iff.mpr (fun z => h (Nat.eq_of_beq_eq_true z))
def xz_del (i : Nat) (l : xr_L) : xr_L := l.filter (fun q => !Nat.beq i q.1)
def xz_in (i : Nat) (v : Value) : xr_L → xr_L
  | [] => [(i, v)]
  | (j, u) :: t => bif Nat.beq i j then (i, v) :: t else bif Nat.blt i j then (i, v) :: (j, u) :: t else (j, u) :: xz_in i v t
def xz_n (d : Value) : xr_L → xr_L
  | [] => []
  | (i, v) :: t => bif xr_qv v d then xz_del i (xz_n d t) else xz_in i v (xz_n d t)
theorem xz_del_at {i : Nat} {d : Value} {j : Nat} : ∀ l : xr_L, xr_at (xz_del i l) j d = bif Nat.beq j i then d else xr_at l j d
  | [] => by cases hji : Nat.beq j i <;> rfl
  | (k, v) :: t => by
    have ih := xz_del_at (i := i) (d := d) (j := j) t
    by_cases hik : i = k
    · subst hik
      have e : xz_del i ((i, v) :: t) = xz_del i t := by simp [xz_del]
      rw [e, ih]
      by_cases hji : j = i
      · subst hji
        rw [Nat.beq_refl]; rfl
      · rw [xz_ne hji]
        show xr_at t j d = bif Nat.beq j i then v else xr_at t j d
        rw [xz_ne hji]; rfl
    · have e : xz_del i ((k, v) :: t) = (k, v) :: xz_del i t := by
        show List.filter _ _ = _
        rw [List.filter_cons_of_pos (by rw [xz_ne hik]; rfl)]; rfl
      rw [e]
      show (bif Nat.beq j k then v else xr_at (xz_del i t) j d) = bif Nat.beq j i then d else (bif Nat.beq j k then v else xr_at t j d)
      rw [ih]
      by_cases hji : j = i
      · subst hji
        rw [xz_ne hik, Nat.beq_refl]; rfl
      · rw [xz_ne hji]; rfl
theorem xz_in_at {i : Nat} {v d : Value} {j : Nat} : ∀ l : xr_L, xr_at (xz_in i v l) j d = bif Nat.beq j i then v else xr_at l j d
  | [] => rfl
  | (k, u) :: t => by
    unfold xz_in
    by_cases hik : i = k
    · subst hik
      rw [Nat.beq_refl, cond_true]
      show (bif Nat.beq j i then v else xr_at t j d) = bif Nat.beq j i then v else (bif Nat.beq j i then u else xr_at t j d)
      cases Nat.beq j i <;> rfl
    · rw [xz_ne hik, cond_false]
      cases hb : Nat.blt i k with
      | true => rfl
      | false =>
        rw [cond_false]
        show (bif Nat.beq j k then u else xr_at (xz_in i v t) j d) = bif Nat.beq j i then v else (bif Nat.beq j k then u else xr_at t j d)
        rw [xz_in_at t]
        by_cases hji : j = i
        · subst hji
          rw [xz_ne hik, Nat.beq_refl]; rfl
        · rw [xz_ne hji]; rfl
theorem xz_n_at {d : Value} {j : Nat} : ∀ l : xr_L, xr_at (xz_n d l) j d = xr_at l j d
  | [] => rfl
  | (i, v) :: t => by
    unfold xz_n
    show _ = bif Nat.beq j i then v else xr_at t j d
    cases hq : xr_qv v d with
    | true =>
      have e := xr_qv_ok hq
      subst e
      rw [cond_true, xz_del_at, xz_n_at t]
    | false => rw [cond_false, xz_in_at, xz_n_at t]
def xz_c (c : xr_C) : xr_C := match c with
  | .inl q => .inl q
  | .inr (2, n, as) => .inr (2, n, xz_n (.long 0) as)
  | .inr (3, n, as) => .inr (3, n, xz_n .null as)
  | .inr (kd, n, as) => .inr (kd, n, xz_n (.int 0) as)
def xz_w (w : List xr_C) : List xr_C := w.map xz_c
-- equal but for the names of unknowns
def xz_mem (a b : Nat) : List (Nat × Nat) → Bool
  | [] => false
  | q :: t => (Nat.beq q.1 a && Nat.beq q.2 b) || xz_mem a b t
theorem xz_mem_ok {a b : Nat} : ∀ {rn : List (Nat × Nat)}, xz_mem a b rn = true → (a, b) ∈ rn
  | [], h => by cases h
  | q :: t, h => by
    simp only [xz_mem, Bool.or_eq_true, Bool.and_eq_true] at h
    rcases h with ⟨h1, h2⟩ | h
    · have : q = (a, b) := Prod.ext (Nat.eq_of_beq_eq_true h1) (Nat.eq_of_beq_eq_true h2)
      rw [this]; exact List.mem_cons_self
    · exact List.mem_cons_of_mem _ (xz_mem_ok h)
def xz_ev (rn : List (Nat × Nat)) (v v0 : Value) : Bool := match v, v0 with
  | .retAddr a, .retAddr b => xz_mem a b rn
  | .int x, .int y => Nat.beq (xr_u x) (xr_u y)
  | .ref x, .ref y => Nat.beq x y
  | .null, .null => true
  | .long x, .long y => decide (x = y)
  | _, _ => false
section XZR
variable {rn : List (Nat × Nat)} {ep ep' : Nat → Int32} {ba : Nat} {sg : Nat → Nat} {cy : Nat → ClassId}
theorem xz_ev_ok (hrn : ∀ q ∈ rn, ep q.1 = ep' q.2) {v v0 : Value} (h : xz_ev rn v v0 = true) : xr_v ep ba sg v = xr_v ep' ba sg v0 := by
  unfold xz_ev at h
  split at h
  · show Value.int _ = Value.int _
    rw [hrn _ (xz_mem_ok h)]
  · rw [xr_u_inj h]; rfl
  · rw [Nat.eq_of_beq_eq_true h]; rfl
  · rfl
  · rw [of_decide_eq_true h]; rfl
  · cases h
def xz_es (rn : List (Nat × Nat)) : List Value → List Value → Bool
  | [], [] => true
  | a :: s, b :: t => xz_ev rn a b && xz_es rn s t
  | _, _ => false
theorem xz_es_ok (hrn : ∀ q ∈ rn, ep q.1 = ep' q.2) {a b : List Value} (h : xz_es rn a b = true) : a.map (xr_v ep ba sg) = b.map (xr_v ep' ba sg) := by
  induction a generalizing b with
  | nil => cases b with
    | nil => rw [List.map_nil, List.map_nil]
    | cons y t => simp [xz_es] at h
  | cons x t ih => cases b with
    | nil => simp [xz_es] at h
    | cons y u =>
      simp only [xz_es, Bool.and_eq_true] at h
      rw [List.map_cons, List.map_cons, xz_ev_ok hrn h.1, ih h.2]
def xz_el (rn : List (Nat × Nat)) : xr_L → xr_L → Bool
  | [], [] => true
  | a :: s, b :: t => Nat.beq a.1 b.1 && (xz_ev rn a.2 b.2 && xz_el rn s t)
  | _, _ => false
theorem xz_el_at (hrn : ∀ q ∈ rn, ep q.1 = ep' q.2) {j : Nat} {d : Value} (hd : xr_v ep ba sg d = xr_v ep' ba sg d) : ∀ {a b : xr_L}, xz_el rn a b = true → xr_v ep ba sg (xr_at a j d) = xr_v ep' ba sg (xr_at b j d)
  | [], [], _ => hd
  | (i, v) :: s, (k, u) :: t, h => by
    simp only [xz_el, Bool.and_eq_true] at h
    have h1 := Nat.eq_of_beq_eq_true h.1
    subst h1
    show xr_v ep ba sg (bif Nat.beq j i then v else xr_at s j d) = xr_v ep' ba sg (bif Nat.beq j i then u else xr_at t j d)
    cases Nat.beq j i with
    | true => exact xz_ev_ok hrn h.2.1
    | false => exact xz_el_at hrn hd h.2.2
  | [], _ :: _, h => by cases h
  | _ :: _, [], h => by cases h
def xz_ec (rn : List (Nat × Nat)) (a b : xr_C) : Bool := match a, b with
  | .inl (ci, fs), .inl (cj, gs) => Nat.beq ci cj && xz_es rn fs gs
  | .inr (kd, n, as), .inr (ke, k, bs) => Nat.beq kd ke && (Nat.beq n k && xz_el rn as bs)
  | _, _ => false
theorem xz_A {kd n : Nat} {as bs : xr_L} (h : ∀ (j : Nat) (d : Value), (d = .long 0 ∨ d = .null ∨ d = .int 0) → (kd = 2 → d = .long 0) → (kd = 3 → d = .null) → (kd ≠ 2 → kd ≠ 3 → d = .int 0) → xr_v ep ba sg (xr_at as j d) = xr_v ep' ba sg (xr_at bs j d)) : xr_A ep ba sg kd n as = xr_A ep' ba sg kd n bs := by
  unfold xr_A
  split
  · have e : (fun j => xr_l (xr_v ep ba sg (xr_at as j (.long 0)))) = (fun j => xr_l (xr_v ep' ba sg (xr_at bs j (.long 0)))) := funext fun j => by rw [h j (.long 0) (Or.inl rfl) (fun _ => rfl) (fun q => by cases q) (fun q => absurd rfl q)]
    rw [e]
  · have e : (fun j => xr_r (xr_v ep ba sg (xr_at as j .null))) = (fun j => xr_r (xr_v ep' ba sg (xr_at bs j .null))) := funext fun j => by rw [h j .null (Or.inr (Or.inl rfl)) (fun q => by cases q) (fun _ => rfl) (fun _ q => absurd rfl q)]
    rw [e]
  · rename_i h2 h3
    have e : (fun j => xr_i (xr_v ep ba sg (xr_at as j (.int 0)))) = (fun j => xr_i (xr_v ep' ba sg (xr_at bs j (.int 0)))) := funext fun j => by rw [h j (.int 0) (Or.inr (Or.inr rfl)) (fun q => absurd q h2) (fun q => absurd q h3) (fun _ _ => rfl)]
    rw [e]
theorem xz_c_ok (c : xr_C) : xr_e ep ba sg cy (xz_c c) = xr_e ep ba sg cy c := by
  unfold xz_c
  split
  · rfl
  · rename_i n as
    have e := xz_A (ep := ep) (ep' := ep) (ba := ba) (sg := sg) (kd := 2) (n := n) (as := xz_n (.long 0) as) (bs := as) (fun j d _ h2 _ _ => by rw [h2 rfl, xz_n_at])
    exact congrArg (fun q => Sum.inl (cy 2, q)) e
  · rename_i n as
    have e := xz_A (ep := ep) (ep' := ep) (ba := ba) (sg := sg) (kd := 3) (n := n) (as := xz_n .null as) (bs := as) (fun j d _ _ h3 _ => by rw [h3 rfl, xz_n_at])
    exact congrArg (fun q => Sum.inl (cy 3, q)) e
  · rename_i kd n as h2 h3
    have e := xz_A (ep := ep) (ep' := ep) (ba := ba) (sg := sg) (kd := kd) (n := n) (as := xz_n (.int 0) as) (bs := as) (fun j d _ _ _ h4 => by rw [h4 (fun q => h2 q) (fun q => h3 q), xz_n_at])
    exact congrArg (fun q => Sum.inl (cy kd, q)) e
theorem xz_w_ok : ∀ (w : List xr_C) (k : Nat), xr_w ep ba sg cy k (xz_w w) = xr_w ep ba sg cy k w
  | [], _ => rfl
  | c :: t, k => by
    show (ba + k, xr_e ep ba sg cy (xz_c c)) :: xr_w ep ba sg cy (k + 1) (xz_w t) = (ba + k, xr_e ep ba sg cy c) :: xr_w ep ba sg cy (k + 1) t
    rw [xz_c_ok, xz_w_ok t]
theorem xz_ec_ok (hrn : ∀ q ∈ rn, ep q.1 = ep' q.2) {a b : xr_C} (h : xz_ec rn a b = true) : xr_e ep ba sg cy a = xr_e ep' ba sg cy b := by
  unfold xz_ec at h
  split at h
  · simp only [Bool.and_eq_true] at h
    show Sum.inr (_, _) = Sum.inr (_, _)
    rw [Nat.eq_of_beq_eq_true h.1, xz_es_ok hrn h.2]
  · simp only [Bool.and_eq_true] at h
    show Sum.inl (_, _) = Sum.inl (_, _)
    rw [Nat.eq_of_beq_eq_true h.1, Nat.eq_of_beq_eq_true h.2.1, xz_A (ep' := ep') (fun j d hd _ _ _ => xz_el_at hrn (by rcases hd with rfl | rfl | rfl <;> rfl) h.2.2)]
  · cases h
def xz_ew (rn : List (Nat × Nat)) : List xr_C → List xr_C → Bool
  | [], [] => true
  | a :: s, b :: t => xz_ec rn a b && xz_ew rn s t
  | _, _ => false
theorem xz_ew_ok (hrn : ∀ q ∈ rn, ep q.1 = ep' q.2) : ∀ {a b : List xr_C} (k : Nat), xz_ew rn a b = true → xr_w ep ba sg cy k a = xr_w ep' ba sg cy k b ∧ a.length = b.length
  | [], [], _, _ => ⟨rfl, rfl⟩
  | a :: s, b :: t, k, h => by
    simp only [xz_ew, Bool.and_eq_true] at h
    obtain ⟨h1, h2⟩ := xz_ew_ok hrn (a := s) (b := t) (k + 1) h.2
    refine ⟨?_, by rw [List.length_cons, List.length_cons, h2]⟩
    show (ba + k, xr_e ep ba sg cy a) :: xr_w ep ba sg cy (k + 1) s = (ba + k, xr_e ep' ba sg cy b) :: xr_w ep' ba sg cy (k + 1) t
    rw [xz_ec_ok hrn h.1, h1]
  | [], _ :: _, _, h => by cases h
  | _ :: _, [], _, h => by cases h
theorem xz_eq (hrn : ∀ q ∈ rn, ep q.1 = ep' q.2) {a b : List xr_C} (h : xz_ew rn (xz_w a) b = true) : xr_w ep ba sg cy 0 a = xr_w ep' ba sg cy 0 b ∧ a.length = b.length := by
  obtain ⟨h1, h2⟩ := xz_ew_ok (ba := ba) (sg := sg) (cy := cy) hrn 0 h
  exact ⟨(xz_w_ok a 0).symm.trans h1, (by rw [xz_w, List.length_map] at h2; exact h2)⟩
/-- the locals that are wanted are there -/
def xz_sub (rn : List (Nat × Nat)) (l l0 : xr_L) : Bool := l0.all (fun q => match xr_get l q.1 with
  | some v => xz_ev rn v q.2
  | none => false)
theorem xz_sub_ok (hrn : ∀ q ∈ rn, ep q.1 = ep' q.2) {l l0 : xr_L} (h : xz_sub rn l l0 = true) {ls : Array Slot} {nL : Nat} (hl : lv_has ls nL (xr_lv ep ba sg l)) : lv_has ls nL (xr_lv ep' ba sg l0) := by
  refine ⟨hl.1, hl.2.1, fun q hq => ?_⟩
  obtain ⟨q0, h0, rfl⟩ := List.mem_map.mp hq
  have h1 := List.all_eq_true.mp h q0 h0
  split at h1
  · rename_i v hv
    show ls[q0.1]? = some (.val (xr_v ep' ba sg q0.2))
    rw [← xz_ev_ok (ba := ba) (sg := sg) hrn h1]
    exact xr_get_ok hl hv
  · cases h1
end XZR
def xz_K (rn : List (Nat × Nat)) (pc0 : Nat) (l0 : xr_L) (w0 : List xr_C) (ce0 sl0 : Nat) : xr_Ih := fun rem l st w b ce sl =>
  bif Nat.beq (xr_pc rem) pc0 && (xz_sub rn l l0 && (xr_qs st [] && (b && (Nat.beq ce ce0 && (Nat.beq sl sl0 && xz_ew rn (xz_w w) w0))))) then some (xr_mark true ce0 sl0) else none
theorem xz_K_ok {rn : List (Nat × Nat)} {pc0 : Nat} {l0 : xr_L} {w0 : List xr_C} {ce0 sl0 : Nat} {rem : List xr_En} {l : xr_L} {st : List Value} {w : List xr_C} {b : Bool} {ce sl : Nat} {o : xr_Out} (h : xz_K rn pc0 l0 w0 ce0 sl0 rem l st w b ce sl = some o) : xr_pc rem = pc0 ∧ xz_sub rn l l0 = true ∧ st = [] ∧ b = true ∧ ce = ce0 ∧ sl = sl0 ∧ xz_ew rn (xz_w w) w0 = true := by
  unfold xz_K at h
  simp only [Bool.cond_eq_ite] at h
  split at h
  · rename_i q
    simp only [Bool.and_eq_true] at q
    exact ⟨Nat.eq_of_beq_eq_true q.1, q.2.1, xr_qs_ok q.2.2.1, q.2.2.2.1, Nat.eq_of_beq_eq_true q.2.2.2.2.1, Nat.eq_of_beq_eq_true q.2.2.2.2.2.1, q.2.2.2.2.2.2⟩
  · cases h
def xz_isO (rn : List (Nat × Nat)) (o : Option xr_Out) (rv : Option Value) (w0 : List xr_C) (ce0 sl0 : Nat) : Bool := match o with
  | some (.inl r, w, b, ce, sl) => xz_es rn r.toList rv.toList && (b && (Nat.beq ce ce0 && (Nat.beq sl sl0 && xz_ew rn (xz_w w) w0)))
  | _ => false
/-! a method's run in pieces -/
def xs_I (D : va_G) (ba : Nat) (s : State) (WW : va_W) (n : Nat) (b : Bool) (ce : Nat) (H : Heap) (locs : List Loc) : Prop := va_P D vwCl WW H ∧ va_S (fun q => ba ≤ q) s.heap H locs ∧ ba + n ≤ H.size ∧ (b = true → s.heap.size + ce = ba + n)
def xs_Q (D : va_G) (ba : Nat) (RV : Option Value) (WO : va_W) (n : Nat) (b : Bool) (dc : Nat) : Array Value → State → Outcome → State → Prop := fun _ st o t =>
  o = .returned RV ∧ va_P D vwCl WO t.heap ∧ ba + n ≤ t.heap.size ∧ (b = true → st.heap.size + dc = ba + n) ∧ xr_Fr ba st t
def xs_G (p : Program) (l : Launch) (e : Env) (R : Room) (s : State) (m : MethodId) (args : Array Value) (below : List Frame) (meth : Method) (c : Code) (D : va_G) (ba nL : Nat) (Q : State → Prop) (ceO slO pc : Nat) (LV : xr_L) (WW : va_W) (n ce sl : Nat) : Prop :=
  (ce ≤ ceO ∧ sl ≤ slO) ∧ ∀ (H : Heap) (locs : List Loc) (ls : Array Slot), xs_I D ba s WW n true ce H locs → lv_has ls nL LV → W p l e R s m args below meth c H locs ce sl Q (F0 m pc ls [])
def xs_B (p : Program) (R : Room) (s : State) (m : MethodId) (args : Array Value) (meth : Method) (c : Code) (D : va_G) (ba : Nat) (sg : Nat → Nat) (cy : Nat → ClassId) (d : Nat) (M : xr_M) : Prop :=
  p.tables.exec = Jvm.exec ∧ c.code = M.2.1 ∧ c.maxLocals = M.2.2.1 ∧ s.vm.findClass M.1.cls = some m.cls ∧ meth.name = M.1.name ∧ (∀ w ∈ xr_tb, w.before args s = true) ∧ va_K D vwCl (xr_ty cy) s ∧ xr_X ba sg s ∧ ba ≤ s.heap.size ∧ c.exceptionTable.toList = tableOf M.2.2.2.2.1 ∧ d + 1 ≤ R.frames ∧ 150 * (d + 1) ≤ R.locals ∧ meth.sig.returnType = M.2.2.2.1 ∧ meth.locks = false
section XSG
variable {p : Program} {l : Launch} {e : Env} {R : Room} {s : State} {m : MethodId} {args : Array Value} {below : List Frame} {meth : Method} {c : Code}
variable {ep ep' : Nat → Int32} {ba : Nat} {sg : Nat → Nat} {cy : Nat → ClassId} {D : va_G} {mt : List xr_M} {d : Nat} {M : xr_M}
set_option maxHeartbeats 1000000 in
/-- a piece that ends at a cut -/
theorem xs_cut (hok : xr_Mok mt M = true) (B : xs_B p R s m args meth c D ba sg cy d M) {df : xr_D} {fx : xr_F} {callf : Nat → List Value → List xr_C → Bool → Option xr_Out} (hD : xr_okD ep ba sg df) (hF : xr_okF ep ba sg fx) (hcall : ∀ u as w b o, callf u as w b = some o → xr_Con l D ep ba sg cy mt d u as w b o) {Q : State → Prop} {ceO slO : Nat} (hRc : ceO ≤ R.cells) (hRs : slO ≤ R.slots) {rn : List (Nat × Nat)} {pc0 : Nat} {l0 : xr_L} {w0 : List xr_C} {ce0 sl0 : Nat} (hrn : ∀ q ∈ rn, ep q.1 = ep' q.2)
    (hG : xs_G p l e R s m args below meth c D ba M.2.2.1 Q ceO slO pc0 (xr_lv ep' ba sg l0) (xr_w ep' ba sg cy 0 w0) w0.length ce0 sl0) {n k : Nat} {lv : xr_L} {w : List xr_C} {ce sl : Nat} (hrun : xr_isM (xr_lp (xz_K rn pc0 l0 w0 ce0 sl0) df fx none mt d callf M n (M.2.2.2.2.2.2.drop k) lv [] w true ce sl) true ce0 sl0 = true) :
    xs_G p l e R s m args below meth c D ba M.2.2.1 Q ceO slO (xr_pc (M.2.2.2.2.2.2.drop k)) (xr_lv ep ba sg lv) (xr_w ep ba sg cy 0 w) w.length ce sl := by
  obtain ⟨hx, hb, hml, hown, hname, hts, hK, hX, hba, hTab, hRf, hRl, hret, hlk⟩ := B
  simp only [xr_Mok, Bool.and_eq_true, decide_eq_true_eq] at hok
  obtain ⟨-, -, hpc0, hcs, hall⟩ := hok
  have hMt : ∀ x ∈ M.2.2.2.2.2.2, xr_chk mt M x = true := List.all_eq_true.mp hall
  obtain ⟨⟨g1, g2⟩, g3⟩ := hG
  have key := xr_lp_ok (Q := Q) (R := R) (e := e) (below := below) (l := l) (out := xr_mark true ce0 sl0) (scr := none) hD hF hcall hMt hcs hx hb hml hown hname hts hK hX hba (fun xs h => by cases h) hTab hRf hRl (Nat.le_trans g1 hRc) (Nat.le_trans g2 hRs) (fun _ _ _ _ _ _ _ _ _ _ _ h => by cases h) (fun t pc st w b ce sl H locs ls h hs => by
        have h1 : 777 = t := by injection h with h1 h2; injection h1
        subst h1
        simp [xr_site] at hs) (fun t pc rest w ce sl H locs ls q cl h => by
        have h1 : true = false := by injection h with h1 h2; injection h2 with h3 h4; injection h4
        cases h1) (fun rem lv st w b ce sl h hmem => by
        obtain ⟨h1, h2, rfl, rfl, rfl, rfl, h7⟩ := xz_K_ok h
        obtain ⟨e1, e2⟩ := xz_eq (ba := ba) (sg := sg) (cy := cy) hrn h7
        refine ⟨⟨fun _ => rfl, Nat.le_refl _, Nat.le_refl _⟩, fun H locs ls hI hl => ?_⟩
        rw [h1]
        refine g3 H locs ls ?_ (xz_sub_ok hrn h2 hl)
        unfold xr_I at hI
        rw [e1, e2] at hI
        exact hI) n _ _ _ _ _ _ _ (xr_isM_ok hrun) (fun _ h => List.mem_of_mem_drop h)
  exact ⟨⟨Nat.le_trans key.1.2.1 g1, Nat.le_trans key.1.2.2 g2⟩, fun H locs ls hI hl => key.2 H locs ls hI hl⟩
set_option maxHeartbeats 1000000 in
/-- a piece that ends the method -/
theorem xs_fin (hok : xr_Mok mt M = true) (B : xs_B p R s m args meth c D ba sg cy d M) {df : xr_D} {fx : xr_F} {callf : Nat → List Value → List xr_C → Bool → Option xr_Out} (hD : xr_okD ep ba sg df) (hF : xr_okF ep ba sg fx) (hcall : ∀ u as w b o, callf u as w b = some o → xr_Con l D ep ba sg cy mt d u as w b o) {ceO slO : Nat} (hRc : ceO ≤ R.cells) (hRs : slO ≤ R.slots) {rn : List (Nat × Nat)} (hrn : ∀ q ∈ rn, ep q.1 = ep' q.2) {rv : Option Value} {wO : List xr_C}
    {n k : Nat} {lv : xr_L} {w : List xr_C} {ce sl : Nat} (hrun : xz_isO rn (xr_lp xr_K0 df fx none mt d callf M n (M.2.2.2.2.2.2.drop k) lv [] w true ce sl) rv wO ceO slO = true) :
    xs_G p l e R s m args below meth c D ba M.2.2.1 (MQ below (xs_Q D ba (rv.map (xr_v ep' ba sg)) (xr_w ep' ba sg cy 0 wO) wO.length true ceO) args s ceO slO (fun q => ba ≤ q)) ceO slO (xr_pc (M.2.2.2.2.2.2.drop k)) (xr_lv ep ba sg lv) (xr_w ep ba sg cy 0 w) w.length ce sl := by
  obtain ⟨hx, hb, hml, hown, hname, hts, hK, hX, hba, hTab, hRf, hRl, hret, hlk⟩ := B
  simp only [xr_Mok, Bool.and_eq_true, decide_eq_true_eq] at hok
  obtain ⟨-, -, hpc0, hcs, hall⟩ := hok
  have hMt : ∀ x ∈ M.2.2.2.2.2.2, xr_chk mt M x = true := List.all_eq_true.mp hall
  generalize ho : xr_lp xr_K0 df fx none mt d callf M n (M.2.2.2.2.2.2.drop k) lv [] w true ce sl = o at hrun
  unfold xz_isO at hrun
  split at hrun
  · rename_i r w' b' ce' sl'
    simp only [Bool.and_eq_true] at hrun
    obtain ⟨h1, h2, h3, h4, h5⟩ := hrun
    subst h2
    have h3 := Nat.eq_of_beq_eq_true h3
    have h4 := Nat.eq_of_beq_eq_true h4
    subst h3 h4
    obtain ⟨e1, e2⟩ := xz_eq (ba := ba) (sg := sg) (cy := cy) hrn h5
    have e3 : rv.map (xr_v ep' ba sg) = r.map (xr_v ep ba sg) := by
      have q := xz_es_ok (ba := ba) (sg := sg) hrn h1
      cases r with
      | none => cases rv with
        | none => rw [Option.map_none, Option.map_none]
        | some v => simp [xz_es] at h1
      | some u => cases rv with
        | none => simp [xz_es] at h1
        | some v =>
          show some _ = some _
          simp only [Option.toList, List.map_cons, List.map_nil, List.cons.injEq, and_true] at q
          rw [q]
    rw [e3, ← e1, ← e2]
    have key := xr_lp_ok (Q := MQ below (xs_Q D ba (r.map (xr_v ep ba sg)) (xr_w ep ba sg cy 0 w') w'.length true ce') args s ce' sl' (fun q => ba ≤ q)) (R := R) (e := e) (below := below) (l := l) (scr := none) hD hF hcall hMt hcs hx hb hml hown hname hts hK hX hba (fun xs h => by cases h) hTab hRf hRl hRc hRs (fun i pc st rv2 w2 b2 ce sl H locs ls ho hrt hd hI => by
        cases ho
        exact xr_end_ok hrt hx hb hret hlk hd hI) (fun t pc st w2 b2 ce sl H locs ls ho => by cases ho) (fun t pc rest w2 ce sl H locs ls q cl ho => by cases ho) (fun _ _ _ _ _ _ _ h => by cases h) n _ _ _ _ _ _ _ ho (fun _ h => List.mem_of_mem_drop h)
    exact ⟨⟨key.1.2.1, key.1.2.2⟩, fun H locs ls hI hl => key.2 H locs ls hI hl⟩
  · cases hrun
set_option maxHeartbeats 1000000 in
/-- the contract out of the pieces -/
theorem xs_con {u : Nat} (hM : mt[u]? = some M) (hok : xr_Mok mt M = true) (hh : M.2.2.2.2.1 = []) {as : List Value} {w wO : List xr_C} {rv : Option Value} {ceO slO : Nat} (hsl : (lg_sl as).length ≤ M.2.2.1)
    (hG : ∀ (p : Program) (e : Env) (R : Room) (s : State) (m : MethodId) (args : Array Value) (below : List Frame) (meth : Method) (c : Code), xs_B p R s m args meth c D ba sg cy d M → ceO ≤ R.cells → slO ≤ R.slots → xs_G p l e R s m args below meth c D ba M.2.2.1 (MQ below (xs_Q D ba (rv.map (xr_v ep ba sg)) (xr_w ep ba sg cy 0 wO) wO.length true ceO) args s ceO slO (fun q => ba ≤ q)) ceO slO (xr_pc (M.2.2.2.2.2.2.drop 0)) (xr_lv ep ba sg (lv_args 0 as)) (xr_w ep ba sg cy 0 w) w.length 0 0) : xr_Con l D ep ba sg cy mt (d + 1) u as w true (.inl rv, wO, true, ceO, slO) := by
  have hpl : plainName M.1.cls = true ∧ xr_pc M.2.2.2.2.2.2 = 0 := by
    simp only [xr_Mok, Bool.and_eq_true, decide_eq_true_eq] at hok
    exact ⟨hok.1, hok.2.2.1⟩
  refine ⟨fun _ => rfl, fun M' hM' => ?_⟩
  cases Option.some.inj (hM.symm.trans hM')
  show Met l M.1 (xr_ws M) (xr_rm (d + 1) ceO slO) (xr_Pc D ep ba sg cy as w true) (xr_Qc D ep ba sg cy rv wO true ceO) ceO slO (fun q => ba ≤ q)
  have hw : xr_ws M = Cond.code M.1 M.2.1 M.2.2.1 M.2.2.2.1 :: xr_tb := by unfold xr_ws; rw [xr_hw_nil hh]
  refine Met.ofW hpl.1 hw (fun p e s m args below meth c s₁ B hml hPc => ?_)
  have hts : ∀ w ∈ xr_tb, w.before args s = true := fun w hw => atoms_spec (ws := xr_ws M) B.pre w (List.mem_cons_of_mem _ hw)
  obtain ⟨ha, hX, hK, hP, hge, hsz⟩ := hPc
  have hba : ba ≤ s.heap.size := by omega
  have g := (hG p e (headSpec (xr_ws M) (xr_rm (d + 1) ceO slO)).room s m args below meth c ⟨B.exec, B.bytes, hml, findClass_of_methodNamed B.named, (name_of_methodNamed B.named B.method).1, hts, hK, hX, hba, (by rw [hh]; exact xr_tabE hw B), Nat.le_refl _, Nat.le_refl _, B.returns, B.notSynchronized⟩ (Nat.le_refl _) (Nat.le_refl _)).2
  have hl := lv_entry (xr_sv ep ba sg as) (n := M.2.2.1) (by rw [xr_sll]; exact hsl)
  rw [xr_args] at hl
  have k := g s.heap [] _ ⟨hP, va_S.rf, hge, fun h => by have := hsz h; omega⟩ hl
  rw [List.drop_zero, hpl.2] at k
  rw [ha, lg_entry_eq]
  rw [ha] at k
  exact k
/-- a contract speaks of what a world holds, not of how it is written -/
theorem xs_con_w {u : Nat} {as : List Value} {w w' : List xr_C} {b : Bool} {o : xr_Out} (e1 : xr_w ep ba sg cy 0 w = xr_w ep ba sg cy 0 w') (e2 : w.length = w'.length) (h : xr_Con l D ep ba sg cy mt d u as w' b o) : xr_Con l D ep ba sg cy mt d u as w b o := by
  have e : xr_Pc D ep ba sg cy as w b = xr_Pc D ep ba sg cy as w' b := by
    unfold xr_Pc
    rw [e1, e2]
  unfold xr_Con at h ⊢
  rw [e]
  exact h
end XSG
