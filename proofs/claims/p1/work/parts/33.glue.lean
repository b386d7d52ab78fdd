/-! from the runs of one call to the law's end -/
def xt_Ctx (p : Program) (l : Launch) (s : State) (m : MethodId) (meth : Method) (c : Code) (b L : Nat) (xs : Nat → Int32) (D : va_G) (cy : Nat → ClassId) (sg : Nat → Nat) : Prop :=
  l.stackTraces = false ∧ meth.name = "law" ∧ c.exceptionTable.toList = tableOf [] ∧ lw_At p s m meth c b L xs ∧ va_K D vwCl (xr_ty cy) s ∧ xr_X s.heap.size sg s ∧ sg 0 = b ∧ (∀ M ∈ xr_mt, xr_Mok xr_mt M = true) ∧ xr_Mok xr_mt xm_law = true
def xt_Goal (p : Program) (l : Launch) (e : Env) (s : State) (m : MethodId) (below : List Frame) (meth : Method) (c : Code) (b : Nat) : Prop := W p l e room_1 s m #[Value.ref b] below meth c s.heap [] 0 0 (lw_Z below #[Value.ref b] s) (entryFrame m ([Value.ref b] : List Value).toArray 8)
section XTG
variable {p : Program} {l : Launch} {e : Env} {s : State} {m : MethodId} {below : List Frame} {meth : Method} {c : Code} {b L : Nat} {xs : Nat → Int32} {D : va_G} {cy : Nat → ClassId} {sg : Nat → Nat}
theorem xt_W (h : xt_Ctx p l s m meth c b L xs D cy sg) {ep : Nat → Int32} {df : xr_D} {fx : xr_F} {sm : Nat → Nat → List Value → List xr_C → Bool → Option xr_Out} {scr : List Value} (hD : xr_okD ep s.heap.size sg df) (hF : xr_okF ep s.heap.size sg fx) (hsm : ∀ d u as w b o, sm d u as w b = some o → xr_Con l D ep s.heap.size sg cy xr_mt d u as w b o) (hlen : scr.length = L) (hscr : ∀ (j : Nat) (v : Value), scr[j]? = some v → xr_v ep s.heap.size sg v = .int (xs j)) (hrun : xt_go df fx sm scr = true) : xt_Goal p l e s m below meth c b := by
  obtain ⟨hst, hnm, hTab, C0, hK, hX, hsg, hmt, hML⟩ := h
  exact xr_bridge2 hst hnm hTab C0 hK hX hsg hmt hML rfl rfl rfl rfl rfl (xr_isM_ok xr_pre0) (Nat.le_of_ble_eq_true rfl) (Nat.le_of_ble_eq_true rfl) hD hF (fun u as w b o ho => xr_R_ok hsm hst hD hF hmt 100000 20 u as w b o ho) hlen hscr hrun
def xt_sc (xs : Nat → Int32) (scr : List Value) : Prop := ∀ (j : Nat) (v : Value), scr[j]? = some v → xt_lt 7 v = true ∧ xt_iv xs v = xs j
/-- one call: its number, its tree; what is left over of the tree is given otherwise -/
theorem xt_call (h : xt_Ctx p l s m meth c b 7 xs D cy sg) (k : Nat) (hk : xs 0 &&& 63 = Int32.ofNat k) {scr : List Value} (hlen : scr.length = 7) (hsc : xt_sc xs scr) (df : xr_D) (hs : xt_ssa 7 df = true) (PS : List (xr_F × xr_F)) (RS : List xr_F) (n : Nat) (hcv : xt_cv n (PS.map (fun q => q.1) ++ RS) = true) (hall : PS.all (fun q => xt_clo q.1 q.2 && xt_go ((5, .retAddr 0, .int 63, .int (Int32.ofNat k)) :: df) q.2 xr_no scr) = true) (hr : ∀ q ∈ RS, (∀ d ∈ q, xt_T (xt_ext df xs) d) → xt_Goal p l e s m below meth c b) : xt_Goal p l e s m below meth c b := by
  obtain ⟨q, hq, hp⟩ := xt_cv_ok (ep := xt_ext df xs) hcv
  rcases List.mem_append.mp hq with hq | hq
  · obtain ⟨⟨q, fx⟩, hq', rfl⟩ := List.mem_map.mp hq
    have h1 := List.all_eq_true.mp hall _ hq'
    simp only [Bool.and_eq_true] at h1
    have old : ∀ z, z < 7 → xt_ext df xs z = xs z := fun z hz => xt_ext_old hs hz
    refine xt_W h (ep := xt_ext df xs) ?_ (xt_clo_ok hp h1.1) (fun d u as w b o ho => by cases ho) hlen (fun j v hv => ?_) h1.2
    · intro d hd
      rcases List.mem_cons.mp hd with rfl | hd
      · refine ⟨_, _, rfl, rfl, ?_⟩
        show Value.int (Int32.ofNat k) = .int (xt_ext df xs 0 &&& 63)
        rw [old 0 (by decide), hk]
      · exact xt_ext_ok hs d hd
    · obtain ⟨h3, h4⟩ := hsc j v hv
      rw [xt_iv_ok (xt_lt_I h3), xt_lt_iv h3 old, h4]
  · exact hr q hq hp
abbrev xt_v7 : List Value := [.retAddr 0, .retAddr 1, .retAddr 2, .retAddr 3, .retAddr 4, .retAddr 5, .retAddr 6]
theorem xt_sc7 : xt_sc xs xt_v7 := by
  intro j v h
  match j, h with
  | 0, h => cases h; exact ⟨rfl, rfl⟩
  | 1, h => cases h; exact ⟨rfl, rfl⟩
  | 2, h => cases h; exact ⟨rfl, rfl⟩
  | 3, h => cases h; exact ⟨rfl, rfl⟩
  | 4, h => cases h; exact ⟨rfl, rfl⟩
  | 5, h => cases h; exact ⟨rfl, rfl⟩
  | 6, h => cases h; exact ⟨rfl, rfl⟩
  | j + 7, h => simp at h
/-- the j-th int of the script as a number -/
theorem xt_sc_set {scr : List Value} {j : Nat} {x : Int32} (h : xt_sc xs scr) (hx : xs j = x) : xt_sc xs (scr.set j (.int x)) := by
  intro i v hv
  by_cases hij : j = i
  · subst hij
    rw [List.getElem?_set_self'] at hv
    cases hq : scr[j]? with
    | none => rw [hq] at hv; cases hv
    | some z =>
      rw [hq] at hv
      cases hv
      exact ⟨rfl, hx.symm⟩
  · rw [List.getElem?_set_ne hij] at hv
    exact h i v hv
end XTG
