/-! a run cut in two: states held against literals -/
def xr_qv (a b : Value) : Bool := match a, b with
  | .int x, .int y => Nat.beq (xr_u x) (xr_u y)
  | .ref x, .ref y => Nat.beq x y
  | .null, .null => true
  | .retAddr x, .retAddr y => Nat.beq x y
  | x, y => decide (x = y)
theorem xr_u_inj {x y : Int32} (h : Nat.beq (xr_u x) (xr_u y) = true) : x = y := by
  have h1 : x.toUInt32.toNat = y.toUInt32.toNat := Nat.eq_of_beq_eq_true h
  have h2 : x.toBitVec = y.toBitVec := BitVec.eq_of_toNat_eq h1
  exact Int32.toBitVec_inj.mp h2
theorem xr_qv_ok {a b : Value} (h : xr_qv a b = true) : a = b := by
  unfold xr_qv at h
  split at h
  · rw [xr_u_inj h]
  · rw [Nat.eq_of_beq_eq_true h]
  · rfl
  · rw [Nat.eq_of_beq_eq_true h]
  · exact of_decide_eq_true h
def xr_qs : List Value → List Value → Bool
  | [], [] => true
  | a :: s, b :: t => xr_qv a b && xr_qs s t
  | _, _ => false
theorem xr_qs_ok : ∀ {a b : List Value}, xr_qs a b = true → a = b
  | [], [], _ => rfl
  | a :: s, b :: t, h => by
    simp only [xr_qs, Bool.and_eq_true] at h
    rw [xr_qv_ok h.1, xr_qs_ok h.2]
  | [], _ :: _, h => by cases h
  | _ :: _, [], h => by cases h
def xr_ql : xr_L → xr_L → Bool
  | [], [] => true
  | a :: s, b :: t => Nat.beq a.1 b.1 && (xr_qv a.2 b.2 && xr_ql s t)
  | _, _ => false
theorem xr_ql_ok : ∀ {a b : xr_L}, xr_ql a b = true → a = b
  | [], [], _ => rfl
  | a :: s, b :: t, h => by
    simp only [xr_ql, Bool.and_eq_true] at h
    rw [Prod.ext (Nat.eq_of_beq_eq_true h.1) (xr_qv_ok h.2.1), xr_ql_ok h.2.2]
  | [], _ :: _, h => by cases h
  | _ :: _, [], h => by cases h
def xr_qc (a b : xr_C) : Bool := match a, b with
  | .inl x, .inl y => Nat.beq x.1 y.1 && xr_qs x.2 y.2
  | .inr x, .inr y => Nat.beq x.1 y.1 && (Nat.beq x.2.1 y.2.1 && xr_ql x.2.2 y.2.2)
  | _, _ => false
theorem xr_qc_ok {a b : xr_C} (h : xr_qc a b = true) : a = b := by
  unfold xr_qc at h
  split at h
  · simp only [Bool.and_eq_true] at h
    rw [Prod.ext (Nat.eq_of_beq_eq_true h.1) (xr_qs_ok h.2)]
  · simp only [Bool.and_eq_true] at h
    rw [Prod.ext (Nat.eq_of_beq_eq_true h.1) (Prod.ext (Nat.eq_of_beq_eq_true h.2.1) (xr_ql_ok h.2.2))]
  · cases h
def xr_qw : List xr_C → List xr_C → Bool
  | [], [] => true
  | a :: s, b :: t => xr_qc a b && xr_qw s t
  | _, _ => false
theorem xr_qw_ok : ∀ {a b : List xr_C}, xr_qw a b = true → a = b
  | [], [], _ => rfl
  | a :: s, b :: t, h => by
    simp only [xr_qw, Bool.and_eq_true] at h
    rw [xr_qc_ok h.1, xr_qw_ok h.2]
  | [], _ :: _, h => by cases h
  | _ :: _, [], h => by cases h
abbrev xr_mark (b : Bool) (ce sl : Nat) : xr_Out := (.inr 777, [], b, ce, sl)
def xr_isM (o : Option xr_Out) (b : Bool) (ce sl : Nat) : Bool := match o with
  | some (.inr t, [], b', ce', sl') => Nat.beq t 777 && (decide (b' = b) && (Nat.beq ce' ce && Nat.beq sl' sl))
  | _ => false
theorem xr_isM_ok {o : Option xr_Out} {b : Bool} {ce sl : Nat} (h : xr_isM o b ce sl = true) : o = some (xr_mark b ce sl) := by
  unfold xr_isM at h
  split at h
  · simp only [Bool.and_eq_true, decide_eq_true_eq] at h
    rw [Nat.eq_of_beq_eq_true h.1, h.2.1, Nat.eq_of_beq_eq_true h.2.2.1, Nat.eq_of_beq_eq_true h.2.2.2]
  · cases h
def xr_Kc (pc0 : Nat) (l0 : xr_L) (st0 : List Value) (w0 : List xr_C) (b0 : Bool) (ce0 sl0 : Nat) : xr_Ih := fun rem l st w b ce sl =>
  bif Nat.beq (xr_pc rem) pc0 && (xr_ql l l0 && (xr_qs st st0 && (decide (b = b0) && (Nat.beq ce ce0 && (Nat.beq sl sl0 && xr_qw w w0))))) then some (xr_mark b0 ce0 sl0) else none
theorem xr_Kc_ok {pc0 : Nat} {l0 : xr_L} {st0 : List Value} {w0 : List xr_C} {b0 : Bool} {ce0 sl0 : Nat} {rem : List xr_En} {l : xr_L} {st : List Value} {w : List xr_C} {b : Bool} {ce sl : Nat} {o : xr_Out} (h : xr_Kc pc0 l0 st0 w0 b0 ce0 sl0 rem l st w b ce sl = some o) : xr_pc rem = pc0 ∧ l = l0 ∧ st = st0 ∧ b = b0 ∧ ce = ce0 ∧ sl = sl0 ∧ w = w0 := by
  unfold xr_Kc at h
  simp only [Bool.cond_eq_ite] at h
  split at h
  · rename_i q
    simp only [Bool.and_eq_true, decide_eq_true_eq] at q
    exact ⟨Nat.eq_of_beq_eq_true q.1, xr_ql_ok q.2.1, xr_qs_ok q.2.2.1, q.2.2.2.1, Nat.eq_of_beq_eq_true q.2.2.2.2.1, Nat.eq_of_beq_eq_true q.2.2.2.2.2.1, xr_qw_ok q.2.2.2.2.2.2⟩
  · cases h
set_option maxHeartbeats 4000000 in
/-- the law comes to its end with true, where its run in the symbolic machine says so from a place behind its entry on -/
theorem xr_bridge2 {p : Program} {l : Launch} {e : Env} {s : State} {m : MethodId} {below : List Frame} {meth : Method} {c : Code} {b L : Nat} {xs : Nat → Int32} (hst : l.stackTraces = false) (hnm : meth.name = "law") (hTab : c.exceptionTable.toList = tableOf []) (C0 : lw_At p s m meth c b L xs) {D : va_G} {cy : Nat → ClassId} {sg : Nat → Nat} (hK : va_K D vwCl (xr_ty cy) s) (hX : xr_X s.heap.size sg s) (hsg : sg 0 = b) {mt : List xr_M} {ML : xr_M} (hmt : ∀ M ∈ mt, xr_Mok mt M = true) (hML : xr_Mok mt ML = true) (hl1 : ML.1 = yL_law_) (hl2 : ML.2.1 = code) (hl3 : ML.2.2.1 = 8) (hl4 : ML.2.2.2.1 = some .boolean) (hl5 : ML.2.2.2.2.1 = [])
    {l0 : xr_L} {w0 : List xr_C} {ce0 sl0 n0 nR k0 : Nat} (hpre : xr_lp (xr_Kc (xr_pc (ML.2.2.2.2.2.2.drop k0)) l0 [] w0 true ce0 sl0) [] [] none mt 20 (xr_R [] [] (fun _ _ _ _ _ => none) mt nR 20) ML n0 ML.2.2.2.2.2.2 [(0, .float 0)] [] [] true 0 0 = some (xr_mark true ce0 sl0)) (hce0 : ce0 ≤ 600002) (hsl0 : sl0 ≤ 7302231)
    {ep : Nat → Int32} {df : xr_D} {fx : xr_F} {callf : Nat → List Value → List xr_C → Bool → Option xr_Out} {scr : List Value} {n : Nat} (hD : xr_okD ep s.heap.size sg df) (hF : xr_okF ep s.heap.size sg fx) (hcall : ∀ u as w b o, callf u as w b = some o → xr_Con l D ep s.heap.size sg cy mt 20 u as w b o) (hlen : scr.length = L) (hscr : ∀ (j : Nat) (v : Value), scr[j]? = some v → xr_v ep s.heap.size sg v = .int (xs j))
    (hrun : xr_one (xr_lp xr_K0 df fx (some scr) mt 20 callf ML n (ML.2.2.2.2.2.2.drop k0) l0 [] w0 true ce0 sl0) = true) : W p l e room_1 s m #[Value.ref b] below meth c s.heap [] 0 0 (lw_Z below #[Value.ref b] s) (entryFrame m ([Value.ref b] : List Value).toArray 8) := by
  obtain ⟨hx, hb, hr, hml, hown, hts, hXs, hbl, hlocks, hgv⟩ := id C0
  have hgt : ∀ w ∈ xr_tb, w.before #[Value.ref b] s = true := fun w hw => hts w (List.mem_filter.mp hw).1
  generalize hout : xr_lp xr_K0 df fx (some scr) mt 20 callf ML n (ML.2.2.2.2.2.2.drop k0) l0 [] w0 true ce0 sl0 = o at hrun
  unfold xr_one at hrun
  split at hrun
  · rename_i x9 w9 b9 ce9 sl9
    simp only [Bool.and_eq_true, decide_eq_true_eq] at hrun
    obtain ⟨rfl, hc9, hs9⟩ := hrun
    have hc9 : ce9 ≤ 600002 := Nat.le_of_ble_eq_true hc9
    have hs9 : sl9 ≤ 7302231 := Nat.le_of_ble_eq_true hs9
    simp only [xr_Mok, Bool.and_eq_true, decide_eq_true_eq] at hML
    obtain ⟨-, -, hpc0, hcs, hall⟩ := hML
    have hMt : ∀ x ∈ ML.2.2.2.2.2.2, xr_chk mt ML x = true := List.all_eq_true.mp hall
    have hsc : xr_Sc ep s.heap.size sg s (some scr) := by
      intro xs' h'
      cases h'
      rw [hsg]
      refine ⟨?_, hbl, hbl⟩
      obtain ⟨cell, h1, h2, h3, h4, h5⟩ := hXs
      refine ⟨cell, h1, h2, h3, h4.trans hlen.symm, fun j hj => ?_⟩
      rw [h5 j (by omega)]
      show some (Value.int (xs j)) = some (Value.int (xr_i (xr_v ep s.heap.size sg (scr.getD j (.int 0)))))
      rw [List.getD_eq_getElem?_getD, List.getElem?_eq_getElem hj]
      have h6 := hscr j scr[j] (List.getElem?_eq_getElem hj)
      simp only [Option.getD_some]
      rw [h6]
      rfl
    have hI : xr_I D ep s.heap.size sg cy s [] true 0 s.heap [] := ⟨fun k q h => by simp [xr_w] at h, va_S.rf, Nat.le_refl _, fun _ => rfl⟩
    have key := (xr_lp_ok (Q := lw_Z below #[Value.ref b] s) (R := room_1) (args := #[Value.ref b]) (e := e) (below := below) (l := l) hD hF hcall hMt hcs hx (hb.trans hl2.symm) (hml.trans hl3.symm) (by rw [hl1]; exact hown) (by rw [hl1]; exact hnm) hgt hK hX (Nat.le_refl _) hsc (by rw [hl5]; exact hTab) (by decide) (by decide) hc9 hs9 ?_ ?_ ?_ (fun _ _ _ _ _ _ _ h => by cases h) n _ _ _ _ _ _ _ hout (fun _ h => List.mem_of_mem_drop h)).2
    · have key0 := (xr_lp_ok (Q := lw_Z below #[Value.ref b] s) (R := room_1) (args := #[Value.ref b]) (e := e) (below := below) (l := l) (out := xr_mark true ce0 sl0) (df := []) (fx := []) (scr := none) (ep := ep) (fun d h => by cases h) (fun d h => by cases h) (fun u as w b o ho => xr_R_ok (fun d u as w b o h => by cases h) hst (fun d h => by cases h) (fun d h => by cases h) hmt nR 20 u as w b o ho) hMt hcs hx (hb.trans hl2.symm) (hml.trans hl3.symm) (by rw [hl1]; exact hown) (by rw [hl1]; exact hnm) hgt hK hX (Nat.le_refl _) (fun xs h => by cases h) (by rw [hl5]; exact hTab) (by decide) (by decide) hce0 hsl0 (fun _ _ _ _ _ _ _ _ _ _ _ h => by cases h) (fun t pc st w b ce sl H locs ls h hs => by
        have h1 : 777 = t := by injection h with h1 h2; injection h1
        subst h1
        simp [xr_site] at hs) (fun t pc rest w ce sl H locs ls q cl h => by
        have h1 : true = false := by injection h with h1 h2; injection h2 with h3 h4; injection h4
        cases h1) ?_ n0 _ _ _ _ _ _ _ hpre (fun _ h => h)).2
      · have hl := lv_entry ([.ref b]) (n := 8) (Nat.le_of_ble_eq_true rfl)
        have k := key0 s.heap [] _ hI (by
          rw [hl3]
          have e9 : xr_lv ep s.heap.size sg [(0, .float 0)] = [(0, .ref b)] := by
            show [(0, Value.ref (sg 0))] = _
            rw [hsg]
          rw [e9]
          exact hl)
        rw [hpc0] at k
        rw [lg_entry_eq]
        exact k
      · intro rem lv st w b' ce sl h hmem
        obtain ⟨h1, rfl, rfl, rfl, rfl, rfl, rfl⟩ := xr_Kc_ok h
        refine ⟨⟨fun _ => rfl, Nat.le_refl _, Nat.le_refl _⟩, fun H locs ls hI' hl' => ?_⟩
        rw [h1]
        exact key H locs ls hI' hl'
    · intro i pc st rv w b' ce sl H locs ls ho hrt hd hI'
      cases ho
      rw [hl4] at hrt
      rw [hl2] at hd
      have hst' : i = .ireturn ∧ st = [.int 1] := by
        unfold xr_rt at hrt
        split at hrt
        · split at hrt
          · rename_i hq; cases hq
          · cases hrt
        · split at hrt
          · rename_i hq; cases hq
          · rename_i y hq
            simp only [Bool.cond_eq_ite] at hrt
            split at hrt
            · cases hrt; exact ⟨rfl, rfl⟩
            · cases hrt
          · rename_i hq; cases hq
          · cases hrt
        · split at hrt
          · rename_i hq; cases hq
          · cases hrt
        · split at hrt
          · rename_i hq; cases hq
          · rename_i hq; cases hq
          · cases hrt
        · cases hrt
      obtain ⟨rfl, rfl⟩ := hst'
      refine va_forget (fun q hq => hI'.2.1.2.2 q hq) ?_
      refine W.widen (k := 600002) (n := 7302231) hc9 hs9 ?_
      exact lw_ret hx hb hr hlocks hd
    · intro t pc st w b' ce sl H locs ls ho; cases ho
    · intro t pc rest w ce sl H locs ls q cl ho; cases ho
  · cases hrun
