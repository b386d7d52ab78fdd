/-! what holds at the law's entry, in the symbolic machine's words -/
set_option maxHeartbeats 4000000 in
set_option maxRecDepth 100000 in
theorem xr_world {p : Program} {s : State} {m : MethodId} {meth : Method} {c : Code} {b L : Nat} {xs : Nat → Int32} (C0 : lw_At p s m meth c b L xs) : ∃ (D : va_G) (cy : Nat → ClassId) (sg : Nat → Nat), va_K D vwCl (xr_ty cy) s ∧ xr_X s.heap.size sg s ∧ sg 0 = b := by
  obtain ⟨hx, hb, hr, hml, hown, hts, hX, hbl, hlocks, hgv⟩ := C0
  have hs := flat_of_before _ hgv
  have hgt : ∀ w ∈ xr_tb, w.before #[Value.ref b] s = true := fun w hw => hts w (List.mem_filter.mp hw).1
  have hA : ∀ a : Nat, a < s.heap.size → ¬ (fun q => s.heap.size ≤ q) a := fun a h => Nat.not_le.mpr h
  obtain ⟨c0, iS0, hKn0⟩ := u_known (C := RX0) (T := TX0) (N := 5) (n := 5) hgt xr_in0 (hts (.instantiable RX0 5) (List.mem_of_getElem? (i := 464) (by decide +kernel)))
  obtain ⟨c1, iS1, hKn1⟩ := u_known (C := RX1) (T := TX1) (N := 6) (n := 6) hgt xr_in1 (hts (.instantiable RX1 6) (List.mem_of_getElem? (i := 370) (by decide +kernel)))
  obtain ⟨c2, iS2, hKn2⟩ := u_known (C := RX2) (T := TX2) (N := 6) (n := 6) hgt xr_in2 (hts (.instantiable RX2 6) (List.mem_of_getElem? (i := 343) (by decide +kernel)))
  obtain ⟨c3, iS3, hKn3⟩ := u_known (C := RX3) (T := TX3) (N := 16) (n := 16) hgt xr_in3 (hts (.instantiable RX3 16) (List.mem_of_getElem? (i := 489) (by decide +kernel)))
  obtain ⟨c4, iS4, hKn4⟩ := u_known (C := RX4) (T := TX4) (N := 18) (n := 18) hgt xr_in4 (hts (.instantiable RX4 18) (List.mem_of_getElem? (i := 399) (by decide +kernel)))
  obtain ⟨c5, iS5, hKn5⟩ := u_known (C := RX5) (T := TX5) (N := 5) (n := 5) hgt xr_in5 (hts (.instantiable RX5 5) (List.mem_of_getElem? (i := 739) (by decide +kernel)))
  obtain ⟨c6, iS6, hKn6⟩ := u_known (C := RX6) (T := TX6) (N := 6) (n := 6) hgt xr_in6 (hts (.instantiable RX6 6) (List.mem_of_getElem? (i := 200) (by decide +kernel)))
  obtain ⟨c7, iS7, hKn7⟩ := u_known (C := RX7) (T := TX7) (N := 15) (n := 15) hgt xr_in7 (hts (.instantiable RX7 15) (List.mem_of_getElem? (i := 287) (by decide +kernel)))
  obtain ⟨c8, iS8, hKn8⟩ := u_known (C := RX8) (T := TX8) (N := 9) (n := 9) hgt xr_in8 (hts (.instantiable RX8 9) (List.mem_of_getElem? (i := 155) (by decide +kernel)))
  obtain ⟨c9, iS9, hKn9⟩ := u_known (C := RX9) (T := TX9) (N := 8) (n := 8) hgt xr_in9 (hts (.instantiable RX9 8) (List.mem_of_getElem? (i := 253) (by decide +kernel)))
  obtain ⟨c10, iS10, hKn10⟩ := u_known (C := RX10) (T := TX10) (N := 4) (n := 4) hgt xr_in10 (hts (.instantiable RX10 4) (List.mem_of_getElem? (i := 226) (by decide +kernel)))
  obtain ⟨c11, iS11, hKn11⟩ := u_known (C := RX11) (T := TX11) (N := 15) (n := 15) hgt xr_in11 (hts (.instantiable RX11 15) (List.mem_of_getElem? (i := 147) (by decide +kernel)))
  obtain ⟨c12, iS12, hKn12⟩ := u_known (C := RX12) (T := TX12) (N := 49) (n := 49) hgt xr_in12 (hts (.instantiable RX12 49) (List.mem_of_getElem? (i := 1607) (by decide +kernel)))
  obtain ⟨cI, kI, pI, fI, gI, hI⟩ := Cond.arrayClass_spec (show (Cond.arrayClass .int).holds #[Value.ref b] s none s [] = true from hts (.arrayClass .int) (List.mem_of_getElem? (i := 224) (by decide +kernel)))
  obtain ⟨cB, kB, pB, fB, gB, hB⟩ := Cond.arrayClass_spec (show (Cond.arrayClass .byte).holds #[Value.ref b] s none s [] = true from hts (.arrayClass .byte) (List.mem_of_getElem? (i := 198) (by decide +kernel)))
  obtain ⟨cJ, kJ, pJ, fJ, gJ, hJ⟩ := Cond.arrayClass_spec (show (Cond.arrayClass .long).holds #[Value.ref b] s none s [] = true from hts (.arrayClass .long) (List.mem_of_getElem? (i := 2175) (by decide +kernel)))
  have hov : (Cond.arrayOver (.array .int)).before #[Value.ref b] s = true := hts (.arrayOver (.array .int)) (List.mem_of_getElem? (i := 1613) (by decide +kernel))
  obtain ⟨pO, cO, kO, fC, gO, hO, fO⟩ := Cond.arrayOver_specA (show (Cond.arrayOver (.array .int)).holds #[Value.ref b] s none s [] = true from hov)
  obtain ⟨tU, htU, hTU⟩ := va_Tof (N := 7) (tm := .static "NoiseFields$Law" "USUAL" "[I") (f := fun j => .int (xr_usn j)) (A := fun q => s.heap.size ≤ q) (by decide) (hs (.arrayOf (.static "NoiseFields$Law" "USUAL" "[I") .int) (by decide +kernel)) (va_eqt (hs (.eq (.length (.static "NoiseFields$Law" "USUAL" "[I")) (.int 7)) (by decide +kernel))) (fun j hj => by
    rcases (show j = 0 ∨ j = 1 ∨ j = 2 ∨ j = 3 ∨ j = 4 ∨ j = 5 ∨ j = 6 by omega) with rfl | rfl | rfl | rfl | rfl | rfl | rfl
    · exact va_eqt (hs (.eq (.elem (.static "NoiseFields$Law" "USUAL" "[I") (.int 0)) (.int 1000)) (by decide +kernel))
    · exact va_eqt (hs (.eq (.elem (.static "NoiseFields$Law" "USUAL" "[I") (.int 1)) (.int 1001)) (by decide +kernel))
    · exact va_eqt (hs (.eq (.elem (.static "NoiseFields$Law" "USUAL" "[I") (.int 2)) (.int 2000)) (by decide +kernel))
    · exact va_eqt (hs (.eq (.elem (.static "NoiseFields$Law" "USUAL" "[I") (.int 3)) (.int 1005)) (by decide +kernel))
    · exact va_eqt (hs (.eq (.elem (.static "NoiseFields$Law" "USUAL" "[I") (.int 4)) (.int 4)) (by decide +kernel))
    · exact va_eqt (hs (.eq (.elem (.static "NoiseFields$Law" "USUAL" "[I") (.int 5)) (.int 2003)) (by decide +kernel))
    · exact va_eqt (hs (.eq (.elem (.static "NoiseFields$Law" "USUAL" "[I") (.int 6)) (.int 2001)) (by decide +kernel))) hA
  have hZ : va_Z "NoiseFields$Law" "USUAL" "[I" (.ref tU) (fun q => s.heap.size ≤ q) s s.heap := va_Zof (hts (.laysStatic "NoiseFields$Law" "USUAL" "[I") (List.mem_of_getElem? (i := 597) (by decide +kernel))) (hts (.initialized "NoiseFields$Law") (List.mem_of_getElem? (i := 122) (by decide +kernel))) htU hA
  obtain ⟨a2, z1, z2, z3, e2, -⟩ := Cond.exactly_spec (show (Cond.exactly (.string "NoiseFields" 404) "java/lang/String").holds #[Value.ref b] s none s [] = true from hs (.exactly (.string "NoiseFields" 404) "java/lang/String") (by decide +kernel))
  obtain ⟨a3, z4, z5, z6, e3, -⟩ := Cond.exactly_spec (show (Cond.exactly (.string "NoiseFields" 397) "java/lang/String").holds #[Value.ref b] s none s [] = true from hs (.exactly (.string "NoiseFields" 397) "java/lang/String") (by decide +kernel))
  have r2 := vk_R.of (hts (.stringRef "NoiseFields" 404 "an argument is outside what the document allows") (List.mem_of_getElem? (i := 848) (by decide +kernel))) e2
  have r3 := vk_R.of (hts (.stringRef "NoiseFields" 397 "no such field, sound or order") (List.mem_of_getElem? (i := 1234) (by decide +kernel))) e3
  have hini : (Cond.initialized Bundle.tN).before #[Value.ref b] s = true := hts (.initialized "java/lang/Throwable") (List.mem_of_getElem? (i := 135) (by decide +kernel))
  have q1 : vx_Zq Bundle.tN "UNASSIGNED_STACK" Bundle.steD (fun q => s.heap.size ≤ q) s s.heap := vx_Zqof (hts (.laysStatic "java/lang/Throwable" "UNASSIGNED_STACK" "[Ljava/lang/StackTraceElement;") (List.mem_of_getElem? (i := 835) (by decide +kernel))) hini (hs (.isRef (.static "java/lang/Throwable" "UNASSIGNED_STACK" "[Ljava/lang/StackTraceElement;")) (by decide +kernel)) hA
  have q2 : vx_Zq Bundle.tN "SUPPRESSED_SENTINEL" Bundle.listD (fun q => s.heap.size ≤ q) s s.heap := vx_Zqof (hts (.laysStatic "java/lang/Throwable" "SUPPRESSED_SENTINEL" "Ljava/util/List;") (List.mem_of_getElem? (i := 837) (by decide +kernel))) hini (hs (.isRef (.static "java/lang/Throwable" "SUPPRESSED_SENTINEL" "Ljava/util/List;")) (by decide +kernel)) hA
  have q3 : va_Nc "java/lang/IllegalArgumentException" "java/util/NoSuchElementException" s := va_Nc.of (hs (.not (.castable "java/lang/IllegalArgumentException" "java/util/NoSuchElementException")) (by decide +kernel))
  obtain ⟨ad, had⟩ := xw_world (A := fun q => s.heap.size ≤ q) hts hs hA
  have hCS : va_Z "java/lang/String" "COMPACT_STRINGS" "Z" (.int 1) (fun q => s.heap.size ≤ q) s s.heap := va_Zof (hts (.laysStatic "java/lang/String" "COMPACT_STRINGS" "Z") (List.mem_of_getElem? (i := 911) (by decide +kernel))) (hts (.initialized "java/lang/String") (List.mem_of_getElem? (i := 139) (by decide +kernel))) (va_eqt (hs (.eq (.static "java/lang/String" "COMPACT_STRINGS" "Z") (.int 1)) (by decide +kernel))) hA
  refine ⟨(fun k => match k with
    | 0 => c0
    | 1 => c1
    | 2 => c2
    | 3 => c3
    | 4 => c4
    | 5 => c5
    | 6 => c6
    | 7 => c7
    | 8 => c8
    | 9 => c9
    | 10 => c10
    | 11 => c11
    | _ => c12, fun k => match k with
    | 0 => iS0
    | 1 => iS1
    | 2 => iS2
    | 3 => iS3
    | 4 => iS4
    | 5 => iS5
    | 6 => iS6
    | 7 => iS7
    | 8 => iS8
    | 9 => iS9
    | 10 => iS10
    | 11 => iS11
    | _ => iS12), (fun k => match k with
    | 0 => cI
    | 1 => cB
    | 2 => cJ
    | _ => cO), (fun k => match k with
    | 0 => b
    | 1 => tU
    | 2 => a2
    | 3 => a3
    | k + 4 => ad k), ⟨?_, ?_⟩, ⟨⟨hZ, hTU, hCS, had⟩, ?_, hov, r2, r3, q1, q2, q3⟩, rfl⟩
  · intro k q hq
    match k, hq with
    | 0, hq => cases hq; exact hKn0
    | 1, hq => cases hq; exact hKn1
    | 2, hq => cases hq; exact hKn2
    | 3, hq => cases hq; exact hKn3
    | 4, hq => cases hq; exact hKn4
    | 5, hq => cases hq; exact hKn5
    | 6, hq => cases hq; exact hKn6
    | 7, hq => cases hq; exact hKn7
    | 8, hq => cases hq; exact hKn8
    | 9, hq => cases hq; exact hKn9
    | 10, hq => cases hq; exact hKn10
    | 11, hq => cases hq; exact hKn11
    | 12, hq => cases hq; exact hKn12
    | k + 13, hq => simp [vwCl] at hq
  · intro k q hq
    match k, hq with
    | 0, hq => cases hq; exact ⟨fun n z => ⟨fun k h => (by cases h), kI, gI, pI, hI⟩, fI⟩
    | 1, hq => cases hq; exact ⟨fun n z => ⟨fun k h => (by cases h), kB, gB, pB, hB⟩, fB⟩
    | 2, hq => cases hq; exact ⟨fun n z => ⟨fun k h => (by cases h), kJ, gJ, pJ, hJ⟩, fJ⟩
    | 3, hq => cases hq; exact ⟨fun n z => ⟨fun k h => (by cases h), kO, gO, pO, hO⟩, fO⟩
    | k + 4, hq => simp at hq
  · intro w hw
    have h1 := (List.mem_filter.mp hw).2
    have h2 := hts w (List.mem_filter.mp hw).1
    cases w <;> first | exact va_Nw.of rfl h2 | (simp [xr_owk] at h1)
def xr_one (o : Option xr_Out) : Bool := match o with
  | some (.inl (some (.int x)), _, _, ce, sl) => decide (x = 1) && (Nat.ble ce 600002 && Nat.ble sl 7302231)
  | _ => false
set_option maxHeartbeats 4000000 in
/-- the law comes to its end with true, where its run in the symbolic machine says so -/
theorem xr_bridge {p : Program} {l : Launch} {e : Env} {s : State} {m : MethodId} {below : List Frame} {meth : Method} {c : Code} {b L : Nat} {xs : Nat → Int32} (hst : l.stackTraces = false) (hnm : meth.name = "law") (hTab : c.exceptionTable.toList = tableOf []) (C0 : lw_At p s m meth c b L xs) {D : va_G} {cy : Nat → ClassId} {sg : Nat → Nat} (hK : va_K D vwCl (xr_ty cy) s) (hX : xr_X s.heap.size sg s) (hsg : sg 0 = b) {mt : List xr_M} {ML : xr_M} (hmt : ∀ M ∈ mt, xr_Mok mt M = true) (hML : xr_Mok mt ML = true) (hl1 : ML.1 = yL_law_) (hl2 : ML.2.1 = code) (hl3 : ML.2.2.1 = 8) (hl4 : ML.2.2.2.1 = some .boolean) (hl5 : ML.2.2.2.2.1 = [])
    {ep : Nat → Int32} {df : xr_D} {fx : xr_F} {sm : Nat → Nat → List Value → List xr_C → Bool → Option xr_Out} {scr : List Value} {n : Nat} (hD : xr_okD ep s.heap.size sg df) (hF : xr_okF ep s.heap.size sg fx) (hsm : ∀ d u as w b o, sm d u as w b = some o → xr_Con l D ep s.heap.size sg cy mt d u as w b o) (hlen : scr.length = L) (hscr : ∀ (j : Nat) (v : Value), scr[j]? = some v → xr_v ep s.heap.size sg v = .int (xs j))
    (hrun : xr_one (xr_lp xr_K0 df fx (some scr) mt 20 (xr_R df fx sm mt n 20) ML n ML.2.2.2.2.2.2 [(0, .float 0)] [] [] true 0 0) = true) : W p l e room_1 s m #[Value.ref b] below meth c s.heap [] 0 0 (lw_Z below #[Value.ref b] s) (entryFrame m ([Value.ref b] : List Value).toArray 8) := by
  obtain ⟨hx, hb, hr, hml, hown, hts, hXs, hbl, hlocks, hgv⟩ := id C0
  have hgt : ∀ w ∈ xr_tb, w.before #[Value.ref b] s = true := fun w hw => hts w (List.mem_filter.mp hw).1
  generalize hout : xr_lp xr_K0 df fx (some scr) mt 20 (xr_R df fx sm mt n 20) ML n ML.2.2.2.2.2.2 [(0, .float 0)] [] [] true 0 0 = o at hrun
  unfold xr_one at hrun
  split at hrun
  · rename_i x9 w9 b9 ce9 sl9
    simp only [Bool.and_eq_true, decide_eq_true_eq] at hrun
    obtain ⟨rfl, hc9, hs9⟩ := hrun
    have hc9 : ce9 ≤ 600002 := Nat.le_of_ble_eq_true hc9
    have hs9 : sl9 ≤ 7302231 := Nat.le_of_ble_eq_true hs9
    simp only [xr_Mok, Bool.and_eq_true, decide_eq_true_eq] at hML
    obtain ⟨-, -, hpc0, hcs, hall⟩ := hML
    have hMt : ∀ x ∈ ML.2.2.2.2.2.2, xr_chk mt ML x = true := List.all_eq_true.mp hall
    have hsc : xr_Sc ep s.heap.size sg s (some scr) := by
      intro xs' h'
      cases h'
      rw [hsg]
      refine ⟨?_, hbl, hbl⟩
      obtain ⟨cell, h1, h2, h3, h4, h5⟩ := hXs
      refine ⟨cell, h1, h2, h3, h4.trans hlen.symm, fun j hj => ?_⟩
      rw [h5 j (by omega)]
      show some (Value.int (xs j)) = some (Value.int (xr_i (xr_v ep s.heap.size sg (scr.getD j (.int 0)))))
      rw [List.getD_eq_getElem?_getD, List.getElem?_eq_getElem hj]
      have h6 := hscr j scr[j] (List.getElem?_eq_getElem hj)
      simp only [Option.getD_some]
      rw [h6]
      rfl
    have hI : xr_I D ep s.heap.size sg cy s [] true 0 s.heap [] := ⟨fun k q h => by simp [xr_w] at h, va_S.rf, Nat.le_refl _, fun _ => rfl⟩
    have key := (xr_lp_ok (Q := lw_Z below #[Value.ref b] s) (R := room_1) (args := #[Value.ref b]) (e := e) (below := below) (l := l) hD hF (fun u as w b o ho => xr_R_ok hsm hst hD hF hmt n 20 u as w b o ho) hMt hcs hx (hb.trans hl2.symm) (hml.trans hl3.symm) (by rw [hl1]; exact hown) (by rw [hl1]; exact hnm) hgt hK hX (Nat.le_refl _) hsc (by rw [hl5]; exact hTab) (by decide) (by decide) hc9 hs9 ?_ ?_ ?_ (fun _ _ _ _ _ _ _ h => by cases h) n _ _ _ _ _ _ _ hout (fun _ h => h)).2
    · have hl := lv_entry ([.ref b]) (n := 8) (Nat.le_of_ble_eq_true rfl)
      have k := key s.heap [] _ hI (by
        rw [hl3]
        have e9 : xr_lv ep s.heap.size sg [(0, .float 0)] = [(0, .ref b)] := by
          show [(0, Value.ref (sg 0))] = _
          rw [hsg]
        rw [e9]
        exact hl)
      rw [hpc0] at k
      rw [lg_entry_eq]
      exact k
    · intro i pc st rv w b' ce sl H locs ls ho hrt hd hI'
      cases ho
      rw [hl4] at hrt
      rw [hl2] at hd
      have hst' : i = .ireturn ∧ st = [.int 1] := by
        unfold xr_rt at hrt
        split at hrt
        · split at hrt
          · rename_i hq; cases hq
          · cases hrt
        · split at hrt
          · rename_i hq; cases hq
          · rename_i y hq
            simp only [Bool.cond_eq_ite] at hrt
            split at hrt
            · cases hrt; exact ⟨rfl, rfl⟩
            · cases hrt
          · rename_i hq; cases hq
          · cases hrt
        · split at hrt
          · rename_i hq; cases hq
          · cases hrt
        · split at hrt
          · rename_i hq; cases hq
          · rename_i hq; cases hq
          · cases hrt
        · cases hrt
      obtain ⟨rfl, rfl⟩ := hst'
      refine va_forget (fun q hq => hI'.2.1.2.2 q hq) ?_
      refine W.widen (k := 600002) (n := 7302231) hc9 hs9 ?_
      exact lw_ret hx hb hr hlocks hd
    · intro t pc st w b' ce sl H locs ls ho; cases ho
    · intro t pc rest w ce sl H locs ls q cl ho; cases ho
  · cases hrun
