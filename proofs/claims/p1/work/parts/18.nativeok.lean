section XRN
variable {p : Program} {l : Launch} {e : Env} {R : Room} {s : State} {m : MethodId} {args : Array Value} {below : List Frame} {meth : Method} {c : Code} {H : Heap} {locs : List Loc} {ce sl : Nat} {Q : State → Prop}
variable {cc : ByteArray} {ep : Nat → Int32} {ba : Nat} {sg : Nat → Nat} {cy : Nat → ClassId} {D : va_G} {ls : Array Slot} {nL : Nat} {own : String}
theorem xr_cpy_i {as0 as1 : xr_L} {sp dp n : Nat} : va_cpy (fun q => xr_i (xr_v ep ba sg (xr_at as0 q (.int 0)))) (fun q => xr_i (xr_v ep ba sg (xr_at as1 q (.int 0)))) sp dp n = fun q => xr_i (xr_v ep ba sg (xr_at (xr_cp (.int 0) as0 sp dp n as1) q (.int 0))) := by
  funext q
  unfold va_cpy
  rw [xr_cp_at]
  by_cases h : dp ≤ q ∧ q < dp + n
  · rw [if_pos h, if_pos h]
  · rw [if_neg h, if_neg h]
theorem xr_cpy_u {as1 : xr_L} : va_cpy xr_usn (fun q => xr_i (xr_v ep ba sg (xr_at as1 q (.int 0)))) 0 0 7 = fun q => xr_i (xr_v ep ba sg (xr_at (xr_cp (.int 0) xr_usl 0 0 7 as1) q (.int 0))) := by
  funext q
  unfold va_cpy
  rw [xr_cp_at]
  by_cases h : 0 ≤ q ∧ q < 0 + 7
  · rw [if_pos h, if_pos h]
    have h7 : q < 7 := by omega
    rcases (show q = 0 ∨ q = 1 ∨ q = 2 ∨ q = 3 ∨ q = 4 ∨ q = 5 ∨ q = 6 by omega) with rfl | rfl | rfl | rfl | rfl | rfl | rfl <;> rfl
  · rw [if_neg h, if_neg h]
theorem xr_w_len : ∀ (w : List xr_C) (k0 : Nat), (xr_w ep ba sg cy k0 w).length = w.length
  | [], k0 => rfl
  | a :: t, k0 => by
    show (xr_w ep ba sg cy (k0 + 1) t).length + 1 = t.length + 1
    rw [xr_w_len t (k0 + 1)]
theorem xr_P_len {w : List xr_C} (hP : va_P D vwCl (xr_w ep ba sg cy 0 w) H) (hw : 0 < w.length) : ba + w.length ≤ H.size := by
  have h1 : w.length - 1 < w.length := by omega
  have h2 := (hP (w.length - 1) _ (xr_w_at (List.getElem?_eq_getElem h1))).lt
  simp only at h2
  omega
theorem xr_nfw : nativeFrameWords "java/lang/System" "arraycopy" 5 + 11 ≤ 100 := by decide +kernel
set_option maxHeartbeats 4000000 in
theorem xr_nt_ok {b : Bool} {r r' : List xr_En} {pc len : Nat} {aux : List Nat} {lv l' : xr_L} {st st' : List Value} {w w' : List xr_C} {dc ds : Nat} {i : Instr} (h : xr_nt b r pc len aux lv st w i = some (r', l', st', w', dc, ds)) (hx : p.tables.exec = Jvm.exec) (hb : c.code = cc) (hml : c.maxLocals = nL) (hd : decode cc pc = .ok (i, len)) (hown : s.vm.findClass own = some m.cls) (hts : ∀ w ∈ xr_tb, w.before args s = true) (hto : ∀ w ∈ xr_ob, va_Nw w s) (hK : va_K D vwCl (xr_ty cy) s) (hI : xr_I D ep ba sg cy s w b ce H locs) (hba : ba ≤ s.heap.size) (hZ : xr_Z ba sg s) (hc : xr_cht own i aux = true) (hcm : xr_chm own i aux = true) (hR : ce + dc ≤ R.cells ∧ sl + ds ≤ R.slots) (hRf : 1 ≤ R.frames) (hRl : 150 ≤ R.locals) (hl : lv_has ls nL (xr_lv ep ba sg lv))
    (k : xr_KA p l e R s m args below meth c Q D ep ba sg cy nL r' l' st' w' b (ce + dc) (sl + ds)) : W p l e R s m args below meth c H locs ce sl Q (F0 m pc ls (xr_sv ep ba sg st)) := by
  have hP := hI.1
  have hS := hI.2.1
  have hnf := xr_nfw
  have hsz : ls.size = nL := hl.1
  cases i
  case getstatic idx =>
    simp only [xr_nt, xr_nth_eq, xr_set_eq] at h
    obtain ⟨hq, rfl, rfl, rfl⟩ := xr_wu_ok h
    obtain ⟨rfl, hpc, rfl, rfl, -⟩ := xr_seq_ok hq
    simp only [xr_cht] at hc
    split at hc
    · have k := k H locs ls hI hl
      rw [hpc] at k
      exact va_gets hx hb hZ.1 hS hown (hts _ (xr_has_ok hc)) (fun _ h => h) hd k
    · cases hc
  case ldc idx =>
    simp only [xr_nt, xr_nth_eq, xr_set_eq] at h
    split at h
    · rename_i j u0
      cases hg : Nat.blt j 11 with
      | false => rw [hg] at h; cases h
      | true =>
        rw [hg] at h
        obtain ⟨hq, rfl, rfl, rfl⟩ := xr_wu_ok h
        obtain ⟨rfl, hpc, rfl, rfl, -⟩ := xr_seq_ok hq
        simp only [xr_cht, Bool.and_eq_true, decide_eq_true_eq] at hc
        obtain ⟨rfl, hc⟩ := hc
        obtain ⟨q, hq1, rfl⟩ := Option.map_eq_some_iff.mp hc
        have k := k H locs ls hI hl
        rw [hpc] at k
        have hj : j + 1 ≤ 11 := Nat.le_of_ble_eq_true hg
        have ej : (UInt32.ofNat (j + 4)).toNat = j + 4 := UInt32.toNat_ofNat_of_lt' (Nat.lt_of_le_of_lt (show j + 4 ≤ 14 by omega) (by decide))
        have ev : xr_sv ep ba sg (.float (UInt32.ofNat (j + 4)) :: st) = .ref (sg (j + 4)) :: xr_sv ep ba sg st := by
          show Value.ref (sg (UInt32.ofNat (j + 4)).toNat) :: xr_sv ep ba sg st = _
          rw [ej]
        rw [ev] at k
        exact va_ldcS hx hb hown (hZ.2.2.2 j q hq1).1 hd k
    · cases h
  case arraylength =>
    simp only [xr_nt, xr_nth_eq, xr_set_eq] at h
    split at h
    · rename_i u st1
      cases hu : decide (u = 1) with
      | false => rw [hu] at h; cases h
      | true =>
        rw [hu] at h
        have hu := of_decide_eq_true hu
        subst hu
        obtain ⟨hq, rfl, rfl, rfl⟩ := xr_wu_ok h
        obtain ⟨rfl, hpc, rfl, rfl, -⟩ := xr_seq_ok hq
        have k := k H locs ls hI hl
        rw [hpc] at k
        exact va_tlen hx hb hZ.2.1 hS rfl hd k
    · cases h
  case checkcast idx =>
    simp only [xr_nt, xr_nth_eq, xr_set_eq] at h
    split at h
    · rename_i hh0 u0 a st1
      split at h
      · rename_i k1 n1 as1 hw1
        cases hg : Nat.beq k1 0 with
        | false => rw [hg] at h; cases h
        | true =>
          rw [hg] at h
          have hg := Nat.eq_of_beq_eq_true hg
          subst hg
          obtain ⟨hq, rfl, rfl, rfl⟩ := xr_wu_ok h
          obtain ⟨rfl, hpc, rfl, rfl, -⟩ := xr_seq_ok hq
          simp only [xr_cht] at hc
          · have k := k H locs ls hI hl
            rw [hpc] at k
            have hcy0 : s.vm.findClass ("[" ++ (FieldType.int).toString) = some (cy 0) := (hK.2 0 _ rfl).2
            exact va_castA (q0 := a) (nm := "[I") hx hb hown (hts _ (xr_has_ok hc)) hP (xr_w_at hw1) hcy0 hd k
      · cases h
    · cases h
  case invokestatic idx =>
    simp only [xr_nt, xr_nth_eq, xr_set_eq] at h
    split at h
    · rename_i u n dp a sp a0 st1
      simp only [xr_cht] at hc
      split at h
      · rename_i k0 n0 as0 k1 n1 as1 hw0 hw1
        cases hg : (Nat.ble (xr_cs st1) 8 && (Nat.beq k0 k1 && ((Nat.beq k0 0 || (Nat.beq k0 1 && Nat.beq n.toNatClampNeg 0)) && (xr_cpok n && (xr_cpok dp && (xr_cpok sp && (Nat.ble (sp.toNatClampNeg + n.toNatClampNeg) n0 && Nat.ble (dp.toNatClampNeg + n.toNatClampNeg) n1))))))) with
        | false => rw [hg] at h; cases h
        | true =>
          rw [hg] at h
          obtain ⟨hq, rfl, rfl, rfl⟩ := xr_wu_ok h
          obtain ⟨rfl, hpc, rfl, rfl, -⟩ := xr_seq_ok hq
          simp only [Bool.and_eq_true, Bool.or_eq_true, xr_cpok, Bool.not_eq_true', decide_eq_false_iff_not] at hg
          obtain ⟨g1, g2, g3, g4, g5, g6, g7, g8⟩ := hg
          have g1 : xr_cs st1 ≤ 8 := Nat.le_of_ble_eq_true g1
          have g2 := Nat.eq_of_beq_eq_true g2
          subst g2
          have g7 := Nat.le_of_ble_eq_true g7
          have g8 := Nat.le_of_ble_eq_true g8
          split at hc
          · rename_i h1 h2 h3 h4 u2 heq
            simp only [Bool.and_eq_true] at hc
            have main : ∀ (H1 : Heap) (locs1 : List Loc), va_P D vwCl ((xr_w ep ba sg cy 0 w).set a (ba + a, xr_e ep ba sg cy (.inr (k0, n1, xr_cp (.int 0) as0 sp.toNatClampNeg dp.toNatClampNeg n.toNatClampNeg as1)))) H1 → va_S (fun q => ba ≤ q) H H1 locs1 → W p l e R s m args below meth c H1 locs1 ce sl Q (F0 m (pc + 3) ls (xr_sv ep ba sg st1)) := by
              intro H1 locs1 hP1 hS1
              have k := k H1 locs1 ls (xr_I_set hI hP1 hS1) hl
              rw [hpc] at k
              exact k
            rcases g3 with g3 | ⟨g3, g30⟩
            · have g3 := Nat.eq_of_beq_eq_true g3
              subst g3
              refine va_copyi (q0 := a0) (q1 := a) (t0 := 0) (t1 := 0) (ty := .int) (H0 := H) hx hb (hml.trans hsz.symm) hown (hts _ (xr_has_ok hc.1)) (hts _ (xr_has_ok hc.2.1)) (hts _ (xr_has_ok hc.2.2.1)) (hts _ (xr_has_ok hc.2.2.2)) hK hP (xr_w_D w) (xr_S_rf hS) (xr_w_at hw0) (xr_w_at hw1) rfl rfl rfl g6 g5 g4 g7 g8 (fun _ _ => rfl) hRf (by rw [xr_cs_v]; omega) hd (fun H1 locs1 hP1 _ hS1 => main H1 locs1 ?_ hS1)
              rw [xr_cpy_i] at hP1
              exact hP1
            · have g3 := Nat.eq_of_beq_eq_true g3
              have g30 := Nat.eq_of_beq_eq_true g30
              subst g3
              refine va_copyi (q0 := a0) (q1 := a) (t0 := 1) (t1 := 1) (ty := .byte) (H0 := H) hx hb (hml.trans hsz.symm) hown (hts _ (xr_has_ok hc.1)) (hts _ (xr_has_ok hc.2.1)) (hts _ (xr_has_ok hc.2.2.1)) (hts _ (xr_has_ok hc.2.2.2)) hK hP (xr_w_D w) (xr_S_rf hS) (xr_w_at hw0) (xr_w_at hw1) rfl rfl rfl g6 g5 g4 g7 g8 (fun i hi => by omega) hRf (by rw [xr_cs_v]; omega) hd (fun H1 locs1 hP1 _ hS1 => main H1 locs1 ?_ hS1)
              rw [xr_cpy_i] at hP1
              exact hP1
          · cases hc
          · rename_i hno heq
            exact (heq u rfl).elim
      · cases h
    · rename_i u n dp a sp v st1
      simp only [xr_cht] at hc
      split at h
      · rename_i k1 n1 as1 hw1
        cases hg : (Nat.ble (xr_cs st1) 8 && (Nat.beq k1 0 && (decide (v = 1) && (decide (n = 7) && (decide (dp = 0) && (decide (sp = 0) && Nat.ble 7 n1)))))) with
        | false => rw [hg] at h; cases h
        | true =>
          rw [hg] at h
          obtain ⟨hq, rfl, rfl, rfl⟩ := xr_wu_ok h
          obtain ⟨rfl, hpc, rfl, rfl, -⟩ := xr_seq_ok hq
          simp only [Bool.and_eq_true, decide_eq_true_eq] at hg
          obtain ⟨g1, g2, rfl, rfl, rfl, rfl, g8⟩ := hg
          have g1 : xr_cs st1 ≤ 8 := Nat.le_of_ble_eq_true g1
          have g2 := Nat.eq_of_beq_eq_true g2
          subst g2
          have g8 : 7 ≤ n1 := Nat.le_of_ble_eq_true g8
          split at hc
          · rename_i h1 h2 h3 h4 u2 heq
            simp only [Bool.and_eq_true] at hc
            refine xr_copyt (q1 := a) (t1 := 0) (f := xr_usn) hx hb (hml.trans hsz.symm) hown (hts _ (xr_has_ok hc.1)) (hts _ (xr_has_ok hc.2.1)) (hts _ (xr_has_ok hc.2.2.1)) (hts _ (xr_has_ok hc.2.2.2)) hK hP (xr_w_D w) hS hZ.2.1 (xr_w_at hw1) rfl (by decide) (by decide) (by decide) (by decide) (by exact g8) (fun _ _ => rfl) hRf (by rw [xr_cs_v]; omega) hd (fun H1 locs1 hP1 _ hS1 => ?_)
            have hP1 : va_P D vwCl ((xr_w ep ba sg cy 0 w).set a (ba + a, .inl (cy 0, n1, .inl (va_cpy xr_usn (fun q => xr_i (xr_v ep ba sg (xr_at as1 q (.int 0)))) 0 0 7)))) H1 := hP1
            rw [xr_cpy_u] at hP1
            have hP2 : va_P D vwCl (xr_w ep ba sg cy 0 (w.set a (.inr (0, n1, xr_cp (.int 0) xr_usl 0 0 7 as1)))) H1 := by
              rw [← xr_w_set w 0 a, Nat.zero_add]
              exact hP1
            have hlt : a < w.length := (List.getElem?_eq_some_iff.mp hw1).1
            have k := k H1 locs1 ls ⟨hP2, hS1, xr_P_len hP2 (by rw [List.length_set]; exact Nat.lt_of_le_of_lt (Nat.zero_le _) hlt), by rw [List.length_set]; exact hI.2.2.2⟩ hl
            rw [hpc] at k
            exact k
          · cases hc
          · rename_i hno heq
            exact (heq u rfl).elim
      · cases h
    · rename_i u y x st1
      cases hg : Nat.ble (xr_cs st1) 8 with
      | false => rw [hg] at h; cases h
      | true =>
        rw [hg] at h
        obtain ⟨hq, rfl, rfl, rfl⟩ := xr_wu_ok h
        obtain ⟨rfl, hpc, rfl, rfl, -⟩ := xr_seq_ok hq
        have g1 : xr_cs st1 ≤ 8 := Nat.le_of_ble_eq_true hg
        have k := k H locs ls hI hl
        rw [hpc] at k
        have ev : (bif xr_cf 1 y x then y else x) = (if y < x then y else x) := by
          rw [xr_cf_eq]
          show (bif decide (y < x) then y else x) = _
          by_cases hlt : y < x
          · rw [decide_eq_true hlt, if_pos hlt]; rfl
          · rw [decide_eq_false hlt, if_neg hlt]; rfl
        rw [ev] at k
        cases u with
        | nil => cases hcm
        | cons h1 u =>
        cases u with
        | nil => cases hcm
        | cons h2 u =>
        cases u with
        | nil => cases hcm
        | cons h3 u =>
        cases u with
        | nil => cases hcm
        | cons h4 u =>
        simp only [xr_chm, Bool.and_eq_true] at hcm
        exact va_mmin hx hb (hml.trans hsz.symm) hown (hts _ (xr_has_ok hcm.1)) (hts _ (xr_has_ok hcm.2.1)) (hts _ (xr_has_ok hcm.2.2.1)) (hts _ (xr_has_ok hcm.2.2.2)) hRf (by rw [xr_cs_v]; omega) (by omega) (by omega) hd k
    · rename_i u y x st1
      cases hg : Nat.ble (xr_cs st1) 8 with
      | false => rw [hg] at h; cases h
      | true =>
        rw [hg] at h
        obtain ⟨hq, rfl, rfl, rfl⟩ := xr_wu_ok h
        obtain ⟨rfl, hpc, rfl, rfl, -⟩ := xr_seq_ok hq
        have g1 : xr_cs st1 ≤ 8 := Nat.le_of_ble_eq_true hg
        have k := k H locs ls hI hl
        rw [hpc] at k
        have ev : (bif xr_cf 1 x y then y else x) = (if x < y then y else x) := by
          rw [xr_cf_eq]
          show (bif decide (x < y) then y else x) = _
          by_cases hlt : x < y
          · rw [decide_eq_true hlt, if_pos hlt]; rfl
          · rw [decide_eq_false hlt, if_neg hlt]; rfl
        rw [ev] at k
        cases u with
        | nil => cases hcm
        | cons h1 u =>
        cases u with
        | nil => cases hcm
        | cons h2 u =>
        cases u with
        | nil => cases hcm
        | cons h3 u =>
        cases u with
        | nil => cases hcm
        | cons h4 u =>
        simp only [xr_chm, Bool.and_eq_true] at hcm
        exact va_mmax hx hb (hml.trans hsz.symm) hown (hts _ (xr_has_ok hcm.1)) (hts _ (xr_has_ok hcm.2.1)) (hts _ (xr_has_ok hcm.2.2.1)) (hts _ (xr_has_ok hcm.2.2.2)) hRf (by rw [xr_cs_v]; omega) (by omega) (by omega) hd k
    · cases h
  case invokevirtual idx =>
    simp only [xr_nt, xr_nth_eq, xr_set_eq] at h
    split at h
    · rename_i u a st1
      simp only [xr_cht] at hc
      split at h
      · rename_i k1 n1 as1 hw1
        cases hg : (b && (Nat.ble (xr_cs st1) 8 && Nat.beq k1 0)) with
        | false => rw [hg] at h; cases h
        | true =>
          rw [hg] at h
          obtain ⟨hq, rfl, rfl, rfl⟩ := xr_wu_ok h
          obtain ⟨rfl, hpc, rfl, rfl, -⟩ := xr_seq_ok hq
          simp only [Bool.and_eq_true] at hg
          obtain ⟨rfl, g1, g2⟩ := hg
          have g1 : xr_cs st1 ≤ 8 := Nat.le_of_ble_eq_true g1
          have g2 := Nat.eq_of_beq_eq_true g2
          subst g2
          split at hc
          · rename_i h1 h2 h3 h4 h5 h6 u2 heq
            simp only [Bool.and_eq_true] at hc
            have hcy0 : s.vm.findClass ("[" ++ (FieldType.int).toString) = some (cy 0) := (hK.2 0 _ rfl).2
            refine va_clone (q0 := a) (t0 := 0) (H0 := H) (ad := "[I") hx hb (hml.trans hsz.symm) hown (hts _ (xr_has_ok hc.1)) (hts _ (xr_has_ok hc.2.1)) (hts _ (xr_has_ok hc.2.2.1)) (hts _ (xr_has_ok hc.2.2.2.1)) (hts _ (xr_has_ok hc.2.2.2.2.1)) (hto _ (xr_hasO_ok hc.2.2.2.2.2)) hK hP (xr_w_D w) (xr_S_rf hS) (fun q hq => by show ba ≤ q; have := hI.2.2.1; omega) (xr_w_at hw1) rfl hcy0 (fun i v hv => ?_) hRf (by rw [xr_cs_v]; omega) hR.1 hR.2 hd (fun q H1 _ hP1 hD1 hS1 => ?_)
            · have hv : (arrV (cy 0) n1 (fun j => Value.int (xr_i (xr_v ep ba sg (xr_at as1 j (.int 0)))))).slots[i]? = some v := hv
              by_cases hi : i < n1
              · rw [arrV_read _ _ hi] at hv
                cases hv
                rfl
              · rw [Array.getElem?_eq_none (by rw [arrV_size]; omega)] at hv
                cases hv
            · refine xr_up (fun hup => ?_)
              have hlen : (xr_w ep ba sg cy 0 w).length = w.length := xr_w_len w 0
              have hql : q < H1.size := (hP1 w.length (q, _) (by rw [← hlen, List.getElem?_concat_length])).lt
              have hqa : ba ≤ q := hD1.2 w.length (q, _) (by rw [← hlen, List.getElem?_concat_length])
              have hex := hI.2.2.2 rfl
              have hq : q = ba + w.length := by
                by_cases hlt : q - ba < w.length
                · exfalso
                  have e1 : (xr_w ep ba sg cy 0 w)[q - ba]? = some (ba + (q - ba), xr_e ep ba sg cy w[q - ba]) := xr_w_at (List.getElem?_eq_getElem hlt)
                  have e2 := hD1.1 (q - ba) w.length _ _ (by rw [List.getElem?_append_left (by rw [hlen]; exact hlt)]; exact e1) (by rw [← hlen, List.getElem?_concat_length]) (by show ba + (q - ba) = q; omega)
                  omega
                · omega
              subst hq
              have hP2 : va_P D vwCl (xr_w ep ba sg cy 0 (w ++ [.inr (0, n1, as1)])) H1 := by
                rw [xr_w_app, Nat.zero_add]
                exact hP1
              have k := k H1 locs ls ⟨hP2, xr_S_tr hS hS1, xr_P_len hP2 (by simp), fun _ => by rw [List.length_append]; simp; omega⟩ hl
              rw [hpc] at k
              exact k
          · cases hc
          · rename_i hno heq
            exact (heq u rfl).elim
      · cases h
    · cases h
  case invokespecial idx =>
    simp only [xr_nt, xr_nth_eq, xr_set_eq] at h
    split at h
    · rename_i u a st1
      cases hg : Nat.ble (xr_cs st1) 8 with
      | false => rw [hg] at h; cases h
      | true =>
        rw [hg] at h
        obtain ⟨hq, rfl, rfl, rfl⟩ := xr_wu_ok h
        obtain ⟨rfl, hpc, rfl, rfl, -⟩ := xr_seq_ok hq
        have g1 : xr_cs st1 ≤ 8 := Nat.le_of_ble_eq_true hg
        simp only [xr_cht] at hc
        split at hc
        · simp only [Bool.and_eq_true] at hc
          have k := k H locs ls hI hl
          rw [hpc] at k
          exact W.objInit hx hb hown (hts _ (xr_has_ok hc.1)) (hts _ (xr_has_ok hc.2.1)) (hts _ (xr_has_ok hc.2.2)) (g := F0 m pc ls (.ref (ba + a) :: xr_sv ep ba sg st1)) rfl (hsz.trans hml.symm) rfl hd hRf (by show 2 * 0 + _ + 12 ≤ _; rw [xr_cs_v]; omega) k
        · cases hc
        · rename_i hno heq
          exact (heq u rfl).elim
    · cases h
  all_goals exact absurd (show (none : Option xr_U) = some _ from h) (fun z => by cases z)
end XRN
