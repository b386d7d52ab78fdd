section XRV
variable {p : Program} {l : Launch} {e : Env} {R : Room} {s : State} {m : MethodId} {args : Array Value} {below : List Frame} {meth : Method} {c : Code} {H : Heap} {locs : List Loc} {cells slots : Nat} {Q : State → Prop}
variable {cc : ByteArray} {ep : Nat → Int32} {ba : Nat} {sg : Nat → Nat} {cy : Nat → ClassId} {D : va_G} {ls : Array Slot} {nL : Nat} {own : String}
theorem xr_S_rf {A : Nat → Prop} {H0 H : Heap} {locs : List Loc} (h : va_S A H0 H locs) : va_S A H H locs := ⟨Nat.le_refl _, fun _ _ _ => rfl, h.2.2⟩
theorem xr_S_tr {A : Nat → Prop} {H0 H H1 : Heap} {locs locs1 : List Loc} (h : va_S A H0 H locs) (h1 : va_S A H H1 locs1) : va_S A H0 H1 locs1 := ⟨Nat.le_trans h.1 h1.1, fun q g1 g2 => (h1.2.1 q (Nat.lt_of_lt_of_le g1 h.1) g2).trans (h.2.1 q g1 g2), h1.2.2⟩
/-- what is owed behind an instruction that writes -/
abbrev xr_KW (p : Program) (l : Launch) (e : Env) (R : Room) (s : State) (m : MethodId) (args : Array Value) (below : List Frame) (meth : Method) (c : Code) (cells slots : Nat) (Q : State → Prop) (D : va_G) (ep : Nat → Int32) (ba : Nat) (sg : Nat → Nat) (cy : Nat → ClassId) (nL : Nat) (r' : List xr_En) (l' : xr_L) (st' : List Value) (w' : List xr_C) (b : Bool) (ce : Nat) : Prop :=
  ∀ (H' : Heap) (locs' : List Loc) (ls' : Array Slot), xr_I D ep ba sg cy s w' b ce H' locs' → lv_has ls' nL (xr_lv ep ba sg l') → W p l e R s m args below meth c H' locs' cells slots Q (F0 m (xr_pc r') ls' (xr_sv ep ba sg st'))
theorem xr_I_set {w : List xr_C} {b : Bool} {ce : Nat} {a : Nat} {e : xr_C} {H1 : Heap} {locs1 : List Loc} (hI : xr_I D ep ba sg cy s w b ce H locs) (hP : va_P D vwCl ((xr_w ep ba sg cy 0 w).set a (ba + a, xr_e ep ba sg cy e)) H1) (hS1 : va_S (fun q => ba ≤ q) H H1 locs1) : xr_I D ep ba sg cy s (w.set a e) b ce H1 locs1 := by
  refine ⟨?_, xr_S_tr hI.2.1 hS1, ?_, ?_⟩
  · rw [← xr_w_set w 0 a e, Nat.zero_add]
    exact hP
  · rw [List.length_set]
    exact Nat.le_trans hI.2.2.1 hS1.1
  · rw [List.length_set]
    exact hI.2.2.2
theorem xr_wtaI {kd : Nat} {v : Value} {w w' : List xr_C} {r r' : List xr_En} {pc len : Nat} {lv l' : xr_L} {i : Int32} {a : Nat} {st st' : List Value} (h : xr_wta kd v w r pc len lv i a st = some (r', l', st', w')) : ∃ n as, w[a]? = some (.inr (kd, n, as)) ∧ vp_in i n ∧ len = 1 ∧ xr_pc r' = pc + 1 ∧ lv = l' ∧ st = st' ∧ w.set a (.inr (kd, n, (i.toNatClampNeg, v) :: as)) = w' := by
  unfold xr_wta at h
  simp only [xr_nth_eq, xr_set_eq] at h
  split at h
  · rename_i k n as hw
    cases hc : (Nat.beq k kd && xr_ix i n) with
    | false => rw [hc] at h; cases h
    | true =>
      rw [hc] at h
      obtain ⟨h, hw2⟩ := xr_wr_ok h
      obtain ⟨h1, h2, h3, h4, -⟩ := xr_seq_ok h
      simp only [Bool.and_eq_true] at hc
      have hk := Nat.eq_of_beq_eq_true hc.1
      subst hk
      exact ⟨n, as, hw, xr_ix_ok hc.2, h1, h2, h3, h4, hw2⟩
  · cases h
theorem xr_upd_i {as : xr_L} {j : Nat} {v : Value} {x : Int32} (hv : xr_v ep ba sg v = .int x) : upd (fun q => xr_i (xr_v ep ba sg (xr_at as q (.int 0)))) j x = fun q => xr_i (xr_v ep ba sg (xr_at ((j, v) :: as) q (.int 0))) := by
  funext q
  unfold upd
  show _ = xr_i (xr_v ep ba sg (bif Nat.beq q j then v else xr_at as q (.int 0)))
  by_cases hq : q = j
  · subst hq
    rw [if_pos rfl, show Nat.beq q q = true from Nat.beq_refl q, cond_true, hv]
    rfl
  · rw [if_neg hq, show Nat.beq q j = false from Bool.eq_false_iff.mpr (fun h => hq (Nat.eq_of_beq_eq_true h)), cond_false]
theorem xr_upd_l {as : xr_L} {j : Nat} {v : Value} {x : Int64} (hv : xr_v ep ba sg v = .long x) : vp_updL (fun q => xr_l (xr_v ep ba sg (xr_at as q (.long 0)))) j x = fun q => xr_l (xr_v ep ba sg (xr_at ((j, v) :: as) q (.long 0))) := by
  funext q
  unfold vp_updL
  show _ = xr_l (xr_v ep ba sg (bif Nat.beq q j then v else xr_at as q (.long 0)))
  by_cases hq : q = j
  · subst hq
    rw [if_pos rfl, show Nat.beq q q = true from Nat.beq_refl q, cond_true, hv]
    rfl
  · rw [if_neg hq, show Nat.beq q j = false from Bool.eq_false_iff.mpr (fun h => hq (Nat.eq_of_beq_eq_true h)), cond_false]
set_option maxHeartbeats 4000000 in
theorem xr_wt_ok {df : xr_D} (hD : xr_okD ep ba sg df) {r r' : List xr_En} {pc len : Nat} {aux : List Nat} {lv l' : xr_L} {st st' : List Value} {w w' : List xr_C} {b : Bool} {ce : Nat} {i : Instr} (h : xr_wt df r pc len aux lv st w i = some (r', l', st', w')) (hx : p.tables.exec = Jvm.exec) (hb : c.code = cc) (hd : decode cc pc = .ok (i, len)) (hown : s.vm.findClass own = some m.cls) (hts : ∀ w ∈ xr_tb, w.before args s = true) (hK : va_K D vwCl (xr_ty cy) s) (hI : xr_I D ep ba sg cy s w b ce H locs) (hf : ∀ idx, i = .putfield idx → xr_fld own idx aux = true ∧ xr_fin own meth.name aux = true) (hl : lv_has ls nL (xr_lv ep ba sg lv))
    (k : xr_KW p l e R s m args below meth c cells slots Q D ep ba sg cy nL r' l' st' w' b ce) : W p l e R s m args below meth c H locs cells slots Q (F0 m pc ls (xr_sv ep ba sg st)) := by
  have hP := hI.1
  have hS := hI.2.1
  cases i
  case putfield idx =>
    obtain ⟨ci, kf, u, C, T, N, rfl, hc, hk, hw⟩ := xr_fld_ok (hf idx rfl).1
    have hfin := (hf idx rfl).2
    simp only [xr_fin, hc] at hfin
    simp only [xr_wt, xr_nth_eq, xr_set_eq] at h
    split at h
    · rename_i ci' k' u' v a st1 heq
      cases heq
      split at h
      · rename_i cj fs hwa
        cases hcj : (Nat.beq cj ci && (xr_fit (xr_ft ci kf) v && Nat.blt kf fs.length)) with
        | false => rw [hcj] at h; cases h
        | true =>
          rw [hcj] at h
          simp only [Bool.and_eq_true] at hcj
          obtain ⟨hcj, hft, hlt⟩ := hcj
          have hcj := Nat.eq_of_beq_eq_true hcj
          subst hcj
          obtain ⟨hq, rfl⟩ := xr_wr_ok h
          obtain ⟨rfl, hpc, rfl, rfl, -⟩ := xr_seq_ok hq
          have hlt : kf < fs.length := Nat.le_of_ble_eq_true hlt
          obtain ⟨hn, hft⟩ := xr_fit_ok ep ba sg hft
          obtain ⟨hty, hnm, hin, -, -⟩ := xr_cls hc
          have kk : ∀ (H1 : Heap) (locs1 : List Loc), va_P D vwCl ((xr_w ep ba sg cy 0 w).set a (ba + a, .inr (cj, (fs.map (xr_v ep ba sg)).set kf (xr_v ep ba sg v)))) H1 → va_D (fun q => ba ≤ q) ((xr_w ep ba sg cy 0 w).set a (ba + a, .inr (cj, (fs.map (xr_v ep ba sg)).set kf (xr_v ep ba sg v)))) → va_S (fun q => ba ≤ q) H H1 locs1 → W p l e R s m args below meth c H1 locs1 cells slots Q (F0 m (pc + 3) ls (xr_sv ep ba sg st1)) := by
            intro H1 locs1 hP1 _ hS1
            have k := k H1 locs1 ls (xr_I_set (e := .inl (cj, fs.set kf v)) hI (by
              have e9 : xr_e ep ba sg cy (.inl (cj, fs.set kf v)) = .inr (cj, (fs.map (xr_v ep ba sg)).set kf (xr_v ep ba sg v)) := by
                show Sum.inr (cj, (fs.set kf v).map (xr_v ep ba sg)) = _
                rw [List.map_set]
              rw [e9]
              exact hP1) hS1) hl
            rw [hpc] at k
            exact k
          cases hT : (T kf).2.2.2 with
          | false => exact va_put (q0 := a) (k := kf) (H0 := H) hx hb hts hin (xr_ft cj) hty hnm hown hK hP (xr_w_D w) (xr_S_rf hS) (xr_w_at hwa) hc hk (hts _ hw) (fun _ h => h) hT (hty kf hk) hn hft (by rw [List.length_map]; exact hlt) hd kk
          | true =>
            rw [hT] at hfin
            simp only [Bool.not_true, Bool.false_or, Bool.and_eq_true, decide_eq_true_eq] at hfin
            exact va_putF (q0 := a) (k := kf) (H0 := H) hx hb hts hin (xr_ft cj) hty hnm hown hK hP (xr_w_D w) (xr_S_rf hS) (xr_w_at hwa) hc hk (hts _ hw) (fun _ h => h) hT hfin.1 hfin.2 (hty kf hk) hn hft (by rw [List.length_map]; exact hlt) hd kk
      · cases h
    · cases h
  case iastore =>
    simp only [xr_wt, xr_nth_eq, xr_set_eq] at h
    split at h
    · rename_i v i a st1
      cases hi : xr_isI v with
      | false => rw [hi] at h; cases h
      | true =>
        rw [hi] at h
        obtain ⟨n, as, hwa, hin, rfl, hpc, rfl, rfl, rfl⟩ := xr_wtaI h
        obtain ⟨x, ex⟩ := xr_isI_ok (ep := ep) (ba := ba) (sg := sg) hi
        simp only [xr_sv, List.map_cons, ex]
        refine va_iast (q0 := a) (t0 := 0) (H0 := H) hx hb hK hP (xr_w_D w) (xr_S_rf hS) (xr_w_at hwa) rfl hin hd (fun H1 locs1 hP1 _ hS1 => ?_)
        rw [xr_upd_i ex] at hP1
        have k := k H1 locs1 ls (xr_I_set (e := .inr (0, n, (i.toNatClampNeg, v) :: as)) hI hP1 hS1) hl
        rw [hpc] at k
        exact k
    · cases h
  case bastore =>
    simp only [xr_wt, xr_nth_eq, xr_set_eq] at h
    split at h
    · rename_i y i a st1
      cases hv : xr_bin df 11 y (.int 0) with
      | none => rw [hv] at h; cases h
      | some v =>
        rw [hv] at h
        obtain ⟨n, as, hwa, hin, rfl, hpc, rfl, rfl, rfl⟩ := xr_wtaI h
        obtain ⟨x, z, ex, ez, ev⟩ := xr_bin_ok hD hv
        cases ez
        simp only [xr_sv, List.map_cons, ex]
        refine va_bast (q0 := a) (t0 := 1) (H0 := H) hx hb hK hP (xr_w_D w) (xr_S_rf hS) (xr_w_at hwa) rfl hin hd (fun H1 locs1 hP1 _ hS1 => ?_)
        rw [show vp_nar .byte x = xr_op 11 x 0 from rfl, xr_upd_i ev] at hP1
        have k := k H1 locs1 ls (xr_I_set (e := .inr (1, n, (i.toNatClampNeg, v) :: as)) hI hP1 hS1) hl
        rw [hpc] at k
        exact k
    · cases h
  case lastore =>
    simp only [xr_wt, xr_nth_eq, xr_set_eq] at h
    split at h
    · rename_i v i a st1
      cases hi : xr_isL v with
      | false => rw [hi] at h; cases h
      | true =>
        rw [hi] at h
        obtain ⟨n, as, hwa, hin, rfl, hpc, rfl, rfl, rfl⟩ := xr_wtaI h
        obtain ⟨x, ex⟩ := xr_isL_ok (ep := ep) (ba := ba) (sg := sg) hi
        simp only [xr_sv, List.map_cons, ex]
        refine va_last (q0 := a) (t0 := 2) (H0 := H) hx hb hK hP (xr_w_D w) (xr_S_rf hS) (xr_w_at hwa) rfl hin hd (fun H1 locs1 hP1 _ hS1 => ?_)
        rw [xr_upd_l ex] at hP1
        have k := k H1 locs1 ls (xr_I_set (e := .inr (2, n, (i.toNatClampNeg, v) :: as)) hI hP1 hS1) hl
        rw [hpc] at k
        exact k
    · cases h
  all_goals exact absurd (show (none : Option xr_T) = some _ from h) (fun z => by cases z)
end XRV
