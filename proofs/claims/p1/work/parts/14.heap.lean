/-! reading and writing the world -/
def xr_ix (i : Int32) (n : Nat) : Bool := !decide (i < 0) && Nat.blt i.toNatClampNeg n
theorem xr_ix_ok {i : Int32} {n : Nat} (h : xr_ix i n = true) : vp_in i n := by
  simp only [xr_ix, Bool.and_eq_true, Bool.not_eq_true', decide_eq_false_iff_not] at h
  have h2 : i.toNatClampNeg < n := Nat.le_of_ble_eq_true h.2
  exact fun q => q.elim h.1 (fun z => absurd h2 (Nat.not_lt.mpr z))
def xr_isR (v : Value) : Bool := match v with
  | .ref _ => true
  | .null => true
  | _ => false
def xr_fld (own : String) (idx : Nat) (aux : List Nat) : Bool := match aux with
  | ci :: k :: h :: _ => match vwCl[ci]? with
    | some q => Nat.blt k q.2.2 && xr_has h (.fieldLink own idx (q.2.1 k).1 (q.2.1 k).2.1 (q.2.1 k).2.2.1)
    | none => false
  | _ => false
theorem xr_fld_ok {own : String} {idx : Nat} {aux : List Nat} (h : xr_fld own idx aux = true) : ∃ (ci k : Nat) (u : List Nat) (C : String) (T : u_T) (N : Nat), aux = ci :: k :: u ∧ vwCl[ci]? = some (C, T, N) ∧ k < N ∧ Cond.fieldLink own idx (T k).1 (T k).2.1 (T k).2.2.1 ∈ xr_tb := by
  unfold xr_fld at h
  split at h
  · rename_i ci k hh u
    cases hc : vwCl[ci]? with
    | none => rw [hc] at h; cases h
    | some q =>
      rw [hc] at h
      simp only [Bool.and_eq_true] at h
      obtain ⟨C, T, N⟩ := q
      exact ⟨ci, k, hh :: u, C, T, N, rfl, hc, Nat.le_of_ble_eq_true h.1, xr_has_ok h.2⟩
  · cases h
def xr_fin (own name : String) (aux : List Nat) : Bool := match aux with
  | ci :: k :: _ => match vwCl[ci]? with
    | some q => !(q.2.1 k).2.2.2 || (decide (name = "<init>") && decide ((q.2.1 k).1 = own))
    | none => false
  | _ => false
def xr_fit (ty : FieldType) (v : Value) : Bool := match ty, v with
  | .int, .int _ => true
  | .int, .retAddr _ => true
  | .long, .long _ => true
  | .boolean, .int x => decide (x = 0) || decide (x = 1)
  | .object _, .ref _ => true
  | .object _, .null => true
  | .array _, .ref _ => true
  | .array _, .null => true
  | _, _ => false
theorem xr_fit_ok (ep : Nat → Int32) (ba : Nat) (sg : Nat → Nat) {ty : FieldType} {v : Value} (h : xr_fit ty v = true) : narrow ty (xr_v ep ba sg v) = xr_v ep ba sg v ∧ fits ty (xr_v ep ba sg v) = true := by
  unfold xr_fit at h
  split at h
  · exact ⟨rfl, rfl⟩
  · exact ⟨rfl, rfl⟩
  · exact ⟨rfl, rfl⟩
  · rename_i x
    simp only [Bool.or_eq_true, decide_eq_true_eq] at h
    rcases h with rfl | rfl
    · exact ⟨show narrow .boolean (.int 0) = .int 0 by decide, show fits .boolean (.int 0) = true by decide⟩
    · exact ⟨show narrow .boolean (.int 1) = .int 1 by decide, show fits .boolean (.int 1) = true by decide⟩
  · exact ⟨rfl, rfl⟩
  · exact ⟨rfl, rfl⟩
  · exact ⟨rfl, rfl⟩
  · exact ⟨rfl, rfl⟩
  · cases h
def xr_rda (kd : Nat) (ok : Value → Bool) (d : Value) (w : List xr_C) (r : List xr_En) (pc len : Nat) (l : xr_L) (i : Int32) (a : Nat) (st : List Value) : Option xr_S := match xr_nth w a with
  | some (.inr (k, n, as)) => bif Nat.beq k kd && (xr_ix i n && ok (xr_at as i.toNatClampNeg d)) then xr_seq r pc len 1 l (xr_at as i.toNatClampNeg d :: st) else none
  | _ => none
def xr_rd (scr : Option (List Value)) (r : List xr_En) (pc len : Nat) (aux : List Nat) (l : xr_L) (st : List Value) (w : List xr_C) (i : Instr) : Option xr_S := match i with
  | .getfield _ => match aux, st with
    | ci :: k :: _, .ref a :: st' => match xr_nth w a with
      | some (.inl (cj, fs)) => bif Nat.beq cj ci then (match xr_nth fs k with
        | some v => xr_seq r pc len 3 l (v :: st')
        | none => none) else none
      | _ => none
    | _, _ => none
  | .iaload => match st with
    | .int i :: .ref a :: st' => xr_rda 0 xr_isI (.int 0) w r pc len l i a st'
    | .int i :: .float u :: st' => match scr with
      | some xs => bif decide (u = 0) && xr_ix i xs.length then (match xr_nth xs i.toNatClampNeg with
        | some v => bif xr_isI v then xr_seq r pc len 1 l (v :: st') else none
        | none => none) else none
      | none => none
    | _ => none
  | .baload => match st with
    | .int i :: .ref a :: st' => xr_rda 1 xr_isI (.int 0) w r pc len l i a st'
    | _ => none
  | .laload => match st with
    | .int i :: .ref a :: st' => xr_rda 2 xr_isL (.long 0) w r pc len l i a st'
    | _ => none
  | .aaload => match st with
    | .int i :: .ref a :: st' => xr_rda 3 xr_isR .null w r pc len l i a st'
    | _ => none
  | .arraylength => match st with
    | .ref a :: st' => match xr_nth w a with
      | some (.inr (kd, n, _)) => bif Nat.blt kd 4 then xr_seq r pc len 1 l (.int (Int32.ofNat n) :: st') else none
      | _ => none
    | .float u :: st' => match scr with
      | some xs => bif decide (u = 0) then xr_seq r pc len 1 l (.int (Int32.ofNat xs.length) :: st') else none
      | none => none
    | _ => none
  | _ => none
abbrev xr_T : Type := List xr_En × xr_L × List Value × List xr_C
def xr_wr (o : Option xr_S) (w : List xr_C) : Option xr_T := match o with
  | some q => some (q.1, q.2.1, q.2.2, w)
  | none => none
theorem xr_wr_ok {o : Option xr_S} {w w' : List xr_C} {r : List xr_En} {l : xr_L} {st : List Value} (h : xr_wr o w = some (r, l, st, w')) : o = some (r, l, st) ∧ w = w' := by
  unfold xr_wr at h
  split at h
  · cases h; exact ⟨rfl, rfl⟩
  · cases h
def xr_wta (kd : Nat) (v : Value) (w : List xr_C) (r : List xr_En) (pc len : Nat) (l : xr_L) (i : Int32) (a : Nat) (st : List Value) : Option xr_T := match xr_nth w a with
  | some (.inr (k, n, as)) => bif Nat.beq k kd && xr_ix i n then xr_wr (xr_seq r pc len 1 l st) (xr_set w a (.inr (kd, n, (i.toNatClampNeg, v) :: as))) else none
  | _ => none
def xr_wt (df : xr_D) (r : List xr_En) (pc len : Nat) (aux : List Nat) (l : xr_L) (st : List Value) (w : List xr_C) (i : Instr) : Option xr_T := match i with
  | .putfield _ => match aux, st with
    | ci :: k :: _, v :: .ref a :: st' => match xr_nth w a with
      | some (.inl (cj, fs)) => bif Nat.beq cj ci && (xr_fit (xr_ft ci k) v && Nat.blt k fs.length) then xr_wr (xr_seq r pc len 3 l st') (xr_set w a (.inl (ci, xr_set fs k v))) else none
      | _ => none
    | _, _ => none
  | .iastore => match st with
    | v :: .int i :: .ref a :: st' => bif xr_isI v then xr_wta 0 v w r pc len l i a st' else none
    | _ => none
  | .bastore => match st with
    | x :: .int i :: .ref a :: st' => match xr_bin df 11 x (.int 0) with
      | some v => xr_wta 1 v w r pc len l i a st'
      | none => none
    | _ => none
  | .lastore => match st with
    | v :: .int i :: .ref a :: st' => bif xr_isL v then xr_wta 2 v w r pc len l i a st' else none
    | _ => none
  | _ => none
section XRH
variable {p : Program} {l : Launch} {e : Env} {R : Room} {s : State} {m : MethodId} {args : Array Value} {below : List Frame} {meth : Method} {c : Code} {H : Heap} {locs : List Loc} {cells slots : Nat} {Q : State → Prop}
variable {cc : ByteArray} {ep : Nat → Int32} {ba : Nat} {sg : Nat → Nat} {cy : Nat → ClassId} {D : va_G} {ls : Array Slot} {nL : Nat} {own : String}
def xr_I (D : va_G) (ep : Nat → Int32) (ba : Nat) (sg : Nat → Nat) (cy : Nat → ClassId) (s : State) (w : List xr_C) (b : Bool) (ce : Nat) (H : Heap) (locs : List Loc) : Prop :=
  va_P D vwCl (xr_w ep ba sg cy 0 w) H ∧ va_S (fun q => ba ≤ q) s.heap H locs ∧ ba + w.length ≤ H.size ∧ (b = true → s.heap.size + ce = ba + w.length)
/-- the script that the law reads -/
def xr_Sc (ep : Nat → Int32) (ba : Nat) (sg : Nat → Nat) (s : State) (scr : Option (List Value)) : Prop := ∀ xs, scr = some xs → va_X (sg 0) xs.length (fun j => xr_i (xr_v ep ba sg (xs.getD j (.int 0)))) s s.heap ∧ sg 0 < s.heap.size ∧ sg 0 < ba
theorem xr_iv (v : Value) (h : xr_isI v = true) : Value.int (xr_i (xr_v ep ba sg v)) = xr_v ep ba sg v := by
  obtain ⟨x, ex⟩ := xr_isI_ok (ep := ep) (ba := ba) (sg := sg) h
  rw [ex]; rfl
theorem xr_lvv (v : Value) (h : xr_isL v = true) : Value.long (xr_l (xr_v ep ba sg v)) = xr_v ep ba sg v := by
  obtain ⟨x, ex⟩ := xr_isL_ok (ep := ep) (ba := ba) (sg := sg) h
  rw [ex]; rfl
theorem xr_rv (v : Value) (h : xr_isR v = true) : va_rf (xr_r (xr_v ep ba sg v)) = xr_v ep ba sg v := by
  cases v <;> first | rfl | (simp [xr_isR] at h)
theorem xr_rdaI {kd : Nat} {ok : Value → Bool} {d : Value} {w : List xr_C} {r r' : List xr_En} {pc len : Nat} {lv l' : xr_L} {i : Int32} {a : Nat} {st st' : List Value} (h : xr_rda kd ok d w r pc len lv i a st = some (r', l', st')) : ∃ n as, w[a]? = some (.inr (kd, n, as)) ∧ vp_in i n ∧ ok (xr_at as i.toNatClampNeg d) = true ∧ len = 1 ∧ xr_pc r' = pc + 1 ∧ lv = l' ∧ xr_at as i.toNatClampNeg d :: st = st' := by
  unfold xr_rda at h
  rw [xr_nth_eq] at h
  split at h
  · rename_i k n as hw
    cases hc : (Nat.beq k kd && (xr_ix i n && ok (xr_at as i.toNatClampNeg d))) with
    | false => rw [hc] at h; cases h
    | true =>
      rw [hc] at h
      obtain ⟨h1, h2, h3, h4, -⟩ := xr_seq_ok h
      simp only [Bool.and_eq_true] at hc
      have hk := Nat.eq_of_beq_eq_true hc.1
      subst hk
      exact ⟨n, as, hw, xr_ix_ok hc.2.1, hc.2.2, h1, h2, h3, h4⟩
  · cases h
set_option maxHeartbeats 4000000 in
theorem xr_rd_ok {scr : Option (List Value)} {r r' : List xr_En} {pc len : Nat} {aux : List Nat} {lv l' : xr_L} {st st' : List Value} {w : List xr_C} {b : Bool} {ce : Nat} {i : Instr} (h : xr_rd scr r pc len aux lv st w i = some (r', l', st')) (hx : p.tables.exec = Jvm.exec) (hb : c.code = cc) (hd : decode cc pc = .ok (i, len)) (hown : s.vm.findClass own = some m.cls) (hts : ∀ w ∈ xr_tb, w.before args s = true) (hK : va_K D vwCl (xr_ty cy) s) (hI : xr_I D ep ba sg cy s w b ce H locs) (hsc : xr_Sc ep ba sg s scr) (hf : ∀ idx, i = .getfield idx → xr_fld own idx aux = true) (hl : lv_has ls nL (xr_lv ep ba sg lv))
    (k : xr_K p l e R s m args below meth c H locs cells slots Q ep ba sg nL r' l' st') : W p l e R s m args below meth c H locs cells slots Q (F0 m pc ls (xr_sv ep ba sg st)) := by
  obtain ⟨hP, hS, hz, hsz⟩ := hI
  cases i
  case getfield idx =>
    obtain ⟨ci, kf, u, C, T, N, rfl, hc, hk, hw⟩ := xr_fld_ok (hf idx rfl)
    simp only [xr_rd, xr_nth_eq] at h
    split at h
    · rename_i ci' k' u' a st1 heq
      cases heq
      split at h
      · rename_i cj fs hwa
        cases hcj : Nat.beq cj ci with
        | false => rw [hcj] at h; cases h
        | true =>
          rw [hcj] at h
          have hcj := Nat.eq_of_beq_eq_true hcj
          subst hcj
          simp only [cond_true] at h
          cases hv : fs[kf]? with
          | none => rw [hv] at h; cases h
          | some v =>
            rw [hv] at h
            obtain ⟨rfl, hpc, rfl, rfl, -⟩ := xr_seq_ok h
            have k := k ls hl
            rw [hpc] at k
            exact va_get (q0 := a) (k := kf) hx hb hts (xr_cls hc).2.2.1 hown hK hP (xr_w_at hwa) hc hk (hts _ hw) (fun _ h => h) (v := xr_v ep ba sg v) (by rw [List.getElem?_map, hv]; rfl) hd k
      · cases h
    · cases h
  case iaload =>
    simp only [xr_rd, xr_nth_eq] at h
    split at h
    · rename_i i a st1
      obtain ⟨n, as, hwa, hin, hok, rfl, hpc, rfl, rfl⟩ := xr_rdaI h
      have k := k ls hl
      rw [hpc] at k
      refine va_iald (q0 := a) (t0 := 0) hx hb hK hP (xr_w_at hwa) rfl hin hd ?_
      rw [xr_iv _ hok]
      exact k
    · rename_i i u st1
      split at h
      · rename_i xs
        cases hc : (decide (u = 0) && xr_ix i xs.length) with
        | false => rw [hc] at h; cases h
        | true =>
          rw [hc] at h
          simp only [cond_true] at h
          simp only [Bool.and_eq_true, decide_eq_true_eq] at hc
          obtain ⟨rfl, hix⟩ := hc
          cases hv : xs[i.toNatClampNeg]? with
          | none => rw [hv] at h; cases h
          | some v =>
            rw [hv] at h
            simp only at h
            cases hi : xr_isI v with
            | false => rw [hi] at h; cases h
            | true =>
              rw [hi] at h
              obtain ⟨rfl, hpc, rfl, rfl, -⟩ := xr_seq_ok h
              have k := k ls hl
              rw [hpc] at k
              obtain ⟨hX, hbl, hlt⟩ := hsc xs rfl
              refine va_sld (A := fun q => ba ≤ q) hx hb hX hbl (Nat.not_le.mpr hlt) hS (xr_ix_ok hix) hd ?_
              have e9 : xs.getD i.toNatClampNeg (.int 0) = v := by rw [List.getD_eq_getElem?_getD, hv]; rfl
              rw [e9, xr_iv _ hi]
              exact k
      · cases h
    · cases h
  case baload =>
    simp only [xr_rd, xr_nth_eq] at h
    split at h
    · rename_i i a st1
      obtain ⟨n, as, hwa, hin, hok, rfl, hpc, rfl, rfl⟩ := xr_rdaI h
      have k := k ls hl
      rw [hpc] at k
      refine va_bald (q0 := a) (t0 := 1) hx hb hK hP (xr_w_at hwa) rfl hin hd ?_
      rw [xr_iv _ hok]
      exact k
    · cases h
  case laload =>
    simp only [xr_rd, xr_nth_eq] at h
    split at h
    · rename_i i a st1
      obtain ⟨n, as, hwa, hin, hok, rfl, hpc, rfl, rfl⟩ := xr_rdaI h
      have k := k ls hl
      rw [hpc] at k
      refine va_lald (q0 := a) (t0 := 2) hx hb hK hP (xr_w_at hwa) rfl hin hd ?_
      rw [xr_lvv _ hok]
      exact k
    · cases h
  case aaload =>
    simp only [xr_rd, xr_nth_eq] at h
    split at h
    · rename_i i a st1
      obtain ⟨n, as, hwa, hin, hok, rfl, hpc, rfl, rfl⟩ := xr_rdaI h
      have k := k ls hl
      rw [hpc] at k
      have hcell : H[ba + a]? = some (arrV (cy 3) n (fun j => va_rf (xr_r (xr_v ep ba sg (xr_at as j .null))))) := hP a _ (xr_w_at hwa)
      have hlt : i.toNatClampNeg < n := Nat.not_le.mp fun q => hin (Or.inr q)
      refine W.aald (v := va_rf (xr_r (xr_v ep ba sg (xr_at as i.toNatClampNeg .null)))) (ty := .array .int) hx hb hcell ((hK.2 3 _ rfl).1 n (fun j => va_rf (xr_r (xr_v ep ba sg (xr_at as j .null))))) rfl (fun q => by cases q) (by rw [arrV_size]; exact hin) (by rw [arrV_read _ _ hlt]) rfl rfl hd ?_
      rw [xr_rv _ hok]
      exact k
    · cases h
  case arraylength =>
    simp only [xr_rd, xr_nth_eq] at h
    split at h
    · rename_i a st1
      split at h
      · rename_i kd n as hwa
        cases hk4 : Nat.blt kd 4 with
        | false => rw [hk4] at h; cases h
        | true =>
          rw [hk4] at h
          obtain ⟨rfl, hpc, rfl, rfl, -⟩ := xr_seq_ok h
          have k := k ls hl
          rw [hpc] at k
          have h4 : kd < 4 := Nat.le_of_ble_eq_true hk4
          have hn : (xr_A ep ba sg kd n as).1 = n := by unfold xr_A; split <;> rfl
          rcases (show kd = 0 ∨ kd = 1 ∨ kd = 2 ∨ kd = 3 by omega) with rfl | rfl | rfl | rfl
          · exact va_alen (q0 := a) (t0 := 0) hx hb hK hP (xr_w_at hwa) rfl (by rw [hn]) hd k
          · exact va_alen (q0 := a) (t0 := 1) hx hb hK hP (xr_w_at hwa) rfl (by rw [hn]) hd k
          · exact va_alen (q0 := a) (t0 := 2) hx hb hK hP (xr_w_at hwa) rfl (by rw [hn]) hd k
          · exact va_alen (q0 := a) (t0 := 3) hx hb hK hP (xr_w_at hwa) rfl (by rw [hn]) hd k
      · cases h
    · rename_i u st1
      split at h
      · rename_i xs
        cases hu : decide (u = 0) with
        | false => rw [hu] at h; cases h
        | true =>
          rw [hu] at h
          obtain ⟨rfl, hpc, rfl, rfl, -⟩ := xr_seq_ok h
          have k := k ls hl
          rw [hpc] at k
          have hu := of_decide_eq_true hu
          subst hu
          obtain ⟨hX, hbl, hlt⟩ := hsc xs rfl
          exact va_slen (A := fun q => ba ≤ q) hx hb hX hbl (Nat.not_le.mpr hlt) hS hd k
      · cases h
    · cases h
  all_goals exact absurd (show (none : Option xr_S) = some _ from h) (fun z => by cases z)
end XRH
