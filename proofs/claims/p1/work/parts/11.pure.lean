/-! instructions that don't touch the heap -/
def xr_ld (ok : Value → Bool) (r : List xr_En) (pc len n : Nat) (l : xr_L) (st : List Value) (i : Nat) : Option xr_S := match xr_get l i with
  | some v => bif ok v then xr_seq r pc len n l (v :: st) else none
  | none => none
def xr_sto (ok : Value → Bool) (nL : Nat) (r : List xr_En) (pc len n : Nat) (l : xr_L) (st : List Value) (i : Nat) : Option xr_S := match st with
  | v :: st' => bif ok v && Nat.blt i nL then xr_seq r pc len n (xr_s1 l i v) st' else none
  | [] => none
def xr_stl (nL : Nat) (r : List xr_En) (pc len n : Nat) (l : xr_L) (st : List Value) (i : Nat) : Option xr_S := match st with
  | v :: st' => bif xr_isL v && Nat.blt (i + 1) nL then xr_seq r pc len n (xr_s2 l i v) st' else none
  | [] => none
def xr_ar (df : xr_D) (k : Nat) (r : List xr_En) (pc len : Nat) (l : xr_L) (st : List Value) : Option xr_S := match st with
  | y :: x :: st' => match xr_bin df k x y with
    | some v => xr_seq r pc len 1 l (v :: st')
    | none => none
  | _ => none
def xr_dv (df : xr_D) (k : Nat) (r : List xr_En) (pc len : Nat) (l : xr_L) (st : List Value) : Option xr_S := match st with
  | .int b :: x :: st' => bif decide (b = 0) then none else match xr_bin df k x (.int b) with
    | some v => xr_seq r pc len 1 l (v :: st')
    | none => none
  | _ => none
def xr_un (df : xr_D) (k : Nat) (r : List xr_En) (pc len : Nat) (l : xr_L) (st : List Value) : Option xr_S := match st with
  | x :: st' => match xr_bin df k x (.int 0) with
    | some v => xr_seq r pc len 1 l (v :: st')
    | none => none
  | _ => none
def xr_br (tab r : List xr_En) (aux : List Nat) (pc len : Nat) (off : Int) (l : xr_L) (st : List Value) (t : Option Bool) : Option xr_S := match t with
  | some true => xr_to tab aux pc len 3 off l st
  | some false => xr_seq r pc len 3 l st
  | none => none
def xr_ll (k : Nat) (a : Int64) (b : Value) : Option Int64 := match k, b with
  | 0, .long y => some (a &&& y)
  | 1, .long y => some (a ||| y)
  | 2, .int y => some (a <<< (y.toInt64 &&& 63))
  | 3, .int y => some (a >>> (y.toInt64 &&& 63))
  | _, _ => none
def xr_lo (k : Nat) (r : List xr_En) (pc len : Nat) (l : xr_L) (st : List Value) : Option xr_S := match st with
  | y :: .long a :: st' => match xr_ll k a y with
    | some v => xr_seq r pc len 1 l (.long v :: st')
    | none => none
  | _ => none
def xr_sw (fx : xr_F) (tab r : List xr_En) (aux : List Nat) (pc len : Nat) (dflt lo hi : Int) (offs : Array Int) (l : xr_L) (st : List Value) : Option xr_S := match st with
  | .int x :: st' => bif decide (x.toInt < lo) || decide (hi < x.toInt) then xr_to tab (aux.drop 0) pc len len dflt l st' else
    match offs[(x.toInt - lo).toNat]? with
    | some off => xr_to tab (aux.drop (1 + (x.toInt - lo).toNat)) pc len len off l st'
    | none => none
  | .retAddr n :: st' => bif decide ((Int32.ofInt lo).toInt = lo) && decide ((Int32.ofInt hi).toInt = hi) then (match xr_fx fx 1 (.retAddr n) (.int (Int32.ofInt lo)) with
    | some true => xr_to tab aux pc len len dflt l st'
    | _ => match xr_fx fx 1 (.int (Int32.ofInt hi)) (.retAddr n) with
      | some true => xr_to tab aux pc len len dflt l st'
      | _ => none) else none
  | _ => none
def xr_lk (tab : List xr_En) (aux : List Nat) (pc len : Nat) (dflt : Int) (ps : Array (Int × Int)) (l : xr_L) (st : List Value) : Option xr_S := match st with
  | .int x :: st' => bif (ps.toList.zip (ps.toList.drop 1)).all (fun (a, next) => a.1 < next.1) then (match ps.toList.findIdx? (fun q => decide (q.1 = x.toInt)) with
    | some j => xr_to tab (aux.drop (1 + j)) pc len len (Op.lookupswitch.offset ps.toList dflt x.toInt) l st'
    | none => xr_to tab aux pc len len (Op.lookupswitch.offset ps.toList dflt x.toInt) l st') else none
  | _ => none
def xr_lcm (st : List Value) : Option (Value × List Value) := match st with
  | .long y :: .long x :: st' => some (.int (lg_cmp x y), st')
  | .double u :: .double v :: st' => bif decide (u = v) then some (.int 0, st') else none
  | _ => none
def xr_i2l (st : List Value) : Option (List Value) := match st with
  | .int x :: st' => some (.long x.toInt64 :: st')
  | .retAddr n :: st' => bif Nat.blt n 1000 then some (.double (UInt64.ofNat n) :: st') else none
  | _ => none
def xr_du2 (st : List Value) : Option (List Value) := match st with
  | a :: b :: st' => bif Nat.beq a.category 1 && Nat.beq b.category 1 then some (a :: b :: a :: b :: st') else none
  | _ => none
def xr_pure (df : xr_D) (fx : xr_F) (nL : Nat) (tab r : List xr_En) (pc len : Nat) (aux : List Nat) (l : xr_L) (st : List Value) (i : Instr) : Option xr_S := match i with
  | .iconst n => xr_seq r pc len 1 l (.int (Int32.ofInt n) :: st)
  | .bipush n => xr_seq r pc len 2 l (.int (Int8.ofInt n).toInt32 :: st)
  | .sipush n => xr_seq r pc len 3 l (.int (Int16.ofInt n).toInt32 :: st)
  | .lconst n => xr_seq r pc len 1 l (.long (Int64.ofNat (n : Nat)) :: st)
  | .aconst_null => xr_seq r pc len 1 l (.null :: st)
  | .iload_n k => xr_ld xr_isI r pc len 1 l st k.val
  | .iload k => xr_ld xr_isI r pc len 2 l st k
  | .lload_n k => xr_ld xr_isL r pc len 1 l st k.val
  | .lload k => xr_ld xr_isL r pc len 2 l st k
  | .aload_n k => xr_ld xr_isB r pc len 1 l st k.val
  | .aload k => xr_ld xr_isB r pc len 2 l st k
  | .istore_n k => xr_sto xr_isI nL r pc len 1 l st k.val
  | .istore k => xr_sto xr_isI nL r pc len 2 l st k
  | .astore_n k => xr_sto xr_isA nL r pc len 1 l st k.val
  | .astore k => xr_sto xr_isA nL r pc len 2 l st k
  | .lstore_n k => xr_stl nL r pc len 1 l st k.val
  | .lstore k => xr_stl nL r pc len 2 l st k
  | .iinc k n => match xr_get l k with
    | some x => match xr_bin df 0 x (.int (Int32.ofInt n)) with
      | some v => bif Nat.blt k nL then xr_seq r pc len 3 (xr_s1 l k v) st else none
      | none => none
    | none => none
  | .iadd => xr_ar df 0 r pc len l st
  | .isub => xr_ar df 1 r pc len l st
  | .imul => xr_ar df 2 r pc len l st
  | .idiv => xr_dv df 3 r pc len l st
  | .irem => xr_dv df 4 r pc len l st
  | .iand => xr_ar df 5 r pc len l st
  | .ior => xr_ar df 6 r pc len l st
  | .ixor => xr_ar df 7 r pc len l st
  | .ishl => xr_ar df 8 r pc len l st
  | .ishr => xr_ar df 9 r pc len l st
  | .iushr => xr_ar df 10 r pc len l st
  | .i2b => xr_un df 11 r pc len l st
  | .ineg => xr_un df 12 r pc len l st
  | .i2c => xr_un df 13 r pc len l st
  | .land => xr_lo 0 r pc len l st
  | .lor => xr_lo 1 r pc len l st
  | .lshl => xr_lo 2 r pc len l st
  | .lshr => xr_lo 3 r pc len l st
  | .i2l => match xr_i2l st with
    | some st' => xr_seq r pc len 1 l st'
    | none => none
  | .lcmp => match xr_lcm st with
    | some q => xr_seq r pc len 1 l (q.1 :: q.2)
    | none => none
  | .dup => match st with
    | a :: st' => bif Nat.beq a.category 1 then xr_seq r pc len 1 l (a :: a :: st') else none
    | [] => none
  | .pop => match st with
    | a :: st' => bif Nat.beq a.category 1 then xr_seq r pc len 1 l st' else none
    | [] => none
  | .dup2 => match xr_du2 st with
    | some st' => xr_seq r pc len 1 l st'
    | none => none
  | .goto off => xr_to tab aux pc len 3 off l st
  | .ifCond c off => match st with
    | x :: st' => xr_br tab r aux pc len off l st' (xr_test fx c x (.int 0))
    | [] => none
  | .if_icmp c off => match st with
    | y :: x :: st' => xr_br tab r aux pc len off l st' (xr_test fx c x y)
    | _ => none
  | .ifnonnull off => match st with
    | .ref _ :: st' => xr_to tab aux pc len 3 off l st'
    | .null :: st' => xr_seq r pc len 3 l st'
    | _ => none
  | .ifnull off => match st with
    | .ref _ :: st' => xr_seq r pc len 3 l st'
    | .null :: st' => xr_to tab aux pc len 3 off l st'
    | _ => none
  | .tableswitch dflt lo hi offs => xr_sw fx tab r aux pc len dflt lo hi offs l st
  | .lookupswitch dflt ps => xr_lk tab aux pc len dflt ps l st
  | _ => none
section XRP
variable {p : Program} {l : Launch} {e : Env} {R : Room} {s : State} {m : MethodId} {args : Array Value} {below : List Frame} {meth : Method} {c : Code} {H : Heap} {locs : List Loc} {cells slots : Nat} {Q : State → Prop}
variable {cc : ByteArray} {ep : Nat → Int32} {ba : Nat} {sg : Nat → Nat} {ls : Array Slot} {nL : Nat}
abbrev xr_sv (ep : Nat → Int32) (ba : Nat) (sg : Nat → Nat) (st : List Value) : List Value := st.map (xr_v ep ba sg)
/-- what is owed of the state behind an instruction -/
abbrev xr_K (p : Program) (l : Launch) (e : Env) (R : Room) (s : State) (m : MethodId) (args : Array Value) (below : List Frame) (meth : Method) (c : Code) (H : Heap) (locs : List Loc) (cells slots : Nat) (Q : State → Prop) (ep : Nat → Int32) (ba : Nat) (sg : Nat → Nat) (nL : Nat) (r' : List xr_En) (l' : xr_L) (st' : List Value) : Prop :=
  ∀ ls' : Array Slot, lv_has ls' nL (xr_lv ep ba sg l') → W p l e R s m args below meth c H locs cells slots Q (F0 m (xr_pc r') ls' (xr_sv ep ba sg st'))
theorem xr_ldI {r r' : List xr_En} {pc len n : Nat} {lv l' : xr_L} {st st' : List Value} {i : Nat} {ok : Value → Bool} (h : xr_ld ok r pc len n lv st i = some (r', l', st')) (hl : lv_has ls nL (xr_lv ep ba sg lv)) : ∃ v, ok v = true ∧ ls[i]? = some (.val (xr_v ep ba sg v)) ∧ len = n ∧ xr_pc r' = pc + n ∧ lv = l' ∧ v :: st = st' := by
  unfold xr_ld at h
  cases hg : xr_get lv i with
  | none => rw [hg] at h; cases h
  | some v =>
    rw [hg] at h
    simp only at h
    cases hk : ok v with
    | false => rw [hk] at h; cases h
    | true =>
      rw [hk] at h
      obtain ⟨h1, h2, h3, h4, -⟩ := xr_seq_ok h
      exact ⟨v, hk, xr_get_ok hl hg, h1, h2, h3, h4⟩
theorem xr_stI {r r' : List xr_En} {pc len n : Nat} {lv l' : xr_L} {st st' : List Value} {i : Nat} {ok : Value → Bool} (h : xr_sto ok nL r pc len n lv st i = some (r', l', st')) : ∃ v st0, st = v :: st0 ∧ ok v = true ∧ i < nL ∧ len = n ∧ xr_pc r' = pc + n ∧ xr_s1 lv i v = l' ∧ st0 = st' := by
  unfold xr_sto at h
  cases st with
  | nil => cases h
  | cons v st0 =>
    simp only at h
    cases hk : (ok v && Nat.blt i nL) with
    | false => rw [hk] at h; cases h
    | true =>
      rw [hk] at h
      obtain ⟨h1, h2, h3, h4, -⟩ := xr_seq_ok h
      simp only [Bool.and_eq_true] at hk
      exact ⟨v, st0, rfl, hk.1, Nat.le_of_ble_eq_true hk.2, h1, h2, h3, h4⟩
theorem xr_slI {r r' : List xr_En} {pc len n : Nat} {lv l' : xr_L} {st st' : List Value} {i : Nat} (h : xr_stl nL r pc len n lv st i = some (r', l', st')) : ∃ v st0, st = v :: st0 ∧ xr_isL v = true ∧ i + 1 < nL ∧ len = n ∧ xr_pc r' = pc + n ∧ xr_s2 lv i v = l' ∧ st0 = st' := by
  unfold xr_stl at h
  cases st with
  | nil => cases h
  | cons v st0 =>
    simp only at h
    cases hk : (xr_isL v && Nat.blt (i + 1) nL) with
    | false => rw [hk] at h; cases h
    | true =>
      rw [hk] at h
      obtain ⟨h1, h2, h3, h4, -⟩ := xr_seq_ok h
      simp only [Bool.and_eq_true] at hk
      exact ⟨v, st0, rfl, hk.1, Nat.le_of_ble_eq_true hk.2, h1, h2, h3, h4⟩
theorem xr_arI {df : xr_D} (hd : xr_okD ep ba sg df) {k : Nat} {r r' : List xr_En} {pc len : Nat} {lv l' : xr_L} {st st' : List Value} (h : xr_ar df k r pc len lv st = some (r', l', st')) : ∃ a b st0, xr_sv ep ba sg st = .int b :: .int a :: st0 ∧ len = 1 ∧ xr_pc r' = pc + 1 ∧ lv = l' ∧ xr_sv ep ba sg st' = .int (xr_op k a b) :: st0 := by
  unfold xr_ar at h
  split at h
  · rename_i y x st1
    cases hb : xr_bin df k x y with
    | none => rw [hb] at h; cases h
    | some v =>
      rw [hb] at h
      obtain ⟨h1, h2, h3, h4, -⟩ := xr_seq_ok h
      obtain ⟨a, b, e1, e2, e3⟩ := xr_bin_ok hd hb
      subst h4
      exact ⟨a, b, xr_sv ep ba sg st1, by simp [e1, e2], h1, h2, h3, by simp [e3]⟩
  · cases h
theorem xr_dvI {df : xr_D} (hd : xr_okD ep ba sg df) {k : Nat} {r r' : List xr_En} {pc len : Nat} {lv l' : xr_L} {st st' : List Value} (h : xr_dv df k r pc len lv st = some (r', l', st')) : ∃ a b st0, xr_sv ep ba sg st = .int b :: .int a :: st0 ∧ ¬ b = 0 ∧ len = 1 ∧ xr_pc r' = pc + 1 ∧ lv = l' ∧ xr_sv ep ba sg st' = .int (xr_op k a b) :: st0 := by
  unfold xr_dv at h
  split at h
  · rename_i y x st1
    cases h0 : decide (y = 0) with
    | true => rw [h0] at h; cases h
    | false =>
      rw [h0] at h
      simp only [cond_false] at h
      cases hb : xr_bin df k x (.int y) with
      | none => rw [hb] at h; cases h
      | some v =>
        rw [hb] at h
        obtain ⟨h1, h2, h3, h4, -⟩ := xr_seq_ok h
        obtain ⟨a, b, e1, e2, e3⟩ := xr_bin_ok hd hb
        cases e2
        subst h4
        exact ⟨a, y, xr_sv ep ba sg st1, by show _ :: xr_v ep ba sg x :: _ = _; rw [e1]; rfl, of_decide_eq_false h0, h1, h2, h3, by simp [e3]⟩
  · cases h
theorem xr_unI {df : xr_D} (hd : xr_okD ep ba sg df) {k : Nat} {r r' : List xr_En} {pc len : Nat} {lv l' : xr_L} {st st' : List Value} (h : xr_un df k r pc len lv st = some (r', l', st')) : ∃ a st0, xr_sv ep ba sg st = .int a :: st0 ∧ len = 1 ∧ xr_pc r' = pc + 1 ∧ lv = l' ∧ xr_sv ep ba sg st' = .int (xr_op k a 0) :: st0 := by
  unfold xr_un at h
  split at h
  · rename_i x st1
    cases hb : xr_bin df k x (.int 0) with
    | none => rw [hb] at h; cases h
    | some v =>
      rw [hb] at h
      obtain ⟨h1, h2, h3, h4, -⟩ := xr_seq_ok h
      obtain ⟨a, b, e1, e2, e3⟩ := xr_bin_ok hd hb
      cases e2
      subst h4
      exact ⟨a, xr_sv ep ba sg st1, by simp [e1], h1, h2, h3, by simp [e3]⟩
  · cases h
theorem xr_brI {tab r r' : List xr_En} {aux : List Nat} {pc len : Nat} {off : Int} {lv l' : xr_L} {st st' : List Value} {t : Option Bool} (h : xr_br tab r aux pc len off lv st t = some (r', l', st')) : ∃ b, t = some b ∧ len = 3 ∧ lv = l' ∧ st = st' ∧ (b = true → (pc : Int) + off = (xr_pc r' : Int)) ∧ (b = false → xr_pc r' = pc + 3) := by
  unfold xr_br at h
  split at h
  · obtain ⟨h1, h2, h3, h4, -⟩ := xr_to_ok h
    exact ⟨true, rfl, h1, h3, h4, fun _ => h2, fun h => by cases h⟩
  · obtain ⟨h1, h2, h3, h4, -⟩ := xr_seq_ok h
    exact ⟨false, rfl, h1, h3, h4, (fun h => by cases h), fun _ => h2⟩
  · cases h
end XRP
