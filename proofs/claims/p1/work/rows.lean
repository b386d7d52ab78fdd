section
/-! A SYMBOLIC MACHINE, evaluated by the kernel, and what it says of the real one. Values as syntax: '.ref k' the cell k made since the law's entry, '.retAddr n' the int variable n, '.double n' the same as a long, '.float n' an outer address. -/
abbrev xr_C : Type := (Nat × List Value) ⊕ (Nat × Nat × List (Nat × Value))
abbrev xr_En : Type := Nat × Instr × Nat × List Nat
abbrev xr_L : Type := List (Nat × Value)
abbrev xr_D : Type := List (Nat × Value × Value × Nat)
abbrev xr_F : Type := List (Nat × Value × Value × Bool)
def xr_v (ep : Nat → Int32) (ba : Nat) (sg : Nat → Nat) : Value → Value
  | .ref k => .ref (ba + k)
  | .retAddr n => .int (ep n)
  | .double u => .long (ep u.toNat).toInt64
  | .float u => .ref (sg u.toNat)
  | .int x => .int x
  | .long x => .long x
  | .null => .null
def xr_lv (ep : Nat → Int32) (ba : Nat) (sg : Nat → Nat) (l : xr_L) : xr_L := l.map fun q => (q.1, xr_v ep ba sg q.2)
def xr_i (v : Value) : Int32 := match v with
  | .int x => x
  | _ => 0
def xr_l (v : Value) : Int64 := match v with
  | .long x => x
  | _ => 0
def xr_r (v : Value) : Option Nat := match v with
  | .ref a => some a
  | _ => none
def xr_at : xr_L → Nat → Value → Value
  | [], _, d => d
  | (i, v) :: t, j, d => bif Nat.beq j i then v else xr_at t j d
def xr_A (ep : Nat → Int32) (ba : Nat) (sg : Nat → Nat) (kd n : Nat) (as : xr_L) : vp_A :=
  match kd with
  | 2 => (n, .inr (.inl (fun j => xr_l (xr_v ep ba sg (xr_at as j (.long 0))))))
  | 3 => (n, .inr (.inr (.inr (.inr (fun j => xr_r (xr_v ep ba sg (xr_at as j .null)))))))
  | _ => (n, .inl (fun j => xr_i (xr_v ep ba sg (xr_at as j (.int 0)))))
def xr_e (ep : Nat → Int32) (ba : Nat) (sg : Nat → Nat) (cy : Nat → ClassId) : xr_C → va_E
  | .inl (ci, fs) => .inr (ci, fs.map (xr_v ep ba sg))
  | .inr (kd, n, as) => .inl (cy kd, xr_A ep ba sg kd n as)
def xr_w (ep : Nat → Int32) (ba : Nat) (sg : Nat → Nat) (cy : Nat → ClassId) : Nat → List xr_C → va_W
  | _, [] => []
  | k, c :: t => (ba + k, xr_e ep ba sg cy c) :: xr_w ep ba sg cy (k + 1) t
-- numbers
def xr_op (k : Nat) (a b : Int32) : Int32 := match k with
  | 0 => a + b
  | 1 => a - b
  | 2 => a * b
  | 3 => a / b
  | 4 => a - a / b * b
  | 5 => a &&& b
  | 6 => a ||| b
  | 7 => a ^^^ b
  | 8 => a <<< (b &&& 31)
  | 9 => a >>> (b &&& 31)
  | 10 => (a.toUInt32 >>> (b.toUInt32 &&& Int32.toUInt32 31)).toInt32
  | 11 => a.toInt8.toInt32
  | 12 => -a
  | _ => (a.toUInt32 % 65536).toInt32
/-- a number, brought to a literal -/
def xr_n (x : Int32) : Value := Nat.rec (.int (Int32.ofNat 0)) (fun n _ => .int (Int32.ofNat (n + 1))) x.toUInt32.toNat
theorem xr_n_ok (x : Int32) : xr_n x = .int x := by
  have h : ∀ n : Nat, (Nat.rec (.int (Int32.ofNat 0)) (fun n _ => .int (Int32.ofNat (n + 1))) n : Value) = .int (Int32.ofNat n) := fun n => by cases n <;> rfl
  unfold xr_n
  rw [h]
  congr 1
  apply Int32.toBitVec_inj.mp
  simp [Int32.toBitVec_ofNat]
def xr_cm (k : Nat) (a b : Int32) : Bool := match k with
  | 0 => decide (a = b)
  | _ => decide (a < b)
def xr_df (df : xr_D) (k : Nat) (x y : Value) : Option Value := match df with
  | [] => none
  | d :: t => bif Nat.beq d.1 k && (decide (d.2.1 = x) && decide (d.2.2.1 = y)) then some (.retAddr d.2.2.2) else xr_df t k x y
def xr_bin (df : xr_D) (k : Nat) (x y : Value) : Option Value := match x, y with
  | .int a, .int b => some (xr_n (xr_op k a b))
  | _, _ => xr_df df k x y
def xr_fx (fx : xr_F) (k : Nat) (x y : Value) : Option Bool := match fx with
  | [] => none
  | d :: t => bif Nat.beq d.1 k && (decide (d.2.1 = x) && decide (d.2.2.1 = y)) then some d.2.2.2 else xr_fx t k x y
def xr_c (fx : xr_F) (k : Nat) (x y : Value) : Option Bool := match x, y with
  | .int a, .int b => some (xr_cm k a b)
  | _, _ => xr_fx fx k x y
def xr_test (fx : xr_F) (c : ClassFile.Cond) (x y : Value) : Option Bool := match c with
  | .eq => xr_c fx 0 x y
  | .ne => (xr_c fx 0 x y).map not
  | .lt => xr_c fx 1 x y
  | .ge => (xr_c fx 1 x y).map not
  | .gt => xr_c fx 1 y x
  | .le => (xr_c fx 1 y x).map not
def xr_okD (ep : Nat → Int32) (ba : Nat) (sg : Nat → Nat) (df : xr_D) : Prop := ∀ d ∈ df, ∃ a b : Int32, xr_v ep ba sg d.2.1 = .int a ∧ xr_v ep ba sg d.2.2.1 = .int b ∧ ep d.2.2.2 = xr_op d.1 a b
def xr_okF (ep : Nat → Int32) (ba : Nat) (sg : Nat → Nat) (fx : xr_F) : Prop := ∀ d ∈ fx, ∃ a b : Int32, xr_v ep ba sg d.2.1 = .int a ∧ xr_v ep ba sg d.2.2.1 = .int b ∧ d.2.2.2 = xr_cm d.1 a b
theorem xr_df_ok {ep : Nat → Int32} {ba : Nat} {sg : Nat → Nat} {k : Nat} {x y v : Value} : ∀ {df : xr_D}, xr_okD ep ba sg df → xr_df df k x y = some v → ∃ a b : Int32, xr_v ep ba sg x = .int a ∧ xr_v ep ba sg y = .int b ∧ xr_v ep ba sg v = .int (xr_op k a b)
  | [], _, h => by simp [xr_df] at h
  | d :: t, hd, h => by
    unfold xr_df at h
    cases hc : (Nat.beq d.1 k && (decide (d.2.1 = x) && decide (d.2.2.1 = y))) with
    | true =>
      rw [hc] at h
      simp only [cond_true, Option.some.injEq] at h
      simp only [Bool.and_eq_true, decide_eq_true_eq] at hc
      obtain ⟨h1, h2, h3⟩ := hc
      have h1 := Nat.eq_of_beq_eq_true h1
      obtain ⟨a, b, e1, e2, e3⟩ := hd d List.mem_cons_self
      subst h1 h2 h3 h
      exact ⟨a, b, e1, e2, by simp only [xr_v]; rw [e3]⟩
    | false =>
      rw [hc] at h
      exact xr_df_ok (fun d hd' => hd d (List.mem_cons_of_mem _ hd')) h
theorem xr_bin_ok {ep : Nat → Int32} {ba : Nat} {sg : Nat → Nat} {k : Nat} {x y v : Value} {df : xr_D} (hd : xr_okD ep ba sg df) (h : xr_bin df k x y = some v) : ∃ a b : Int32, xr_v ep ba sg x = .int a ∧ xr_v ep ba sg y = .int b ∧ xr_v ep ba sg v = .int (xr_op k a b) := by
  unfold xr_bin at h
  split at h
  · rw [xr_n_ok] at h
    cases h
    exact ⟨_, _, rfl, rfl, rfl⟩
  · exact xr_df_ok hd h
theorem xr_fx_ok {ep : Nat → Int32} {ba : Nat} {sg : Nat → Nat} {k : Nat} {x y : Value} {v : Bool} : ∀ {df : xr_F}, xr_okF ep ba sg df → xr_fx df k x y = some v → ∃ a b : Int32, xr_v ep ba sg x = .int a ∧ xr_v ep ba sg y = .int b ∧ v = xr_cm k a b
  | [], _, h => by simp [xr_fx] at h
  | d :: t, hd, h => by
    unfold xr_fx at h
    cases hc : (Nat.beq d.1 k && (decide (d.2.1 = x) && decide (d.2.2.1 = y))) with
    | true =>
      rw [hc] at h
      simp only [cond_true, Option.some.injEq] at h
      simp only [Bool.and_eq_true, decide_eq_true_eq] at hc
      obtain ⟨h1, h2, h3⟩ := hc
      have h1 := Nat.eq_of_beq_eq_true h1
      obtain ⟨a, b, e1, e2, e3⟩ := hd d List.mem_cons_self
      subst h1 h2 h3 h
      exact ⟨a, b, e1, e2, e3⟩
    | false =>
      rw [hc] at h
      exact xr_fx_ok (fun d hd' => hd d (List.mem_cons_of_mem _ hd')) h
theorem xr_c_ok {ep : Nat → Int32} {ba : Nat} {sg : Nat → Nat} {k : Nat} {x y : Value} {v : Bool} {fx : xr_F} (hd : xr_okF ep ba sg fx) (h : xr_c fx k x y = some v) : ∃ a b : Int32, xr_v ep ba sg x = .int a ∧ xr_v ep ba sg y = .int b ∧ v = xr_cm k a b := by
  unfold xr_c at h
  split at h
  · cases h
    exact ⟨_, _, rfl, rfl, rfl⟩
  · exact xr_fx_ok hd h
-- kinds
def xr_isI (v : Value) : Bool := match v with
  | .int _ => true
  | .retAddr _ => true
  | _ => false
def xr_isL (v : Value) : Bool := match v with
  | .long _ => true
  | .double _ => true
  | _ => false
def xr_isA (v : Value) : Bool := match v with
  | .ref _ => true
  | .float _ => true
  | _ => false
theorem xr_isI_ok {ep : Nat → Int32} {ba : Nat} {sg : Nat → Nat} {v : Value} (h : xr_isI v = true) : ∃ x : Int32, xr_v ep ba sg v = .int x := by
  cases v <;> first | exact ⟨_, rfl⟩ | (simp [xr_isI] at h)
theorem xr_isL_ok {ep : Nat → Int32} {ba : Nat} {sg : Nat → Nat} {v : Value} (h : xr_isL v = true) : ∃ x : Int64, xr_v ep ba sg v = .long x := by
  cases v <;> first | exact ⟨_, rfl⟩ | (simp [xr_isL] at h)
theorem xr_isA_ok {ep : Nat → Int32} {ba : Nat} {sg : Nat → Nat} {v : Value} (h : xr_isA v = true) : ∃ x : Nat, xr_v ep ba sg v = .ref x := by
  cases v <;> first | exact ⟨_, rfl⟩ | (simp [xr_isA] at h)
theorem xr_cat (ep : Nat → Int32) (ba : Nat) (sg : Nat → Nat) (v : Value) : (xr_v ep ba sg v).category = v.category := by cases v <;> rfl
-- locals
def xr_get : xr_L → Nat → Option Value
  | [], _ => none
  | (i, v) :: t, j => bif Nat.beq i j then some v else xr_get t j
def xr_s1 (l : xr_L) (i : Nat) (v : Value) : xr_L := (i, v) :: l.filter (fun q => !(q.1 == i) && !(q.1 + 1 == i && q.2.category == 2))
def xr_s2 (l : xr_L) (i : Nat) (v : Value) : xr_L := (i, v) :: l.filter (fun q => !(q.1 == i) && (!(q.1 == i + 1) && !(q.1 + 1 == i && q.2.category == 2)))
theorem xr_get_mem : ∀ {l : xr_L} {i : Nat} {v : Value}, xr_get l i = some v → (i, v) ∈ l
  | [], _, _, h => by simp [xr_get] at h
  | (j, w) :: t, i, v, h => by
    unfold xr_get at h
    cases hc : Nat.beq j i with
    | true =>
      rw [hc] at h
      simp only [cond_true, Option.some.injEq] at h
      have h1 := Nat.eq_of_beq_eq_true hc
      subst h1 h
      exact List.mem_cons_self
    | false =>
      rw [hc] at h
      exact List.mem_cons_of_mem _ (xr_get_mem h)
theorem xr_get_ok {ep : Nat → Int32} {ba : Nat} {sg : Nat → Nat} {ls : Array Slot} {nL : Nat} {l : xr_L} {i : Nat} {v : Value} (hl : lv_has ls nL (xr_lv ep ba sg l)) (h : xr_get l i = some v) : ls[i]? = some (.val (xr_v ep ba sg v)) :=
  hl.2.2 (i, xr_v ep ba sg v) (List.mem_map.mpr ⟨(i, v), xr_get_mem h, rfl⟩)
theorem xr_s1_ok (ep : Nat → Int32) (ba : Nat) (sg : Nat → Nat) (l : xr_L) (i : Nat) (v : Value) : (i, xr_v ep ba sg v) :: (xr_lv ep ba sg l).filter (fun q => !(q.1 == i) && !(q.1 + 1 == i && q.2.category == 2)) = xr_lv ep ba sg (xr_s1 l i v) := by
  unfold xr_s1 xr_lv
  rw [List.filter_map, List.map_cons]
  congr 2
  apply List.filter_congr
  intro q _
  simp only [Function.comp, xr_cat]
theorem xr_s2_ok (ep : Nat → Int32) (ba : Nat) (sg : Nat → Nat) (l : xr_L) (i : Nat) (v : Value) : (i, xr_v ep ba sg v) :: (xr_lv ep ba sg l).filter (fun q => !(q.1 == i) && (!(q.1 == i + 1) && !(q.1 + 1 == i && q.2.category == 2))) = xr_lv ep ba sg (xr_s2 l i v) := by
  unfold xr_s2 xr_lv
  rw [List.filter_map, List.map_cons]
  congr 2
  apply List.filter_congr
  intro q _
  simp only [Function.comp, xr_cat]
-- where a frame stands
def xr_pc : List xr_En → Nat
  | e :: _ => e.1
  | [] => 0
abbrev xr_S : Type := List xr_En × xr_L × List Value
def xr_seq (r : List xr_En) (pc len n : Nat) (l : xr_L) (st : List Value) : Option xr_S := bif Nat.beq len n then (match r with
  | e :: _ => bif Nat.beq e.1 (pc + n) then some (r, l, st) else none
  | [] => none) else none
def xr_to (tab : List xr_En) (aux : List Nat) (pc len n : Nat) (off : Int) (l : xr_L) (st : List Value) : Option xr_S := bif Nat.beq len n then (match tab.drop (aux.headD 0) with
  | e :: r => bif decide ((pc : Int) + off = (e.1 : Int)) then some (e :: r, l, st) else none
  | [] => none) else none
theorem xr_seq_ok {r r' : List xr_En} {pc len n : Nat} {l l' : xr_L} {st st' : List Value} (h : xr_seq r pc len n l st = some (r', l', st')) : len = n ∧ xr_pc r' = pc + n ∧ l = l' ∧ st = st' ∧ r = r' := by
  unfold xr_seq at h
  cases hc : Nat.beq len n with
  | false => rw [hc] at h; cases h
  | true =>
    rw [hc] at h
    simp only [cond_true] at h
    cases r with
    | nil => cases h
    | cons e t =>
      simp only at h
      cases hd : Nat.beq e.1 (pc + n) with
      | false => rw [hd] at h; cases h
      | true =>
        rw [hd] at h
        cases h
        exact ⟨Nat.eq_of_beq_eq_true hc, Nat.eq_of_beq_eq_true hd, rfl, rfl, rfl⟩
theorem xr_to_ok {tab r' : List xr_En} {aux : List Nat} {pc len n : Nat} {off : Int} {l l' : xr_L} {st st' : List Value} (h : xr_to tab aux pc len n off l st = some (r', l', st')) : len = n ∧ (pc : Int) + off = (xr_pc r' : Int) ∧ l = l' ∧ st = st' ∧ r' = tab.drop (aux.headD 0) := by
  unfold xr_to at h
  cases hc : Nat.beq len n with
  | false => rw [hc] at h; cases h
  | true =>
    rw [hc] at h
    simp only [cond_true] at h
    cases hr : tab.drop (aux.headD 0) with
    | nil => rw [hr] at h; cases h
    | cons e t =>
      rw [hr] at h
      simp only at h
      cases hd : decide ((pc : Int) + off = (e.1 : Int)) with
      | false => rw [hd] at h; cases h
      | true =>
        rw [hd] at h
        cases h
        exact ⟨Nat.eq_of_beq_eq_true hc, of_decide_eq_true hd, rfl, rfl, rfl⟩
end
section
/-! instructions that don't touch the heap -/
def xr_ld (ok : Value → Bool) (r : List xr_En) (pc len n : Nat) (l : xr_L) (st : List Value) (i : Nat) : Option xr_S := match xr_get l i with
  | some v => bif ok v then xr_seq r pc len n l (v :: st) else none
  | none => none
def xr_sto (ok : Value → Bool) (nL : Nat) (r : List xr_En) (pc len n : Nat) (l : xr_L) (st : List Value) (i : Nat) : Option xr_S := match st with
  | v :: st' => bif ok v && Nat.blt i nL then xr_seq r pc len n (xr_s1 l i v) st' else none
  | [] => none
def xr_stl (nL : Nat) (r : List xr_En) (pc len n : Nat) (l : xr_L) (st : List Value) (i : Nat) : Option xr_S := match st with
  | v :: st' => bif xr_isL v && Nat.blt (i + 1) nL then xr_seq r pc len n (xr_s2 l i v) st' else none
  | [] => none
def xr_ar (df : xr_D) (k : Nat) (r : List xr_En) (pc len : Nat) (l : xr_L) (st : List Value) : Option xr_S := match st with
  | y :: x :: st' => match xr_bin df k x y with
    | some v => xr_seq r pc len 1 l (v :: st')
    | none => none
  | _ => none
def xr_dv (df : xr_D) (k : Nat) (r : List xr_En) (pc len : Nat) (l : xr_L) (st : List Value) : Option xr_S := match st with
  | .int b :: x :: st' => bif decide (b = 0) then none else match xr_bin df k x (.int b) with
    | some v => xr_seq r pc len 1 l (v :: st')
    | none => none
  | _ => none
def xr_un (df : xr_D) (k : Nat) (r : List xr_En) (pc len : Nat) (l : xr_L) (st : List Value) : Option xr_S := match st with
  | x :: st' => match xr_bin df k x (.int 0) with
    | some v => xr_seq r pc len 1 l (v :: st')
    | none => none
  | _ => none
def xr_br (tab r : List xr_En) (aux : List Nat) (pc len : Nat) (off : Int) (l : xr_L) (st : List Value) (t : Option Bool) : Option xr_S := match t with
  | some true => xr_to tab aux pc len 3 off l st
  | some false => xr_seq r pc len 3 l st
  | none => none
def xr_ll (k : Nat) (a : Int64) (b : Value) : Option Int64 := match k, b with
  | 0, .long y => some (a &&& y)
  | 1, .long y => some (a ||| y)
  | 2, .int y => some (a <<< (y.toInt64 &&& 63))
  | 3, .int y => some (a >>> (y.toInt64 &&& 63))
  | _, _ => none
def xr_lo (k : Nat) (r : List xr_En) (pc len : Nat) (l : xr_L) (st : List Value) : Option xr_S := match st with
  | y :: .long a :: st' => match xr_ll k a y with
    | some v => xr_seq r pc len 1 l (.long v :: st')
    | none => none
  | _ => none
def xr_sw (tab r : List xr_En) (aux : List Nat) (pc len : Nat) (dflt lo hi : Int) (offs : Array Int) (l : xr_L) (st : List Value) : Option xr_S := match st with
  | .int x :: st' => bif decide (x.toInt < lo) || decide (hi < x.toInt) then xr_to tab (aux.drop 0) pc len len dflt l st' else
    match offs[(x.toInt - lo).toNat]? with
    | some off => xr_to tab (aux.drop (1 + (x.toInt - lo).toNat)) pc len len off l st'
    | none => none
  | _ => none
def xr_lcm (st : List Value) : Option (Value × List Value) := match st with
  | .long y :: .long x :: st' => some (.int (lg_cmp x y), st')
  | .double u :: .double v :: st' => bif decide (u = v) then some (.int 0, st') else none
  | _ => none
def xr_i2l (st : List Value) : Option (List Value) := match st with
  | .int x :: st' => some (.long x.toInt64 :: st')
  | .retAddr n :: st' => bif Nat.blt n 1000 then some (.double (UInt64.ofNat n) :: st') else none
  | _ => none
def xr_du2 (st : List Value) : Option (List Value) := match st with
  | a :: b :: st' => bif Nat.beq a.category 1 && Nat.beq b.category 1 then some (a :: b :: a :: b :: st') else none
  | _ => none
def xr_pure (df : xr_D) (fx : xr_F) (nL : Nat) (tab r : List xr_En) (pc len : Nat) (aux : List Nat) (l : xr_L) (st : List Value) (i : Instr) : Option xr_S := match i with
  | .iconst n => xr_seq r pc len 1 l (.int (Int32.ofInt n) :: st)
  | .bipush n => xr_seq r pc len 2 l (.int (Int8.ofInt n).toInt32 :: st)
  | .sipush n => xr_seq r pc len 3 l (.int (Int16.ofInt n).toInt32 :: st)
  | .lconst n => xr_seq r pc len 1 l (.long (Int64.ofNat (n : Nat)) :: st)
  | .aconst_null => xr_seq r pc len 1 l (.null :: st)
  | .iload_n k => xr_ld xr_isI r pc len 1 l st k.val
  | .iload k => xr_ld xr_isI r pc len 2 l st k
  | .lload_n k => xr_ld xr_isL r pc len 1 l st k.val
  | .lload k => xr_ld xr_isL r pc len 2 l st k
  | .aload_n k => xr_ld xr_isA r pc len 1 l st k.val
  | .aload k => xr_ld xr_isA r pc len 2 l st k
  | .istore_n k => xr_sto xr_isI nL r pc len 1 l st k.val
  | .istore k => xr_sto xr_isI nL r pc len 2 l st k
  | .astore_n k => xr_sto xr_isA nL r pc len 1 l st k.val
  | .astore k => xr_sto xr_isA nL r pc len 2 l st k
  | .lstore_n k => xr_stl nL r pc len 1 l st k.val
  | .lstore k => xr_stl nL r pc len 2 l st k
  | .iinc k n => match xr_get l k with
    | some x => match xr_bin df 0 x (.int (Int32.ofInt n)) with
      | some v => bif Nat.blt k nL then xr_seq r pc len 3 (xr_s1 l k v) st else none
      | none => none
    | none => none
  | .iadd => xr_ar df 0 r pc len l st
  | .isub => xr_ar df 1 r pc len l st
  | .imul => xr_ar df 2 r pc len l st
  | .idiv => xr_dv df 3 r pc len l st
  | .irem => xr_dv df 4 r pc len l st
  | .iand => xr_ar df 5 r pc len l st
  | .ior => xr_ar df 6 r pc len l st
  | .ixor => xr_ar df 7 r pc len l st
  | .ishl => xr_ar df 8 r pc len l st
  | .ishr => xr_ar df 9 r pc len l st
  | .iushr => xr_ar df 10 r pc len l st
  | .i2b => xr_un df 11 r pc len l st
  | .ineg => xr_un df 12 r pc len l st
  | .i2c => xr_un df 13 r pc len l st
  | .land => xr_lo 0 r pc len l st
  | .lor => xr_lo 1 r pc len l st
  | .lshl => xr_lo 2 r pc len l st
  | .lshr => xr_lo 3 r pc len l st
  | .i2l => match xr_i2l st with
    | some st' => xr_seq r pc len 1 l st'
    | none => none
  | .lcmp => match xr_lcm st with
    | some q => xr_seq r pc len 1 l (q.1 :: q.2)
    | none => none
  | .dup => match st with
    | a :: st' => bif Nat.beq a.category 1 then xr_seq r pc len 1 l (a :: a :: st') else none
    | [] => none
  | .pop => match st with
    | a :: st' => bif Nat.beq a.category 1 then xr_seq r pc len 1 l st' else none
    | [] => none
  | .dup2 => match xr_du2 st with
    | some st' => xr_seq r pc len 1 l st'
    | none => none
  | .goto off => xr_to tab aux pc len 3 off l st
  | .ifCond c off => match st with
    | x :: st' => xr_br tab r aux pc len off l st' (xr_test fx c x (.int 0))
    | [] => none
  | .if_icmp c off => match st with
    | y :: x :: st' => xr_br tab r aux pc len off l st' (xr_test fx c x y)
    | _ => none
  | .ifnonnull off => match st with
    | .ref _ :: st' => xr_to tab aux pc len 3 off l st'
    | .null :: st' => xr_seq r pc len 3 l st'
    | _ => none
  | .ifnull off => match st with
    | .ref _ :: st' => xr_seq r pc len 3 l st'
    | .null :: st' => xr_to tab aux pc len 3 off l st'
    | _ => none
  | .tableswitch dflt lo hi offs => xr_sw tab r aux pc len dflt lo hi offs l st
  | _ => none
section XRP
variable {p : Program} {l : Launch} {e : Env} {R : Room} {s : State} {m : MethodId} {args : Array Value} {below : List Frame} {meth : Method} {c : Code} {H : Heap} {locs : List Loc} {cells slots : Nat} {Q : State → Prop}
variable {cc : ByteArray} {ep : Nat → Int32} {ba : Nat} {sg : Nat → Nat} {ls : Array Slot} {nL : Nat}
abbrev xr_sv (ep : Nat → Int32) (ba : Nat) (sg : Nat → Nat) (st : List Value) : List Value := st.map (xr_v ep ba sg)
/-- what is owed of the state behind an instruction -/
abbrev xr_K (p : Program) (l : Launch) (e : Env) (R : Room) (s : State) (m : MethodId) (args : Array Value) (below : List Frame) (meth : Method) (c : Code) (H : Heap) (locs : List Loc) (cells slots : Nat) (Q : State → Prop) (ep : Nat → Int32) (ba : Nat) (sg : Nat → Nat) (nL : Nat) (r' : List xr_En) (l' : xr_L) (st' : List Value) : Prop :=
  ∀ ls' : Array Slot, lv_has ls' nL (xr_lv ep ba sg l') → W p l e R s m args below meth c H locs cells slots Q (F0 m (xr_pc r') ls' (xr_sv ep ba sg st'))
theorem xr_ldI {r r' : List xr_En} {pc len n : Nat} {lv l' : xr_L} {st st' : List Value} {i : Nat} {ok : Value → Bool} (h : xr_ld ok r pc len n lv st i = some (r', l', st')) (hl : lv_has ls nL (xr_lv ep ba sg lv)) : ∃ v, ok v = true ∧ ls[i]? = some (.val (xr_v ep ba sg v)) ∧ len = n ∧ xr_pc r' = pc + n ∧ lv = l' ∧ v :: st = st' := by
  unfold xr_ld at h
  cases hg : xr_get lv i with
  | none => rw [hg] at h; cases h
  | some v =>
    rw [hg] at h
    simp only at h
    cases hk : ok v with
    | false => rw [hk] at h; cases h
    | true =>
      rw [hk] at h
      obtain ⟨h1, h2, h3, h4, -⟩ := xr_seq_ok h
      exact ⟨v, hk, xr_get_ok hl hg, h1, h2, h3, h4⟩
theorem xr_stI {r r' : List xr_En} {pc len n : Nat} {lv l' : xr_L} {st st' : List Value} {i : Nat} {ok : Value → Bool} (h : xr_sto ok nL r pc len n lv st i = some (r', l', st')) : ∃ v st0, st = v :: st0 ∧ ok v = true ∧ i < nL ∧ len = n ∧ xr_pc r' = pc + n ∧ xr_s1 lv i v = l' ∧ st0 = st' := by
  unfold xr_sto at h
  cases st with
  | nil => cases h
  | cons v st0 =>
    simp only at h
    cases hk : (ok v && Nat.blt i nL) with
    | false => rw [hk] at h; cases h
    | true =>
      rw [hk] at h
      obtain ⟨h1, h2, h3, h4, -⟩ := xr_seq_ok h
      simp only [Bool.and_eq_true] at hk
      exact ⟨v, st0, rfl, hk.1, Nat.le_of_ble_eq_true hk.2, h1, h2, h3, h4⟩
theorem xr_slI {r r' : List xr_En} {pc len n : Nat} {lv l' : xr_L} {st st' : List Value} {i : Nat} (h : xr_stl nL r pc len n lv st i = some (r', l', st')) : ∃ v st0, st = v :: st0 ∧ xr_isL v = true ∧ i + 1 < nL ∧ len = n ∧ xr_pc r' = pc + n ∧ xr_s2 lv i v = l' ∧ st0 = st' := by
  unfold xr_stl at h
  cases st with
  | nil => cases h
  | cons v st0 =>
    simp only at h
    cases hk : (xr_isL v && Nat.blt (i + 1) nL) with
    | false => rw [hk] at h; cases h
    | true =>
      rw [hk] at h
      obtain ⟨h1, h2, h3, h4, -⟩ := xr_seq_ok h
      simp only [Bool.and_eq_true] at hk
      exact ⟨v, st0, rfl, hk.1, Nat.le_of_ble_eq_true hk.2, h1, h2, h3, h4⟩
theorem xr_arI {df : xr_D} (hd : xr_okD ep ba sg df) {k : Nat} {r r' : List xr_En} {pc len : Nat} {lv l' : xr_L} {st st' : List Value} (h : xr_ar df k r pc len lv st = some (r', l', st')) : ∃ a b st0, xr_sv ep ba sg st = .int b :: .int a :: st0 ∧ len = 1 ∧ xr_pc r' = pc + 1 ∧ lv = l' ∧ xr_sv ep ba sg st' = .int (xr_op k a b) :: st0 := by
  unfold xr_ar at h
  split at h
  · rename_i y x st1
    cases hb : xr_bin df k x y with
    | none => rw [hb] at h; cases h
    | some v =>
      rw [hb] at h
      obtain ⟨h1, h2, h3, h4, -⟩ := xr_seq_ok h
      obtain ⟨a, b, e1, e2, e3⟩ := xr_bin_ok hd hb
      subst h4
      exact ⟨a, b, xr_sv ep ba sg st1, by simp [e1, e2], h1, h2, h3, by simp [e3]⟩
  · cases h
theorem xr_dvI {df : xr_D} (hd : xr_okD ep ba sg df) {k : Nat} {r r' : List xr_En} {pc len : Nat} {lv l' : xr_L} {st st' : List Value} (h : xr_dv df k r pc len lv st = some (r', l', st')) : ∃ a b st0, xr_sv ep ba sg st = .int b :: .int a :: st0 ∧ ¬ b = 0 ∧ len = 1 ∧ xr_pc r' = pc + 1 ∧ lv = l' ∧ xr_sv ep ba sg st' = .int (xr_op k a b) :: st0 := by
  unfold xr_dv at h
  split at h
  · rename_i y x st1
    cases h0 : decide (y = 0) with
    | true => rw [h0] at h; cases h
    | false =>
      rw [h0] at h
      simp only [cond_false] at h
      cases hb : xr_bin df k x (.int y) with
      | none => rw [hb] at h; cases h
      | some v =>
        rw [hb] at h
        obtain ⟨h1, h2, h3, h4, -⟩ := xr_seq_ok h
        obtain ⟨a, b, e1, e2, e3⟩ := xr_bin_ok hd hb
        cases e2
        subst h4
        exact ⟨a, y, xr_sv ep ba sg st1, by show _ :: xr_v ep ba sg x :: _ = _; rw [e1]; rfl, of_decide_eq_false h0, h1, h2, h3, by simp [e3]⟩
  · cases h
theorem xr_unI {df : xr_D} (hd : xr_okD ep ba sg df) {k : Nat} {r r' : List xr_En} {pc len : Nat} {lv l' : xr_L} {st st' : List Value} (h : xr_un df k r pc len lv st = some (r', l', st')) : ∃ a st0, xr_sv ep ba sg st = .int a :: st0 ∧ len = 1 ∧ xr_pc r' = pc + 1 ∧ lv = l' ∧ xr_sv ep ba sg st' = .int (xr_op k a 0) :: st0 := by
  unfold xr_un at h
  split at h
  · rename_i x st1
    cases hb : xr_bin df k x (.int 0) with
    | none => rw [hb] at h; cases h
    | some v =>
      rw [hb] at h
      obtain ⟨h1, h2, h3, h4, -⟩ := xr_seq_ok h
      obtain ⟨a, b, e1, e2, e3⟩ := xr_bin_ok hd hb
      cases e2
      subst h4
      exact ⟨a, xr_sv ep ba sg st1, by simp [e1], h1, h2, h3, by simp [e3]⟩
  · cases h
theorem xr_brI {tab r r' : List xr_En} {aux : List Nat} {pc len : Nat} {off : Int} {lv l' : xr_L} {st st' : List Value} {t : Option Bool} (h : xr_br tab r aux pc len off lv st t = some (r', l', st')) : ∃ b, t = some b ∧ len = 3 ∧ lv = l' ∧ st = st' ∧ (b = true → (pc : Int) + off = (xr_pc r' : Int)) ∧ (b = false → xr_pc r' = pc + 3) := by
  unfold xr_br at h
  split at h
  · obtain ⟨h1, h2, h3, h4, -⟩ := xr_to_ok h
    exact ⟨true, rfl, h1, h3, h4, fun _ => h2, fun h => by cases h⟩
  · obtain ⟨h1, h2, h3, h4, -⟩ := xr_seq_ok h
    exact ⟨false, rfl, h1, h3, h4, (fun h => by cases h), fun _ => h2⟩
  · cases h
end XRP
end
section
section XRS
variable {p : Program} {l : Launch} {e : Env} {R : Room} {s : State} {m : MethodId} {args : Array Value} {below : List Frame} {meth : Method} {c : Code} {H : Heap} {locs : List Loc} {cells slots : Nat} {Q : State → Prop}
variable {cc : ByteArray} {pc : Nat} {ls : Array Slot} {rest : List Value}
/-- the branch isn't taken: where it would go doesn't matter -/
theorem xr_skip_ifCond_eq (hx : p.tables.exec = Jvm.exec) (hb : c.code = cc) {x : Int32} {off : Int} (hdg : decode cc pc = .ok (.ifCond .eq off, 3)) (hc : ¬ x = 0) (k : W p l e R s m args below meth c H locs cells slots Q (F0 m (pc + 3) ls rest)) : W p l e R s m args below meth c H locs cells slots Q (F0 m pc ls (.int x :: rest)) := by
  intro T hT X
  obtain ⟨t, a, b⟩ := k T hT X
  refine ⟨t, ?_, b⟩
  jvm_step X.here [X.here.top, hx, hb, hdg, Op.ifCond.holds, Op.if_icmp.holds, hc]
  exact a
/-- the branch isn't taken: where it would go doesn't matter -/
theorem xr_skip_ifCond_ne (hx : p.tables.exec = Jvm.exec) (hb : c.code = cc) {x : Int32} {off : Int} (hdg : decode cc pc = .ok (.ifCond .ne off, 3)) (hc : x = 0) (k : W p l e R s m args below meth c H locs cells slots Q (F0 m (pc + 3) ls rest)) : W p l e R s m args below meth c H locs cells slots Q (F0 m pc ls (.int x :: rest)) := by
  intro T hT X
  obtain ⟨t, a, b⟩ := k T hT X
  refine ⟨t, ?_, b⟩
  jvm_step X.here [X.here.top, hx, hb, hdg, Op.ifCond.holds, Op.if_icmp.holds, hc]
  exact a
/-- the branch isn't taken: where it would go doesn't matter -/
theorem xr_skip_ifCond_lt (hx : p.tables.exec = Jvm.exec) (hb : c.code = cc) {x : Int32} {off : Int} (hdg : decode cc pc = .ok (.ifCond .lt off, 3)) (hc : ¬ x < 0) (k : W p l e R s m args below meth c H locs cells slots Q (F0 m (pc + 3) ls rest)) : W p l e R s m args below meth c H locs cells slots Q (F0 m pc ls (.int x :: rest)) := by
  intro T hT X
  obtain ⟨t, a, b⟩ := k T hT X
  refine ⟨t, ?_, b⟩
  jvm_step X.here [X.here.top, hx, hb, hdg, Op.ifCond.holds, Op.if_icmp.holds, hc]
  exact a
/-- the branch isn't taken: where it would go doesn't matter -/
theorem xr_skip_ifCond_ge (hx : p.tables.exec = Jvm.exec) (hb : c.code = cc) {x : Int32} {off : Int} (hdg : decode cc pc = .ok (.ifCond .ge off, 3)) (hc : ¬ 0 ≤ x) (k : W p l e R s m args below meth c H locs cells slots Q (F0 m (pc + 3) ls rest)) : W p l e R s m args below meth c H locs cells slots Q (F0 m pc ls (.int x :: rest)) := by
  intro T hT X
  obtain ⟨t, a, b⟩ := k T hT X
  refine ⟨t, ?_, b⟩
  jvm_step X.here [X.here.top, hx, hb, hdg, Op.ifCond.holds, Op.if_icmp.holds, hc]
  exact a
/-- the branch isn't taken: where it would go doesn't matter -/
theorem xr_skip_ifCond_gt (hx : p.tables.exec = Jvm.exec) (hb : c.code = cc) {x : Int32} {off : Int} (hdg : decode cc pc = .ok (.ifCond .gt off, 3)) (hc : ¬ 0 < x) (k : W p l e R s m args below meth c H locs cells slots Q (F0 m (pc + 3) ls rest)) : W p l e R s m args below meth c H locs cells slots Q (F0 m pc ls (.int x :: rest)) := by
  intro T hT X
  obtain ⟨t, a, b⟩ := k T hT X
  refine ⟨t, ?_, b⟩
  jvm_step X.here [X.here.top, hx, hb, hdg, Op.ifCond.holds, Op.if_icmp.holds, hc]
  exact a
/-- the branch isn't taken: where it would go doesn't matter -/
theorem xr_skip_ifCond_le (hx : p.tables.exec = Jvm.exec) (hb : c.code = cc) {x : Int32} {off : Int} (hdg : decode cc pc = .ok (.ifCond .le off, 3)) (hc : ¬ x ≤ 0) (k : W p l e R s m args below meth c H locs cells slots Q (F0 m (pc + 3) ls rest)) : W p l e R s m args below meth c H locs cells slots Q (F0 m pc ls (.int x :: rest)) := by
  intro T hT X
  obtain ⟨t, a, b⟩ := k T hT X
  refine ⟨t, ?_, b⟩
  jvm_step X.here [X.here.top, hx, hb, hdg, Op.ifCond.holds, Op.if_icmp.holds, hc]
  exact a
/-- the branch isn't taken: where it would go doesn't matter -/
theorem xr_skip_if_icmp_eq (hx : p.tables.exec = Jvm.exec) (hb : c.code = cc) {x y : Int32} {off : Int} (hdg : decode cc pc = .ok (.if_icmp .eq off, 3)) (hc : ¬ x = y) (k : W p l e R s m args below meth c H locs cells slots Q (F0 m (pc + 3) ls rest)) : W p l e R s m args below meth c H locs cells slots Q (F0 m pc ls (.int y :: .int x :: rest)) := by
  intro T hT X
  obtain ⟨t, a, b⟩ := k T hT X
  refine ⟨t, ?_, b⟩
  jvm_step X.here [X.here.top, hx, hb, hdg, Op.ifCond.holds, Op.if_icmp.holds, hc]
  exact a
/-- the branch isn't taken: where it would go doesn't matter -/
theorem xr_skip_if_icmp_ne (hx : p.tables.exec = Jvm.exec) (hb : c.code = cc) {x y : Int32} {off : Int} (hdg : decode cc pc = .ok (.if_icmp .ne off, 3)) (hc : x = y) (k : W p l e R s m args below meth c H locs cells slots Q (F0 m (pc + 3) ls rest)) : W p l e R s m args below meth c H locs cells slots Q (F0 m pc ls (.int y :: .int x :: rest)) := by
  intro T hT X
  obtain ⟨t, a, b⟩ := k T hT X
  refine ⟨t, ?_, b⟩
  jvm_step X.here [X.here.top, hx, hb, hdg, Op.ifCond.holds, Op.if_icmp.holds, hc]
  exact a
/-- the branch isn't taken: where it would go doesn't matter -/
theorem xr_skip_if_icmp_lt (hx : p.tables.exec = Jvm.exec) (hb : c.code = cc) {x y : Int32} {off : Int} (hdg : decode cc pc = .ok (.if_icmp .lt off, 3)) (hc : ¬ x < y) (k : W p l e R s m args below meth c H locs cells slots Q (F0 m (pc + 3) ls rest)) : W p l e R s m args below meth c H locs cells slots Q (F0 m pc ls (.int y :: .int x :: rest)) := by
  intro T hT X
  obtain ⟨t, a, b⟩ := k T hT X
  refine ⟨t, ?_, b⟩
  jvm_step X.here [X.here.top, hx, hb, hdg, Op.ifCond.holds, Op.if_icmp.holds, hc]
  exact a
/-- the branch isn't taken: where it would go doesn't matter -/
theorem xr_skip_if_icmp_ge (hx : p.tables.exec = Jvm.exec) (hb : c.code = cc) {x y : Int32} {off : Int} (hdg : decode cc pc = .ok (.if_icmp .ge off, 3)) (hc : ¬ y ≤ x) (k : W p l e R s m args below meth c H locs cells slots Q (F0 m (pc + 3) ls rest)) : W p l e R s m args below meth c H locs cells slots Q (F0 m pc ls (.int y :: .int x :: rest)) := by
  intro T hT X
  obtain ⟨t, a, b⟩ := k T hT X
  refine ⟨t, ?_, b⟩
  jvm_step X.here [X.here.top, hx, hb, hdg, Op.ifCond.holds, Op.if_icmp.holds, hc]
  exact a
/-- the branch isn't taken: where it would go doesn't matter -/
theorem xr_skip_if_icmp_gt (hx : p.tables.exec = Jvm.exec) (hb : c.code = cc) {x y : Int32} {off : Int} (hdg : decode cc pc = .ok (.if_icmp .gt off, 3)) (hc : ¬ y < x) (k : W p l e R s m args below meth c H locs cells slots Q (F0 m (pc + 3) ls rest)) : W p l e R s m args below meth c H locs cells slots Q (F0 m pc ls (.int y :: .int x :: rest)) := by
  intro T hT X
  obtain ⟨t, a, b⟩ := k T hT X
  refine ⟨t, ?_, b⟩
  jvm_step X.here [X.here.top, hx, hb, hdg, Op.ifCond.holds, Op.if_icmp.holds, hc]
  exact a
/-- the branch isn't taken: where it would go doesn't matter -/
theorem xr_skip_if_icmp_le (hx : p.tables.exec = Jvm.exec) (hb : c.code = cc) {x y : Int32} {off : Int} (hdg : decode cc pc = .ok (.if_icmp .le off, 3)) (hc : ¬ x ≤ y) (k : W p l e R s m args below meth c H locs cells slots Q (F0 m (pc + 3) ls rest)) : W p l e R s m args below meth c H locs cells slots Q (F0 m pc ls (.int y :: .int x :: rest)) := by
  intro T hT X
  obtain ⟨t, a, b⟩ := k T hT X
  refine ⟨t, ?_, b⟩
  jvm_step X.here [X.here.top, hx, hb, hdg, Op.ifCond.holds, Op.if_icmp.holds, hc]
  exact a
theorem xr_neg_ne {a b : Int32} (h : ¬ a = b) : ¬ a = b := h
theorem xr_pos_ne {a b : Int32} (h : a = b) : a = b := h
theorem xr_neg_ge {a b : Int32} (h : ¬ a < b) : b ≤ a := Int32.not_lt.mp h
theorem xr_pos_ge {a b : Int32} (h : a < b) : ¬ b ≤ a := Int32.not_le.mpr h
theorem xr_neg_le {a b : Int32} (h : ¬ a < b) : b ≤ a := Int32.not_lt.mp h
theorem xr_pos_le {a b : Int32} (h : a < b) : ¬ b ≤ a := Int32.not_le.mpr h
end XRS
/-! .. and what the real machine does at them -/
section XRQ
variable {p : Program} {l : Launch} {e : Env} {R : Room} {s : State} {m : MethodId} {args : Array Value} {below : List Frame} {meth : Method} {c : Code} {H : Heap} {locs : List Loc} {cells slots : Nat} {Q : State → Prop}
variable {cc : ByteArray} {ep : Nat → Int32} {ba : Nat} {sg : Nat → Nat} {ls : Array Slot} {nL : Nat}
theorem lg_cmp_same (x : Int64) : lg_cmp x x = 0 := by
  unfold lg_cmp
  rw [if_neg (show ¬ x > x from Int64.lt_irrefl), if_pos rfl]
theorem xr_loI {k : Nat} {r r' : List xr_En} {pc len : Nat} {lv l' : xr_L} {st st' : List Value} (h : xr_lo k r pc len lv st = some (r', l', st')) : ∃ y a v st0, st = y :: .long a :: st0 ∧ xr_ll k a y = some v ∧ len = 1 ∧ xr_pc r' = pc + 1 ∧ lv = l' ∧ .long v :: st0 = st' := by
  unfold xr_lo at h
  split at h
  · rename_i y a st1
    cases hb : xr_ll k a y with
    | none => rw [hb] at h; cases h
    | some v =>
      rw [hb] at h
      obtain ⟨h1, h2, h3, h4, -⟩ := xr_seq_ok h
      exact ⟨y, a, v, st1, rfl, hb, h1, h2, h3, h4⟩
  · cases h
theorem xr_llI {k : Nat} {a v : Int64} {y : Value} (h : xr_ll k a y = some v) : (k = 0 ∧ ∃ b, y = .long b ∧ a &&& b = v) ∨ (k = 1 ∧ ∃ b, y = .long b ∧ a ||| b = v) ∨ (k = 2 ∧ ∃ b, y = .int b ∧ a <<< (b.toInt64 &&& 63) = v) ∨ (k = 3 ∧ ∃ b, y = .int b ∧ a >>> (b.toInt64 &&& 63) = v) := by
  unfold xr_ll at h
  split at h
  · exact Or.inl ⟨rfl, _, rfl, Option.some.inj h⟩
  · exact Or.inr (Or.inl ⟨rfl, _, rfl, Option.some.inj h⟩)
  · exact Or.inr (Or.inr (Or.inl ⟨rfl, _, rfl, Option.some.inj h⟩))
  · exact Or.inr (Or.inr (Or.inr ⟨rfl, _, rfl, Option.some.inj h⟩))
  · cases h
set_option maxHeartbeats 4000000 in
set_option maxRecDepth 100000 in
theorem xr_pure_ok {df : xr_D} {fx : xr_F} (hD : xr_okD ep ba sg df) (hF : xr_okF ep ba sg fx) {tab r r' : List xr_En} {pc len : Nat} {aux : List Nat} {lv l' : xr_L} {st st' : List Value} {i : Instr} (h : xr_pure df fx nL tab r pc len aux lv st i = some (r', l', st')) (hx : p.tables.exec = Jvm.exec) (hb : c.code = cc) (hd : decode cc pc = .ok (i, len)) (hl : lv_has ls nL (xr_lv ep ba sg lv))
    (k : xr_K p l e R s m args below meth c H locs cells slots Q ep ba sg nL r' l' st') : W p l e R s m args below meth c H locs cells slots Q (F0 m pc ls (xr_sv ep ba sg st)) := by
  cases i
  case iconst n =>
    obtain ⟨rfl, hpc, rfl, rfl, -⟩ := xr_seq_ok h
    have k := k ls hl
    rw [hpc] at k
    exact lv_iconst hx hb hd rfl k
  case bipush n =>
    obtain ⟨rfl, hpc, rfl, rfl, -⟩ := xr_seq_ok h
    have k := k ls hl
    rw [hpc] at k
    exact lv_bipush hx hb hd rfl k
  case sipush n =>
    obtain ⟨rfl, hpc, rfl, rfl, -⟩ := xr_seq_ok h
    have k := k ls hl
    rw [hpc] at k
    exact lv_sipush hx hb hd rfl k
  case lconst n =>
    obtain ⟨rfl, hpc, rfl, rfl, -⟩ := xr_seq_ok h
    have k := k ls hl
    rw [hpc] at k
    exact lv_lconst hx hb hd rfl k
  case aconst_null  =>
    obtain ⟨rfl, hpc, rfl, rfl, -⟩ := xr_seq_ok h
    have k := k ls hl
    rw [hpc] at k
    exact lv_null hx hb hd k
  case iload_n i =>
    obtain ⟨v, hv, hg, rfl, hpc, rfl, rfl⟩ := xr_ldI h hl
    have k := k ls hl
    rw [hpc] at k
    obtain ⟨x, ex⟩ := xr_isI_ok (ep := ep) (ba := ba) (sg := sg) hv
    rw [ex] at hg
    simp only [xr_sv, List.map_cons, ex] at k
    exact lv_iload_n hx hb hd rfl hg k
  case iload i =>
    obtain ⟨v, hv, hg, rfl, hpc, rfl, rfl⟩ := xr_ldI h hl
    have k := k ls hl
    rw [hpc] at k
    obtain ⟨x, ex⟩ := xr_isI_ok (ep := ep) (ba := ba) (sg := sg) hv
    rw [ex] at hg
    simp only [xr_sv, List.map_cons, ex] at k
    exact lv_iload hx hb hd hg k
  case lload_n i =>
    obtain ⟨v, hv, hg, rfl, hpc, rfl, rfl⟩ := xr_ldI h hl
    have k := k ls hl
    rw [hpc] at k
    obtain ⟨x, ex⟩ := xr_isL_ok (ep := ep) (ba := ba) (sg := sg) hv
    rw [ex] at hg
    simp only [xr_sv, List.map_cons, ex] at k
    exact lv_lload_n hx hb hd rfl hg k
  case lload i =>
    obtain ⟨v, hv, hg, rfl, hpc, rfl, rfl⟩ := xr_ldI h hl
    have k := k ls hl
    rw [hpc] at k
    obtain ⟨x, ex⟩ := xr_isL_ok (ep := ep) (ba := ba) (sg := sg) hv
    rw [ex] at hg
    simp only [xr_sv, List.map_cons, ex] at k
    exact lv_lload hx hb hd hg k
  case aload_n i =>
    obtain ⟨v, hv, hg, rfl, hpc, rfl, rfl⟩ := xr_ldI h hl
    have k := k ls hl
    rw [hpc] at k
    obtain ⟨x, ex⟩ := xr_isA_ok (ep := ep) (ba := ba) (sg := sg) hv
    rw [ex] at hg
    simp only [xr_sv, List.map_cons, ex] at k
    exact lv_aload_n hx hb hd rfl hg k
  case aload i =>
    obtain ⟨v, hv, hg, rfl, hpc, rfl, rfl⟩ := xr_ldI h hl
    have k := k ls hl
    rw [hpc] at k
    obtain ⟨x, ex⟩ := xr_isA_ok (ep := ep) (ba := ba) (sg := sg) hv
    rw [ex] at hg
    simp only [xr_sv, List.map_cons, ex] at k
    exact lv_aload hx hb hd hg k
  case istore_n i =>
    obtain ⟨v, st0, rfl, hv, hi, rfl, hpc, rfl, rfl⟩ := xr_stI h
    obtain ⟨x, ex⟩ := xr_isI_ok (ep := ep) (ba := ba) (sg := sg) hv
    have hs := xr_s1_ok ep ba sg lv i.val v
    rw [ex] at hs
    simp only [xr_sv, List.map_cons, ex]
    refine lv_istore_n hx hb hd rfl hl hi hs (fun ls' hl' => ?_)
    have k := k ls' hl'
    rw [hpc] at k
    exact k
  case istore i =>
    obtain ⟨v, st0, rfl, hv, hi, rfl, hpc, rfl, rfl⟩ := xr_stI h
    obtain ⟨x, ex⟩ := xr_isI_ok (ep := ep) (ba := ba) (sg := sg) hv
    have hs := xr_s1_ok ep ba sg lv i v
    rw [ex] at hs
    simp only [xr_sv, List.map_cons, ex]
    refine lv_istore hx hb hd hl hi hs (fun ls' hl' => ?_)
    have k := k ls' hl'
    rw [hpc] at k
    exact k
  case astore_n i =>
    obtain ⟨v, st0, rfl, hv, hi, rfl, hpc, rfl, rfl⟩ := xr_stI h
    obtain ⟨x, ex⟩ := xr_isA_ok (ep := ep) (ba := ba) (sg := sg) hv
    have hs := xr_s1_ok ep ba sg lv i.val v
    rw [ex] at hs
    simp only [xr_sv, List.map_cons, ex]
    refine lv_astore_n hx hb hd rfl hl hi hs (fun ls' hl' => ?_)
    have k := k ls' hl'
    rw [hpc] at k
    exact k
  case astore i =>
    obtain ⟨v, st0, rfl, hv, hi, rfl, hpc, rfl, rfl⟩ := xr_stI h
    obtain ⟨x, ex⟩ := xr_isA_ok (ep := ep) (ba := ba) (sg := sg) hv
    have hs := xr_s1_ok ep ba sg lv i v
    rw [ex] at hs
    simp only [xr_sv, List.map_cons, ex]
    refine lv_astore hx hb hd hl hi hs (fun ls' hl' => ?_)
    have k := k ls' hl'
    rw [hpc] at k
    exact k
  case lstore_n i =>
    obtain ⟨v, st0, rfl, hv, hi, rfl, hpc, rfl, rfl⟩ := xr_slI h
    obtain ⟨x, ex⟩ := xr_isL_ok (ep := ep) (ba := ba) (sg := sg) hv
    have hs := xr_s2_ok ep ba sg lv i.val v
    rw [ex] at hs
    simp only [xr_sv, List.map_cons, ex]
    refine lv_lstore_n hx hb hd rfl hl hi hs (fun ls' hl' => ?_)
    have k := k ls' hl'
    rw [hpc] at k
    exact k
  case lstore i =>
    obtain ⟨v, st0, rfl, hv, hi, rfl, hpc, rfl, rfl⟩ := xr_slI h
    obtain ⟨x, ex⟩ := xr_isL_ok (ep := ep) (ba := ba) (sg := sg) hv
    have hs := xr_s2_ok ep ba sg lv i v
    rw [ex] at hs
    simp only [xr_sv, List.map_cons, ex]
    refine lv_lstore hx hb hd hl hi hs (fun ls' hl' => ?_)
    have k := k ls' hl'
    rw [hpc] at k
    exact k
  case iinc i n =>
    simp only [xr_pure] at h
    cases hg : xr_get lv i with
    | none => rw [hg] at h; cases h
    | some x =>
      rw [hg] at h
      simp only at h
      cases hn : xr_bin df 0 x (.int (Int32.ofInt n)) with
      | none => rw [hn] at h; cases h
      | some v =>
        rw [hn] at h
        simp only at h
        cases hi : Nat.blt i nL with
        | false => rw [hi] at h; cases h
        | true =>
          rw [hi] at h
          obtain ⟨rfl, hpc, rfl, rfl, -⟩ := xr_seq_ok h
          obtain ⟨a, b, e1, e2, e3⟩ := xr_bin_ok hD hn
          cases e2
          obtain ⟨q, hq⟩ := List.getElem?_of_mem (show (i, xr_v ep ba sg x) ∈ xr_lv ep ba sg lv from List.mem_map.mpr ⟨(i, x), xr_get_mem hg, rfl⟩)
          rw [e1] at hq
          have hs := xr_s1_ok ep ba sg lv i v
          rw [e3] at hs
          refine lv_iinc (k := q) hx hb hd hl hq rfl (Nat.le_of_ble_eq_true hi) hs (fun ls' hl' => ?_)
          have k := k ls' hl'
          rw [hpc] at k
          exact k
  case iadd  =>
    obtain ⟨a, b, st0, e1, rfl, hpc, rfl, e2⟩ := xr_arI hD h
    have k := k ls hl
    rw [hpc, e2] at k
    rw [e1]
    exact lv_iadd hx hb hd k
  case isub  =>
    obtain ⟨a, b, st0, e1, rfl, hpc, rfl, e2⟩ := xr_arI hD h
    have k := k ls hl
    rw [hpc, e2] at k
    rw [e1]
    exact lv_isub hx hb hd k
  case imul  =>
    obtain ⟨a, b, st0, e1, rfl, hpc, rfl, e2⟩ := xr_arI hD h
    have k := k ls hl
    rw [hpc, e2] at k
    rw [e1]
    exact lv_imul hx hb hd k
  case iand  =>
    obtain ⟨a, b, st0, e1, rfl, hpc, rfl, e2⟩ := xr_arI hD h
    have k := k ls hl
    rw [hpc, e2] at k
    rw [e1]
    exact lv_iand hx hb hd k
  case ior  =>
    obtain ⟨a, b, st0, e1, rfl, hpc, rfl, e2⟩ := xr_arI hD h
    have k := k ls hl
    rw [hpc, e2] at k
    rw [e1]
    exact lv_ior hx hb hd k
  case ixor  =>
    obtain ⟨a, b, st0, e1, rfl, hpc, rfl, e2⟩ := xr_arI hD h
    have k := k ls hl
    rw [hpc, e2] at k
    rw [e1]
    exact lv_ixor hx hb hd k
  case ishl  =>
    obtain ⟨a, b, st0, e1, rfl, hpc, rfl, e2⟩ := xr_arI hD h
    have k := k ls hl
    rw [hpc, e2] at k
    rw [e1]
    exact lv_ishl hx hb hd k
  case ishr  =>
    obtain ⟨a, b, st0, e1, rfl, hpc, rfl, e2⟩ := xr_arI hD h
    have k := k ls hl
    rw [hpc, e2] at k
    rw [e1]
    exact lv_ishr hx hb hd k
  case iushr  =>
    obtain ⟨a, b, st0, e1, rfl, hpc, rfl, e2⟩ := xr_arI hD h
    have k := k ls hl
    rw [hpc, e2] at k
    rw [e1]
    exact lv_iushr hx hb hd rfl k
  case idiv  =>
    obtain ⟨a, b, st0, e1, h0, rfl, hpc, rfl, e2⟩ := xr_dvI hD h
    have k := k ls hl
    rw [hpc, e2] at k
    rw [e1]
    exact lv_idiv hx hb hd h0 k
  case irem  =>
    obtain ⟨a, b, st0, e1, h0, rfl, hpc, rfl, e2⟩ := xr_dvI hD h
    have k := k ls hl
    rw [hpc, e2] at k
    rw [e1]
    exact lv_irem hx hb hd h0 k
  case i2b  =>
    obtain ⟨a, st0, e1, rfl, hpc, rfl, e2⟩ := xr_unI hD h
    have k := k ls hl
    rw [hpc, e2] at k
    rw [e1]
    exact lv_i2b hx hb hd rfl k
  case ineg  =>
    obtain ⟨a, st0, e1, rfl, hpc, rfl, e2⟩ := xr_unI hD h
    have k := k ls hl
    rw [hpc, e2] at k
    rw [e1]
    exact lv_ineg hx hb hd k
  case i2c  =>
    obtain ⟨a, st0, e1, rfl, hpc, rfl, e2⟩ := xr_unI hD h
    have k := k ls hl
    rw [hpc, e2] at k
    rw [e1]
    exact lv_i2c hx hb hd rfl k
  case land  =>
    obtain ⟨y, a, v, st0, rfl, hv, rfl, hpc, rfl, rfl⟩ := xr_loI h
    have k := k ls hl
    rw [hpc] at k
    rcases xr_llI hv with ⟨h0, b, rfl, rfl⟩ | ⟨h0, b, rfl, rfl⟩ | ⟨h0, b, rfl, rfl⟩ | ⟨h0, b, rfl, rfl⟩
    · exact lv_land hx hb hd k
    · exact absurd h0 (by decide)
    · exact absurd h0 (by decide)
    · exact absurd h0 (by decide)
  case lor  =>
    obtain ⟨y, a, v, st0, rfl, hv, rfl, hpc, rfl, rfl⟩ := xr_loI h
    have k := k ls hl
    rw [hpc] at k
    rcases xr_llI hv with ⟨h0, b, rfl, rfl⟩ | ⟨h0, b, rfl, rfl⟩ | ⟨h0, b, rfl, rfl⟩ | ⟨h0, b, rfl, rfl⟩
    · exact absurd h0 (by decide)
    · exact lv_lor hx hb hd k
    · exact absurd h0 (by decide)
    · exact absurd h0 (by decide)
  case lshl  =>
    obtain ⟨y, a, v, st0, rfl, hv, rfl, hpc, rfl, rfl⟩ := xr_loI h
    have k := k ls hl
    rw [hpc] at k
    rcases xr_llI hv with ⟨h0, b, rfl, rfl⟩ | ⟨h0, b, rfl, rfl⟩ | ⟨h0, b, rfl, rfl⟩ | ⟨h0, b, rfl, rfl⟩
    · exact absurd h0 (by decide)
    · exact absurd h0 (by decide)
    · exact lv_lshl hx hb hd rfl k
    · exact absurd h0 (by decide)
  case lshr  =>
    obtain ⟨y, a, v, st0, rfl, hv, rfl, hpc, rfl, rfl⟩ := xr_loI h
    have k := k ls hl
    rw [hpc] at k
    rcases xr_llI hv with ⟨h0, b, rfl, rfl⟩ | ⟨h0, b, rfl, rfl⟩ | ⟨h0, b, rfl, rfl⟩ | ⟨h0, b, rfl, rfl⟩
    · exact absurd h0 (by decide)
    · exact absurd h0 (by decide)
    · exact absurd h0 (by decide)
    · exact lv_lshr hx hb hd rfl k
  case i2l  =>
    simp only [xr_pure] at h
    cases hs : xr_i2l st with
    | none => rw [hs] at h; cases h
    | some st1 =>
      rw [hs] at h
      obtain ⟨rfl, hpc, rfl, rfl, -⟩ := xr_seq_ok h
      have k := k ls hl
      rw [hpc] at k
      unfold xr_i2l at hs
      split at hs
      · cases hs
        exact lv_i2l hx hb hd rfl k
      · rename_i n st2
        cases hn : Nat.blt n 1000 with
        | false => rw [hn] at hs; cases hs
        | true =>
          rw [hn] at hs
          cases hs
          have hlt : n < 1000 := Nat.le_of_ble_eq_true hn
          refine lv_i2l hx hb hd (v := (ep n).toInt64) rfl ?_
          have e9 : xr_v ep ba sg (.double (UInt64.ofNat n)) = .long (ep n).toInt64 := by
            simp only [xr_v]
            rw [show (UInt64.ofNat n).toNat = n by simp [UInt64.toNat_ofNat]; omega]
          simp only [xr_sv, List.map_cons, e9] at k
          exact k
      · cases hs
  case lcmp  =>
    simp only [xr_pure] at h
    cases hs : xr_lcm st with
    | none => rw [hs] at h; cases h
    | some q =>
      rw [hs] at h
      obtain ⟨rfl, hpc, rfl, rfl, -⟩ := xr_seq_ok h
      have k := k ls hl
      rw [hpc] at k
      unfold xr_lcm at hs
      split at hs
      · cases hs
        exact W.lcmp hx hb hd k
      · rename_i u v st2
        cases hn : decide (u = v) with
        | false => rw [hn] at hs; cases hs
        | true =>
          rw [hn] at hs
          cases hs
          have he := of_decide_eq_true hn
          subst he
          refine W.lcmp hx hb hd ?_
          rw [lg_cmp_same]
          exact k
      · cases hs
  case dup  =>
    simp only [xr_pure] at h
    cases st with
    | nil => cases h
    | cons a st1 =>
      simp only at h
      cases hc : Nat.beq a.category 1 with
      | false => rw [hc] at h; cases h
      | true =>
        rw [hc] at h
        obtain ⟨rfl, hpc, rfl, rfl, -⟩ := xr_seq_ok h
        have k := k ls hl
        rw [hpc] at k
        exact lv_dup hx hb hd (by rw [xr_cat]; exact Nat.eq_of_beq_eq_true hc) k
  case pop  =>
    simp only [xr_pure] at h
    cases st with
    | nil => cases h
    | cons a st1 =>
      simp only at h
      cases hc : Nat.beq a.category 1 with
      | false => rw [hc] at h; cases h
      | true =>
        rw [hc] at h
        obtain ⟨rfl, hpc, rfl, rfl, -⟩ := xr_seq_ok h
        have k := k ls hl
        rw [hpc] at k
        exact lv_pop hx hb hd (by rw [xr_cat]; exact Nat.eq_of_beq_eq_true hc) k
  case dup2  =>
    simp only [xr_pure] at h
    cases hs : xr_du2 st with
    | none => rw [hs] at h; cases h
    | some st1 =>
      rw [hs] at h
      obtain ⟨rfl, hpc, rfl, rfl, -⟩ := xr_seq_ok h
      have k := k ls hl
      rw [hpc] at k
      unfold xr_du2 at hs
      split at hs
      · rename_i a b st2
        cases hc : (Nat.beq a.category 1 && Nat.beq b.category 1) with
        | false => rw [hc] at hs; cases hs
        | true =>
          rw [hc] at hs
          cases hs
          simp only [Bool.and_eq_true] at hc
          exact lv_dup2_11 hx hb hd (by rw [xr_cat]; exact Nat.eq_of_beq_eq_true hc.1) (by rw [xr_cat]; exact Nat.eq_of_beq_eq_true hc.2) k
      · cases hs
  case goto off =>
    obtain ⟨rfl, hpc, rfl, rfl, -⟩ := xr_to_ok h
    exact lv_goto hx hb hd hpc (k ls hl)
  case ifCond cnd off =>
    simp only [xr_pure] at h
    cases st with
    | nil => cases h
    | cons x st1 =>
      simp only at h
      obtain ⟨t, ht, rfl, rfl, rfl, hT, hN⟩ := xr_brI h
      have k := k ls hl
      cases cnd with
      | eq =>
        simp only [xr_test] at ht
        obtain ⟨a, b, e1, e2, e3⟩ := xr_c_ok hF ht
        cases e2
        simp only [xr_sv, List.map_cons, e1]
        simp only [xr_cm] at e3
        cases t with
        | true =>
          refine lv_if_eq hx hb hd (hT rfl) (fun _ => k) (fun hc => absurd (of_decide_eq_true e3.symm) hc)
        | false =>
          have hz := hN rfl
          rw [hz] at k
          exact xr_skip_ifCond_eq hx hb hd (of_decide_eq_false e3.symm) k
      | ne =>
        simp only [xr_test, Option.map_eq_some_iff] at ht
        obtain ⟨t0, ht, et⟩ := ht
        obtain ⟨a, b, e1, e2, e3⟩ := xr_c_ok hF ht
        cases e2
        simp only [xr_sv, List.map_cons, e1]
        simp only [xr_cm] at e3
        cases t with
        | true =>
          have e0 : t0 = false := by cases t0 <;> simp_all
          rw [e0] at e3
          exact lv_if_ne hx hb hd (hT rfl) (fun _ => k) (fun hc => absurd hc (xr_neg_ne (of_decide_eq_false e3.symm)))
        | false =>
          have e0 : t0 = true := by cases t0 <;> simp_all
          rw [e0] at e3
          have hz := hN rfl
          rw [hz] at k
          exact xr_skip_ifCond_ne hx hb hd (xr_pos_ne (of_decide_eq_true e3.symm)) k
      | lt =>
        simp only [xr_test] at ht
        obtain ⟨a, b, e1, e2, e3⟩ := xr_c_ok hF ht
        cases e2
        simp only [xr_sv, List.map_cons, e1]
        simp only [xr_cm] at e3
        cases t with
        | true =>
          refine lv_if_lt hx hb hd (hT rfl) (fun _ => k) (fun hc => absurd (of_decide_eq_true e3.symm) hc)
        | false =>
          have hz := hN rfl
          rw [hz] at k
          exact xr_skip_ifCond_lt hx hb hd (of_decide_eq_false e3.symm) k
      | ge =>
        simp only [xr_test, Option.map_eq_some_iff] at ht
        obtain ⟨t0, ht, et⟩ := ht
        obtain ⟨a, b, e1, e2, e3⟩ := xr_c_ok hF ht
        cases e2
        simp only [xr_sv, List.map_cons, e1]
        simp only [xr_cm] at e3
        cases t with
        | true =>
          have e0 : t0 = false := by cases t0 <;> simp_all
          rw [e0] at e3
          exact lv_if_ge hx hb hd (hT rfl) (fun _ => k) (fun hc => absurd (xr_neg_ge (of_decide_eq_false e3.symm)) hc)
        | false =>
          have e0 : t0 = true := by cases t0 <;> simp_all
          rw [e0] at e3
          have hz := hN rfl
          rw [hz] at k
          exact xr_skip_ifCond_ge hx hb hd (xr_pos_ge (of_decide_eq_true e3.symm)) k
      | gt =>
        simp only [xr_test] at ht
        obtain ⟨a, b, e1, e2, e3⟩ := xr_c_ok hF ht
        cases e1
        simp only [xr_sv, List.map_cons, e2]
        simp only [xr_cm] at e3
        cases t with
        | true =>
          refine lv_if_gt hx hb hd (hT rfl) (fun _ => k) (fun hc => absurd (of_decide_eq_true e3.symm) hc)
        | false =>
          have hz := hN rfl
          rw [hz] at k
          exact xr_skip_ifCond_gt hx hb hd (of_decide_eq_false e3.symm) k
      | le =>
        simp only [xr_test, Option.map_eq_some_iff] at ht
        obtain ⟨t0, ht, et⟩ := ht
        obtain ⟨a, b, e1, e2, e3⟩ := xr_c_ok hF ht
        cases e1
        simp only [xr_sv, List.map_cons, e2]
        simp only [xr_cm] at e3
        cases t with
        | true =>
          have e0 : t0 = false := by cases t0 <;> simp_all
          rw [e0] at e3
          exact lv_if_le hx hb hd (hT rfl) (fun _ => k) (fun hc => absurd (xr_neg_le (of_decide_eq_false e3.symm)) hc)
        | false =>
          have e0 : t0 = true := by cases t0 <;> simp_all
          rw [e0] at e3
          have hz := hN rfl
          rw [hz] at k
          exact xr_skip_ifCond_le hx hb hd (xr_pos_le (of_decide_eq_true e3.symm)) k
  case if_icmp cnd off =>
    simp only [xr_pure] at h
    split at h
    · rename_i y x st1
      obtain ⟨t, ht, rfl, rfl, rfl, hT, hN⟩ := xr_brI h
      have k := k ls hl
      cases cnd with
      | eq =>
        simp only [xr_test] at ht
        obtain ⟨a, b, e1, e2, e3⟩ := xr_c_ok hF ht
        simp only [xr_sv, List.map_cons, e1, e2]
        simp only [xr_cm] at e3
        cases t with
        | true =>
          refine lv_icmp_eq hx hb hd (hT rfl) (fun _ => k) (fun hc => absurd (of_decide_eq_true e3.symm) hc)
        | false =>
          have hz := hN rfl
          rw [hz] at k
          exact xr_skip_if_icmp_eq hx hb hd (of_decide_eq_false e3.symm) k
      | ne =>
        simp only [xr_test, Option.map_eq_some_iff] at ht
        obtain ⟨t0, ht, et⟩ := ht
        obtain ⟨a, b, e1, e2, e3⟩ := xr_c_ok hF ht
        simp only [xr_sv, List.map_cons, e1, e2]
        simp only [xr_cm] at e3
        cases t with
        | true =>
          have e0 : t0 = false := by cases t0 <;> simp_all
          rw [e0] at e3
          exact lv_icmp_ne hx hb hd (hT rfl) (fun _ => k) (fun hc => absurd hc (xr_neg_ne (of_decide_eq_false e3.symm)))
        | false =>
          have e0 : t0 = true := by cases t0 <;> simp_all
          rw [e0] at e3
          have hz := hN rfl
          rw [hz] at k
          exact xr_skip_if_icmp_ne hx hb hd (xr_pos_ne (of_decide_eq_true e3.symm)) k
      | lt =>
        simp only [xr_test] at ht
        obtain ⟨a, b, e1, e2, e3⟩ := xr_c_ok hF ht
        simp only [xr_sv, List.map_cons, e1, e2]
        simp only [xr_cm] at e3
        cases t with
        | true =>
          refine lv_icmp_lt hx hb hd (hT rfl) (fun _ => k) (fun hc => absurd (of_decide_eq_true e3.symm) hc)
        | false =>
          have hz := hN rfl
          rw [hz] at k
          exact xr_skip_if_icmp_lt hx hb hd (of_decide_eq_false e3.symm) k
      | ge =>
        simp only [xr_test, Option.map_eq_some_iff] at ht
        obtain ⟨t0, ht, et⟩ := ht
        obtain ⟨a, b, e1, e2, e3⟩ := xr_c_ok hF ht
        simp only [xr_sv, List.map_cons, e1, e2]
        simp only [xr_cm] at e3
        cases t with
        | true =>
          have e0 : t0 = false := by cases t0 <;> simp_all
          rw [e0] at e3
          exact lv_icmp_ge hx hb hd (hT rfl) (fun _ => k) (fun hc => absurd (xr_neg_ge (of_decide_eq_false e3.symm)) hc)
        | false =>
          have e0 : t0 = true := by cases t0 <;> simp_all
          rw [e0] at e3
          have hz := hN rfl
          rw [hz] at k
          exact xr_skip_if_icmp_ge hx hb hd (xr_pos_ge (of_decide_eq_true e3.symm)) k
      | gt =>
        simp only [xr_test] at ht
        obtain ⟨a, b, e1, e2, e3⟩ := xr_c_ok hF ht
        simp only [xr_sv, List.map_cons, e1, e2]
        simp only [xr_cm] at e3
        cases t with
        | true =>
          refine lv_icmp_gt hx hb hd (hT rfl) (fun _ => k) (fun hc => absurd (of_decide_eq_true e3.symm) hc)
        | false =>
          have hz := hN rfl
          rw [hz] at k
          exact xr_skip_if_icmp_gt hx hb hd (of_decide_eq_false e3.symm) k
      | le =>
        simp only [xr_test, Option.map_eq_some_iff] at ht
        obtain ⟨t0, ht, et⟩ := ht
        obtain ⟨a, b, e1, e2, e3⟩ := xr_c_ok hF ht
        simp only [xr_sv, List.map_cons, e1, e2]
        simp only [xr_cm] at e3
        cases t with
        | true =>
          have e0 : t0 = false := by cases t0 <;> simp_all
          rw [e0] at e3
          exact lv_icmp_le hx hb hd (hT rfl) (fun _ => k) (fun hc => absurd (xr_neg_le (of_decide_eq_false e3.symm)) hc)
        | false =>
          have e0 : t0 = true := by cases t0 <;> simp_all
          rw [e0] at e3
          have hz := hN rfl
          rw [hz] at k
          exact xr_skip_if_icmp_le hx hb hd (xr_pos_le (of_decide_eq_true e3.symm)) k
    · cases h
  case ifnonnull off =>
    simp only [xr_pure] at h
    split at h
    · obtain ⟨rfl, hpc, rfl, rfl, -⟩ := xr_to_ok h
      exact lv_ifnonnull hx hb hd hpc (k ls hl)
    · obtain ⟨rfl, hpc, rfl, rfl, -⟩ := xr_seq_ok h
      have k := k ls hl
      rw [hpc] at k
      exact lv_ifnonnullN hx hb hd k
    · cases h
  case ifnull off =>
    simp only [xr_pure] at h
    split at h
    · obtain ⟨rfl, hpc, rfl, rfl, -⟩ := xr_seq_ok h
      have k := k ls hl
      rw [hpc] at k
      exact lv_ifnull hx hb hd k
    · obtain ⟨rfl, hpc, rfl, rfl, -⟩ := xr_to_ok h
      exact lv_ifnullN hx hb hd hpc (k ls hl)
    · cases h
  case tableswitch dflt lo hi offs =>
    simp only [xr_pure] at h
    unfold xr_sw at h
    split at h
    · rename_i x st1
      cases hc : (decide (x.toInt < lo) || decide (hi < x.toInt)) with
      | true =>
        rw [hc] at h
        obtain ⟨-, hpc, rfl, rfl, -⟩ := xr_to_ok h
        simp only [Bool.or_eq_true, decide_eq_true_eq] at hc
        exact lv_tableOut hx hb hd hc hpc (k ls hl)
      | false =>
        rw [hc] at h
        simp only [cond_false] at h
        simp only [Bool.or_eq_false_iff, decide_eq_false_iff_not] at hc
        cases ho : offs[(x.toInt - lo).toNat]? with
        | none => rw [ho] at h; cases h
        | some off =>
          rw [ho] at h
          obtain ⟨-, hpc, rfl, rfl, -⟩ := xr_to_ok h
          exact lv_tableIn hx hb hd hc.1 hc.2 ho hpc (k ls hl)
    · cases h
  all_goals exact absurd (show (none : Option xr_S) = some _ from h) (fun z => by cases z)
end XRQ
end
section
theorem i_vc : Claimed_1_1 ∧ Claimed_1_2 := sorry
end
