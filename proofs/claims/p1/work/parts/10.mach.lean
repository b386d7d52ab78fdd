/-! A SYMBOLIC MACHINE, evaluated by the kernel, and what it says of the real one. Values as syntax: '.ref k' the cell k made since the law's entry, '.retAddr n' the int variable n, '.double n' the same as a long, '.float n' an outer address. -/
abbrev xr_C : Type := (Nat × List Value) ⊕ (Nat × Nat × List (Nat × Value))
abbrev xr_En : Type := Nat × Instr × Nat × List Nat × Nat
abbrev xr_L : Type := List (Nat × Value)
abbrev xr_D : Type := List (Nat × Value × Value × Value)
abbrev xr_F : Type := List (Nat × Value × Value × Bool)
/-- rows of a list, by the recursors alone: the kernel walks them fast -/
def xr_nth {α : Type} (l : List α) (n : Nat) : Option α := Nat.rec (motive := fun _ => List α → Option α) (fun l => List.casesOn (motive := fun _ => Option α) l none (fun a _ => some a)) (fun _ ih l => List.casesOn (motive := fun _ => Option α) l none (fun _ t => ih t)) n l
theorem xr_nth_eq {α : Type} : ∀ (l : List α) (n : Nat), xr_nth l n = l[n]?
  | [], 0 => rfl
  | [], n + 1 => rfl
  | a :: t, 0 => rfl
  | a :: t, n + 1 => (show xr_nth (a :: t) (n + 1) = xr_nth t n from rfl).trans ((xr_nth_eq t n).trans (by simp))
def xr_set {α : Type} (l : List α) (n : Nat) (v : α) : List α := Nat.rec (motive := fun _ => List α → List α) (fun l => List.casesOn (motive := fun _ => List α) l [] (fun _ t => v :: t)) (fun _ ih l => List.casesOn (motive := fun _ => List α) l [] (fun a t => a :: ih t)) n l
theorem xr_set_eq {α : Type} : ∀ (l : List α) (n : Nat) (v : α), xr_set l n v = l.set n v
  | [], 0, v => rfl
  | [], n + 1, v => rfl
  | a :: t, 0, v => rfl
  | a :: t, n + 1, v => congrArg (fun q => a :: q) (xr_set_eq t n v)
def xr_dr {α : Type} (l : List α) (n : Nat) : List α := Nat.rec (motive := fun _ => List α → List α) (fun l => l) (fun _ ih l => List.casesOn (motive := fun _ => List α) l [] (fun _ t => ih t)) n l
theorem xr_dr_eq {α : Type} : ∀ (n : Nat) (l : List α), xr_dr l n = l.drop n
  | 0, l => rfl
  | n + 1, [] => rfl
  | n + 1, a :: t => xr_dr_eq n t
def xr_v (ep : Nat → Int32) (ba : Nat) (sg : Nat → Nat) : Value → Value
  | .ref k => .ref (ba + k)
  | .retAddr n => .int (ep n)
  | .double u => .long (ep u.toNat).toInt64
  | .float u => .ref (sg u.toNat)
  | .int x => .int x
  | .long x => .long x
  | .null => .null
def xr_lv (ep : Nat → Int32) (ba : Nat) (sg : Nat → Nat) (l : xr_L) : xr_L := l.map fun q => (q.1, xr_v ep ba sg q.2)
def xr_i (v : Value) : Int32 := match v with
  | .int x => x
  | _ => 0
def xr_l (v : Value) : Int64 := match v with
  | .long x => x
  | _ => 0
def xr_r (v : Value) : Option Nat := match v with
  | .ref a => some a
  | _ => none
def xr_at : xr_L → Nat → Value → Value
  | [], _, d => d
  | (i, v) :: t, j, d => bif Nat.beq j i then v else xr_at t j d
def xr_A (ep : Nat → Int32) (ba : Nat) (sg : Nat → Nat) (kd n : Nat) (as : xr_L) : vp_A :=
  match kd with
  | 2 => (n, .inr (.inl (fun j => xr_l (xr_v ep ba sg (xr_at as j (.long 0))))))
  | 3 => (n, .inr (.inr (.inr (.inr (fun j => xr_r (xr_v ep ba sg (xr_at as j .null)))))))
  | _ => (n, .inl (fun j => xr_i (xr_v ep ba sg (xr_at as j (.int 0)))))
def xr_e (ep : Nat → Int32) (ba : Nat) (sg : Nat → Nat) (cy : Nat → ClassId) : xr_C → va_E
  | .inl (ci, fs) => .inr (ci, fs.map (xr_v ep ba sg))
  | .inr (kd, n, as) => .inl (cy kd, xr_A ep ba sg kd n as)
def xr_w (ep : Nat → Int32) (ba : Nat) (sg : Nat → Nat) (cy : Nat → ClassId) : Nat → List xr_C → va_W
  | _, [] => []
  | k, c :: t => (ba + k, xr_e ep ba sg cy c) :: xr_w ep ba sg cy (k + 1) t
-- numbers
def xr_op (k : Nat) (a b : Int32) : Int32 := match k with
  | 0 => a + b
  | 1 => a - b
  | 2 => a * b
  | 3 => a / b
  | 4 => a - a / b * b
  | 5 => a &&& b
  | 6 => a ||| b
  | 7 => a ^^^ b
  | 8 => a <<< (b &&& 31)
  | 9 => a >>> (b &&& 31)
  | 10 => (a.toUInt32 >>> (b.toUInt32 &&& Int32.toUInt32 31)).toInt32
  | 11 => a.toInt8.toInt32
  | 12 => -a
  | _ => (a.toUInt32 % 65536).toInt32
/-- a number, brought to a literal -/
def xr_n (x : Int32) : Value := Nat.rec (.int (Int32.ofNat 0)) (fun n _ => .int (Int32.ofNat (n + 1))) x.toUInt32.toNat
theorem xr_n_ok (x : Int32) : xr_n x = .int x := by
  have h : ∀ n : Nat, (Nat.rec (.int (Int32.ofNat 0)) (fun n _ => .int (Int32.ofNat (n + 1))) n : Value) = .int (Int32.ofNat n) := fun n => by cases n <;> rfl
  unfold xr_n
  rw [h]
  congr 1
  apply Int32.toBitVec_inj.mp
  simp [Int32.toBitVec_ofNat]
def xr_cm (k : Nat) (a b : Int32) : Bool := match k with
  | 0 => decide (a = b)
  | _ => decide (a < b)
def xr_u (x : Int32) : Nat := x.toUInt32.toNat
/-- the same by Nat alone -/
def xr_cf (k : Nat) (a b : Int32) : Bool := match k with
  | 0 => Nat.beq (xr_u a) (xr_u b)
  | _ => Nat.blt ((xr_u a + 2147483648) % 4294967296) ((xr_u b + 2147483648) % 4294967296)
theorem xr_cf_eq (k : Nat) (a b : Int32) : xr_cf k a b = xr_cm k a b := by
  unfold xr_cf xr_cm
  split
  · by_cases h : a = b
    · subst h
      rw [decide_eq_true rfl]
      exact Nat.beq_refl _
    · rw [decide_eq_false h]
      refine Bool.eq_false_iff.mpr (fun q => h ?_)
      have h1 : a.toUInt32.toNat = b.toUInt32.toNat := Nat.eq_of_beq_eq_true q
      have h2 : a.toBitVec = b.toBitVec := BitVec.eq_of_toNat_eq h1
      exact Int32.toBitVec_inj.mp h2
  · have key : ∀ x : Int32, (xr_u x + 2147483648) % 4294967296 = (x.toInt + 2147483648).toNat := by
      intro x
      have h1 : x.toInt = (x.toUInt32.toNat : Int) - (if x.toUInt32.toNat < 2147483648 then 0 else 4294967296) := by
        have h0 : x.toInt = x.toBitVec.toInt := rfl
        have h2 : x.toUInt32.toNat = x.toBitVec.toNat := rfl
        rw [h0, h2, BitVec.toInt_eq_toNat_cond]
        split <;> split <;> omega
      have h3 : x.toUInt32.toNat < 4294967296 := x.toUInt32.toNat_lt
      unfold xr_u
      rw [h1]
      split <;> omega
    have r : ∀ x : Int32, -2147483648 ≤ x.toInt ∧ x.toInt < 2147483648 := fun x => ⟨Int32.le_toInt x, Int32.toInt_lt x⟩
    rw [key a, key b]
    have ra := r a
    have rb := r b
    by_cases h : a < b
    · rw [decide_eq_true h]
      have h1 := Int32.lt_iff_toInt_lt.mp h
      exact Nat.ble_eq_true_of_le (by omega)
    · rw [decide_eq_false h]
      have h1 : ¬ a.toInt < b.toInt := fun q => h (Int32.lt_iff_toInt_lt.mpr q)
      exact Bool.eq_false_iff.mpr (fun q => by have := Nat.le_of_ble_eq_true q; omega)
def xr_df (df : xr_D) (k : Nat) (x y : Value) : Option Value := match df with
  | [] => none
  | d :: t => bif Nat.beq d.1 k && (decide (d.2.1 = x) && decide (d.2.2.1 = y)) then some d.2.2.2 else xr_df t k x y
def xr_bin (df : xr_D) (k : Nat) (x y : Value) : Option Value := match x, y with
  | .int a, .int b => some (xr_n (xr_op k a b))
  | _, _ => xr_df df k x y
def xr_fx (fx : xr_F) (k : Nat) (x y : Value) : Option Bool := match fx with
  | [] => none
  | d :: t => bif Nat.beq d.1 k && (decide (d.2.1 = x) && decide (d.2.2.1 = y)) then some d.2.2.2 else xr_fx t k x y
def xr_c (fx : xr_F) (k : Nat) (x y : Value) : Option Bool := match x, y with
  | .int a, .int b => some (xr_cf k a b)
  | _, _ => xr_fx fx k x y
def xr_test (fx : xr_F) (c : ClassFile.Cond) (x y : Value) : Option Bool := match c with
  | .eq => xr_c fx 0 x y
  | .ne => (xr_c fx 0 x y).map not
  | .lt => xr_c fx 1 x y
  | .ge => (xr_c fx 1 x y).map not
  | .gt => xr_c fx 1 y x
  | .le => (xr_c fx 1 y x).map not
def xr_okD (ep : Nat → Int32) (ba : Nat) (sg : Nat → Nat) (df : xr_D) : Prop := ∀ d ∈ df, ∃ a b : Int32, xr_v ep ba sg d.2.1 = .int a ∧ xr_v ep ba sg d.2.2.1 = .int b ∧ xr_v ep ba sg d.2.2.2 = .int (xr_op d.1 a b)
def xr_okF (ep : Nat → Int32) (ba : Nat) (sg : Nat → Nat) (fx : xr_F) : Prop := ∀ d ∈ fx, ∃ a b : Int32, xr_v ep ba sg d.2.1 = .int a ∧ xr_v ep ba sg d.2.2.1 = .int b ∧ d.2.2.2 = xr_cm d.1 a b
theorem xr_df_ok {ep : Nat → Int32} {ba : Nat} {sg : Nat → Nat} {k : Nat} {x y v : Value} : ∀ {df : xr_D}, xr_okD ep ba sg df → xr_df df k x y = some v → ∃ a b : Int32, xr_v ep ba sg x = .int a ∧ xr_v ep ba sg y = .int b ∧ xr_v ep ba sg v = .int (xr_op k a b)
  | [], _, h => by simp [xr_df] at h
  | d :: t, hd, h => by
    unfold xr_df at h
    cases hc : (Nat.beq d.1 k && (decide (d.2.1 = x) && decide (d.2.2.1 = y))) with
    | true =>
      rw [hc] at h
      simp only [cond_true, Option.some.injEq] at h
      simp only [Bool.and_eq_true, decide_eq_true_eq] at hc
      obtain ⟨h1, h2, h3⟩ := hc
      have h1 := Nat.eq_of_beq_eq_true h1
      obtain ⟨a, b, e1, e2, e3⟩ := hd d List.mem_cons_self
      subst h1 h2 h3 h
      exact ⟨a, b, e1, e2, e3⟩
    | false =>
      rw [hc] at h
      exact xr_df_ok (fun d hd' => hd d (List.mem_cons_of_mem _ hd')) h
theorem xr_bin_ok {ep : Nat → Int32} {ba : Nat} {sg : Nat → Nat} {k : Nat} {x y v : Value} {df : xr_D} (hd : xr_okD ep ba sg df) (h : xr_bin df k x y = some v) : ∃ a b : Int32, xr_v ep ba sg x = .int a ∧ xr_v ep ba sg y = .int b ∧ xr_v ep ba sg v = .int (xr_op k a b) := by
  unfold xr_bin at h
  split at h
  · rw [xr_n_ok] at h
    cases h
    exact ⟨_, _, rfl, rfl, rfl⟩
  · exact xr_df_ok hd h
theorem xr_fx_ok {ep : Nat → Int32} {ba : Nat} {sg : Nat → Nat} {k : Nat} {x y : Value} {v : Bool} : ∀ {df : xr_F}, xr_okF ep ba sg df → xr_fx df k x y = some v → ∃ a b : Int32, xr_v ep ba sg x = .int a ∧ xr_v ep ba sg y = .int b ∧ v = xr_cm k a b
  | [], _, h => by simp [xr_fx] at h
  | d :: t, hd, h => by
    unfold xr_fx at h
    cases hc : (Nat.beq d.1 k && (decide (d.2.1 = x) && decide (d.2.2.1 = y))) with
    | true =>
      rw [hc] at h
      simp only [cond_true, Option.some.injEq] at h
      simp only [Bool.and_eq_true, decide_eq_true_eq] at hc
      obtain ⟨h1, h2, h3⟩ := hc
      have h1 := Nat.eq_of_beq_eq_true h1
      obtain ⟨a, b, e1, e2, e3⟩ := hd d List.mem_cons_self
      subst h1 h2 h3 h
      exact ⟨a, b, e1, e2, e3⟩
    | false =>
      rw [hc] at h
      exact xr_fx_ok (fun d hd' => hd d (List.mem_cons_of_mem _ hd')) h
theorem xr_c_ok {ep : Nat → Int32} {ba : Nat} {sg : Nat → Nat} {k : Nat} {x y : Value} {v : Bool} {fx : xr_F} (hd : xr_okF ep ba sg fx) (h : xr_c fx k x y = some v) : ∃ a b : Int32, xr_v ep ba sg x = .int a ∧ xr_v ep ba sg y = .int b ∧ v = xr_cm k a b := by
  unfold xr_c at h
  split at h
  · cases h
    exact ⟨_, _, rfl, rfl, xr_cf_eq _ _ _⟩
  · exact xr_fx_ok hd h
-- kinds
def xr_isI (v : Value) : Bool := match v with
  | .int _ => true
  | .retAddr _ => true
  | _ => false
def xr_isL (v : Value) : Bool := match v with
  | .long _ => true
  | .double _ => true
  | _ => false
def xr_isA (v : Value) : Bool := match v with
  | .ref _ => true
  | .float _ => true
  | _ => false
def xr_isB (v : Value) : Bool := match v with
  | .ref _ => true
  | .float _ => true
  | .null => true
  | _ => false
theorem xr_isB_ok {ep : Nat → Int32} {ba : Nat} {sg : Nat → Nat} {v : Value} (h : xr_isB v = true) : (∃ x : Nat, xr_v ep ba sg v = .ref x) ∨ xr_v ep ba sg v = .null := by
  cases v <;> first | exact Or.inl ⟨_, rfl⟩ | exact Or.inr rfl | (simp [xr_isB] at h)
theorem xr_isI_ok {ep : Nat → Int32} {ba : Nat} {sg : Nat → Nat} {v : Value} (h : xr_isI v = true) : ∃ x : Int32, xr_v ep ba sg v = .int x := by
  cases v <;> first | exact ⟨_, rfl⟩ | (simp [xr_isI] at h)
theorem xr_isL_ok {ep : Nat → Int32} {ba : Nat} {sg : Nat → Nat} {v : Value} (h : xr_isL v = true) : ∃ x : Int64, xr_v ep ba sg v = .long x := by
  cases v <;> first | exact ⟨_, rfl⟩ | (simp [xr_isL] at h)
theorem xr_isA_ok {ep : Nat → Int32} {ba : Nat} {sg : Nat → Nat} {v : Value} (h : xr_isA v = true) : ∃ x : Nat, xr_v ep ba sg v = .ref x := by
  cases v <;> first | exact ⟨_, rfl⟩ | (simp [xr_isA] at h)
theorem xr_cat (ep : Nat → Int32) (ba : Nat) (sg : Nat → Nat) (v : Value) : (xr_v ep ba sg v).category = v.category := by cases v <;> rfl
-- locals
def xr_get : xr_L → Nat → Option Value
  | [], _ => none
  | (i, v) :: t, j => bif Nat.beq i j then some v else xr_get t j
def xr_s1 (l : xr_L) (i : Nat) (v : Value) : xr_L := (i, v) :: l.filter (fun q => !(q.1 == i) && !(q.1 + 1 == i && q.2.category == 2))
def xr_s2 (l : xr_L) (i : Nat) (v : Value) : xr_L := (i, v) :: l.filter (fun q => !(q.1 == i) && (!(q.1 == i + 1) && !(q.1 + 1 == i && q.2.category == 2)))
theorem xr_get_mem : ∀ {l : xr_L} {i : Nat} {v : Value}, xr_get l i = some v → (i, v) ∈ l
  | [], _, _, h => by simp [xr_get] at h
  | (j, w) :: t, i, v, h => by
    unfold xr_get at h
    cases hc : Nat.beq j i with
    | true =>
      rw [hc] at h
      simp only [cond_true, Option.some.injEq] at h
      have h1 := Nat.eq_of_beq_eq_true hc
      subst h1 h
      exact List.mem_cons_self
    | false =>
      rw [hc] at h
      exact List.mem_cons_of_mem _ (xr_get_mem h)
theorem xr_get_ok {ep : Nat → Int32} {ba : Nat} {sg : Nat → Nat} {ls : Array Slot} {nL : Nat} {l : xr_L} {i : Nat} {v : Value} (hl : lv_has ls nL (xr_lv ep ba sg l)) (h : xr_get l i = some v) : ls[i]? = some (.val (xr_v ep ba sg v)) :=
  hl.2.2 (i, xr_v ep ba sg v) (List.mem_map.mpr ⟨(i, v), xr_get_mem h, rfl⟩)
theorem xr_s1_ok (ep : Nat → Int32) (ba : Nat) (sg : Nat → Nat) (l : xr_L) (i : Nat) (v : Value) : (i, xr_v ep ba sg v) :: (xr_lv ep ba sg l).filter (fun q => !(q.1 == i) && !(q.1 + 1 == i && q.2.category == 2)) = xr_lv ep ba sg (xr_s1 l i v) := by
  unfold xr_s1 xr_lv
  rw [List.filter_map, List.map_cons]
  congr 2
  apply List.filter_congr
  intro q _
  simp only [Function.comp, xr_cat]
theorem xr_s2_ok (ep : Nat → Int32) (ba : Nat) (sg : Nat → Nat) (l : xr_L) (i : Nat) (v : Value) : (i, xr_v ep ba sg v) :: (xr_lv ep ba sg l).filter (fun q => !(q.1 == i) && (!(q.1 == i + 1) && !(q.1 + 1 == i && q.2.category == 2))) = xr_lv ep ba sg (xr_s2 l i v) := by
  unfold xr_s2 xr_lv
  rw [List.filter_map, List.map_cons]
  congr 2
  apply List.filter_congr
  intro q _
  simp only [Function.comp, xr_cat]
-- where a frame stands
def xr_pc : List xr_En → Nat
  | e :: _ => e.1
  | [] => 0
abbrev xr_S : Type := List xr_En × xr_L × List Value
def xr_seq (r : List xr_En) (pc len n : Nat) (l : xr_L) (st : List Value) : Option xr_S := bif Nat.beq len n then (match r with
  | e :: _ => bif Nat.beq e.1 (pc + n) then some (r, l, st) else none
  | [] => none) else none
def xr_to (tab : List xr_En) (aux : List Nat) (pc len n : Nat) (off : Int) (l : xr_L) (st : List Value) : Option xr_S := bif Nat.beq len n then (match xr_dr tab (aux.headD 0) with
  | e :: r => bif decide ((pc : Int) + off = (e.1 : Int)) then some (e :: r, l, st) else none
  | [] => none) else none
theorem xr_seq_ok {r r' : List xr_En} {pc len n : Nat} {l l' : xr_L} {st st' : List Value} (h : xr_seq r pc len n l st = some (r', l', st')) : len = n ∧ xr_pc r' = pc + n ∧ l = l' ∧ st = st' ∧ r = r' := by
  unfold xr_seq at h
  cases hc : Nat.beq len n with
  | false => rw [hc] at h; cases h
  | true =>
    rw [hc] at h
    simp only [cond_true] at h
    cases r with
    | nil => cases h
    | cons e t =>
      simp only at h
      cases hd : Nat.beq e.1 (pc + n) with
      | false => rw [hd] at h; cases h
      | true =>
        rw [hd] at h
        cases h
        exact ⟨Nat.eq_of_beq_eq_true hc, Nat.eq_of_beq_eq_true hd, rfl, rfl, rfl⟩
theorem xr_to_ok {tab r' : List xr_En} {aux : List Nat} {pc len n : Nat} {off : Int} {l l' : xr_L} {st st' : List Value} (h : xr_to tab aux pc len n off l st = some (r', l', st')) : len = n ∧ (pc : Int) + off = (xr_pc r' : Int) ∧ l = l' ∧ st = st' ∧ r' = tab.drop (aux.headD 0) := by
  unfold xr_to at h
  rw [xr_dr_eq] at h
  cases hc : Nat.beq len n with
  | false => rw [hc] at h; cases h
  | true =>
    rw [hc] at h
    simp only [cond_true] at h
    cases hr : tab.drop (aux.headD 0) with
    | nil => rw [hr] at h; cases h
    | cons e t =>
      rw [hr] at h
      simp only at h
      cases hd : decide ((pc : Int) + off = (e.1 : Int)) with
      | false => rw [hd] at h; cases h
      | true =>
        rw [hd] at h
        cases h
        exact ⟨Nat.eq_of_beq_eq_true hc, of_decide_eq_true hd, rfl, rfl, rfl⟩
