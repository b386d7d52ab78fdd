/-! the machine itself: methods, calls, ends -/
abbrev xr_M : Type := MethodName × ByteArray × Nat × Option FieldType × List (Nat × Nat × Nat × Nat) × Nat × List xr_En
abbrev xr_Out : Type := (Option Value ⊕ Nat) × List xr_C × Bool × Nat × Nat
def xr_hw (M : xr_M) : Cond := match M.2.2.2.2.1 with
  | [] => .code M.1 M.2.1 M.2.2.1 M.2.2.2.1
  | h :: hh => .codeWith M.1 M.2.1 M.2.2.1 M.2.2.2.1 (h :: hh)
def xr_ws (M : xr_M) : List Cond := xr_hw M :: xr_tb
def xr_Ex (t : Nat) : String := match t with
  | 0 => "java/lang/IllegalArgumentException"
  | _ => "java/util/NoSuchElementException"
def xr_rt (ret : Option FieldType) (i : Instr) (st : List Value) : Option (Option Value) := match i with
  | .return_ => match ret, st with
    | none, [] => some none
    | _, _ => none
  | .ireturn => match ret, st with
    | some .int, [v] => bif xr_isI v then some (some v) else none
    | some .boolean, [.int x] => bif decide (x = 0) || decide (x = 1) then some (some (.int x)) else none
    | some .byte, [.int x] => bif decide (x = 0) then some (some (.int x)) else none
    | _, _ => none
  | .lreturn => match ret, st with
    | some .long, [v] => bif xr_isL v then some (some v) else none
    | _, _ => none
  | .areturn => match ret, st with
    | some (.array _), [v] => bif xr_isR v then some (some v) else none
    | some (.object _), [v] => bif xr_isR v then some (some v) else none
    | _, _ => none
  | _ => none
/-- which class an entry of the law's pool names where something is caught -/
def xr_ctn (ct : Nat) : Option Nat := match ct with
  | 13 => some 0
  | 31 => some 1
  | _ => none
def xr_cov (a b pc : Nat) : Bool := Nat.ble a pc && Nat.blt pc b
/-- the handler that takes a throw of the kind t at pc: where it is, the number it answers -/
def xr_hdl (hh : List (Nat × Nat × Nat × Nat)) (pc t : Nat) : Option (Nat × Nat) := match hh with
  | [(a, b, h, ct)] => bif xr_cov a b pc && decide (xr_ctn ct = some t) then some (h, 1) else none
  | [(a, b, h, ct), (a', b', h', ct')] => bif xr_cov a b pc && (xr_cov a' b' pc && (decide (xr_ctn ct = some 1) && decide (xr_ctn ct' = some 0))) then (match t with
    | 1 => some (h, 1)
    | 0 => some (h', 2)
    | _ => none) else none
  | _ => none
def xr_ca (mt : List xr_M) (aux : List Nat) (st : List Value) (w : List xr_C) (i : Instr) : Option (Nat × List Value × List Value) := match i with
  | .invokevirtual _ => match aux with
    | 3 :: u :: ci :: _ => match xr_nth mt u with
      | some M' => match xr_dr st M'.2.2.2.2.2.1 with
        | .ref k :: rest => match xr_nth w k with
          | some (.inl (cj, _)) => bif Nat.beq cj ci && (Nat.ble (xr_cs rest) 8 && Nat.beq (st.take M'.2.2.2.2.2.1).length M'.2.2.2.2.2.1) then some (u, .ref k :: (st.take M'.2.2.2.2.2.1).reverse, rest) else none
          | _ => none
        | _ => none
      | none => none
    | _ => none
  | .invokestatic _ => match aux with
    | 4 :: u :: _ => match xr_nth mt u with
      | some M' => bif Nat.ble (xr_cs (st.drop M'.2.2.2.2.2.1)) 8 && Nat.beq (st.take M'.2.2.2.2.2.1).length M'.2.2.2.2.2.1 then some (u, (st.take M'.2.2.2.2.2.1).reverse, st.drop M'.2.2.2.2.2.1) else none
      | none => none
    | _ => none
  | .invokespecial _ => match aux with
    | 5 :: u :: _ => match xr_nth mt u with
      | some M' => match xr_dr st M'.2.2.2.2.2.1 with
        | .ref k :: rest => bif Nat.ble (xr_cs rest) 8 && Nat.beq (st.take M'.2.2.2.2.2.1).length M'.2.2.2.2.2.1 then some (u, .ref k :: (st.take M'.2.2.2.2.2.1).reverse, rest) else none
        | _ => none
      | none => none
    | 6 :: u :: _ => match xr_nth mt u with
      | some M' => match xr_dr st M'.2.2.2.2.2.1 with
        | .ref k :: rest => bif Nat.ble (xr_cs rest) 8 && Nat.beq (st.take M'.2.2.2.2.2.1).length M'.2.2.2.2.2.1 then some (u, .ref k :: (st.take M'.2.2.2.2.2.1).reverse, rest) else none
        | _ => none
      | none => none
    | _ => none
  | _ => none
def xr_thr (d : Nat) (i : Instr) (aux : List Nat) (st : List Value) : Option Nat := match i with
  | .new _ => match aux with
    | 99 :: t :: _ => bif Nat.ble 5 d && Nat.ble (xr_cs st) 8 then some t else none
    | _ => none
  | _ => none
def xr_isV (i : Instr) : Bool := match i with
  | .invokevirtual _ => true
  | _ => false
/-- the pure instructions in heaps, so that the kernel takes up few rows at a time -/
def xr_pA (r : List xr_En) (pc len : Nat) (l : xr_L) (st : List Value) (i : Instr) : Option xr_S := match i with
  | .iload_n k => xr_ld xr_isI r pc len 1 l st k.val
  | .iload k => xr_ld xr_isI r pc len 2 l st k
  | .aload_n k => xr_ld xr_isB r pc len 1 l st k.val
  | .aload k => xr_ld xr_isB r pc len 2 l st k
  | _ => none
def xr_pB (df : xr_D) (nL : Nat) (r : List xr_En) (pc len : Nat) (l : xr_L) (st : List Value) (i : Instr) : Option xr_S := match i with
  | .istore_n k => xr_sto xr_isI nL r pc len 1 l st k.val
  | .istore k => xr_sto xr_isI nL r pc len 2 l st k
  | .iinc k n => match xr_get l k with
    | some x => match xr_bin df 0 x (.int (Int32.ofInt n)) with
      | some v => bif Nat.blt k nL then xr_seq r pc len 3 (xr_s1 l k v) st else none
      | none => none
    | none => none
  | _ => none
def xr_pC (r : List xr_En) (pc len : Nat) (l : xr_L) (st : List Value) (i : Instr) : Option xr_S := match i with
  | .iconst n => xr_seq r pc len 1 l (.int (Int32.ofInt n) :: st)
  | .bipush n => xr_seq r pc len 2 l (.int (Int8.ofInt n).toInt32 :: st)
  | .sipush n => xr_seq r pc len 3 l (.int (Int16.ofInt n).toInt32 :: st)
  | _ => none
def xr_pD (df : xr_D) (r : List xr_En) (pc len : Nat) (l : xr_L) (st : List Value) (i : Instr) : Option xr_S := match i with
  | .iadd => xr_ar df 0 r pc len l st
  | .isub => xr_ar df 1 r pc len l st
  | .imul => xr_ar df 2 r pc len l st
  | .iand => xr_ar df 5 r pc len l st
  | _ => none
def xr_pE (fx : xr_F) (tab r : List xr_En) (pc len : Nat) (aux : List Nat) (l : xr_L) (st : List Value) (i : Instr) : Option xr_S := match i with
  | .goto off => xr_to tab aux pc len 3 off l st
  | .ifCond c off => match st with
    | x :: st' => xr_br tab r aux pc len off l st' (xr_test fx c x (.int 0))
    | [] => none
  | .if_icmp c off => match st with
    | y :: x :: st' => xr_br tab r aux pc len off l st' (xr_test fx c x y)
    | _ => none
  | _ => none
theorem xr_pA_le {df : xr_D} {fx : xr_F} {nL : Nat} {tab r : List xr_En} {pc len : Nat} {aux : List Nat} {l : xr_L} {st : List Value} {i : Instr} {q : xr_S} (h : xr_pA r pc len l st i = some q) : xr_pure df fx nL tab r pc len aux l st i = some q := by
  cases i <;> first | exact h | (simp only [xr_pA, reduceCtorEq] at h)
theorem xr_pB_le {df : xr_D} {fx : xr_F} {nL : Nat} {tab r : List xr_En} {pc len : Nat} {aux : List Nat} {l : xr_L} {st : List Value} {i : Instr} {q : xr_S} (h : xr_pB df nL r pc len l st i = some q) : xr_pure df fx nL tab r pc len aux l st i = some q := by
  cases i <;> first | exact h | (simp only [xr_pB, reduceCtorEq] at h)
theorem xr_pC_le {df : xr_D} {fx : xr_F} {nL : Nat} {tab r : List xr_En} {pc len : Nat} {aux : List Nat} {l : xr_L} {st : List Value} {i : Instr} {q : xr_S} (h : xr_pC r pc len l st i = some q) : xr_pure df fx nL tab r pc len aux l st i = some q := by
  cases i <;> first | exact h | (simp only [xr_pC, reduceCtorEq] at h)
theorem xr_pD_le {df : xr_D} {fx : xr_F} {nL : Nat} {tab r : List xr_En} {pc len : Nat} {aux : List Nat} {l : xr_L} {st : List Value} {i : Instr} {q : xr_S} (h : xr_pD df r pc len l st i = some q) : xr_pure df fx nL tab r pc len aux l st i = some q := by
  cases i <;> first | exact h | (simp only [xr_pD, reduceCtorEq] at h)
theorem xr_pE_le {df : xr_D} {fx : xr_F} {nL : Nat} {tab r : List xr_En} {pc len : Nat} {aux : List Nat} {l : xr_L} {st : List Value} {i : Instr} {q : xr_S} (h : xr_pE fx tab r pc len aux l st i = some q) : xr_pure df fx nL tab r pc len aux l st i = some q := by
  cases i <;> first | exact h | (simp only [xr_pE, reduceCtorEq] at h)
abbrev xr_Ih : Type := List xr_En → xr_L → List Value → List xr_C → Bool → Nat → Nat → Option xr_Out
def xr_g3 (ih : xr_Ih) (w : List xr_C) (b : Bool) (ce sl : Nat) (o : Option xr_S) : Option xr_Out := match o with
  | some q => ih q.1 q.2.1 q.2.2 w b ce sl
  | none => none
def xr_g4 (ih : xr_Ih) (b : Bool) (ce sl : Nat) (o : Option xr_T) : Option xr_Out := match o with
  | some q => ih q.1 q.2.1 q.2.2.1 q.2.2.2 b ce sl
  | none => none
def xr_g6 (ih : xr_Ih) (b : Bool) (ce sl : Nat) (o : Option xr_U) : Option xr_Out := match o with
  | some q => ih q.1 q.2.1 q.2.2.1 q.2.2.2.1 b (ce + q.2.2.2.2.1) (sl + q.2.2.2.2.2)
  | none => none
def xr_gc (mt : List xr_M) (callf : Nat → List Value → List xr_C → Bool → Option xr_Out) (M : xr_M) (ih : xr_Ih) (e : xr_En) (r : List xr_En) (l : xr_L) (st : List Value) (w : List xr_C) (b : Bool) (ce sl : Nat) : Option xr_Out := match xr_ca mt e.2.2.2.1 st w e.2.1 with
  | none => none
  | some a => match callf a.1 a.2.1 w b with
    | none => none
    | some o => match o.1 with
      | .inl rv => match xr_seq r e.1 e.2.2.1 3 l (rv.toList ++ a.2.2) with
        | some q => ih q.1 q.2.1 q.2.2 o.2.1 o.2.2.1 (ce + o.2.2.2.1) (sl + o.2.2.2.2)
        | none => none
      | .inr t => bif xr_isV e.2.1 && Nat.beq e.2.2.1 3 then (match M.2.2.2.2.1 with
        | [] => some (.inr t, o.2.1, false, ce + o.2.2.2.1, sl + o.2.2.2.2)
        | _ :: _ => match xr_hdl M.2.2.2.2.1 e.1 t with
          | some h => some (.inl (some (.int (Int32.ofNat h.2))), o.2.1, false, ce + o.2.2.2.1, sl + o.2.2.2.2)
          | none => none) else none
def xr_ge (M : xr_M) (e : xr_En) (st : List Value) (w : List xr_C) (b : Bool) (ce sl : Nat) : Option xr_Out := match xr_rt M.2.2.2.1 e.2.1 st with
  | some rv => bif Nat.beq e.2.2.1 1 then some (.inl rv, w, b, ce, sl) else none
  | none => none
def xr_gt (d : Nat) (e : xr_En) (st : List Value) (w : List xr_C) (ce sl : Nat) : Option xr_Out := match xr_thr d e.2.1 e.2.2.2.1 st with
  | some t => some (.inr t, w, false, ce + 1, sl + 6)
  | none => none
/-- one instruction, by its kind -/
def xr_st (df : xr_D) (fx : xr_F) (scr : Option (List Value)) (mt : List xr_M) (d : Nat) (callf : Nat → List Value → List xr_C → Bool → Option xr_Out) (M : xr_M) (ih : xr_Ih) (rem : List xr_En) (l : xr_L) (st : List Value) (w : List xr_C) (b : Bool) (ce sl : Nat) : Option xr_Out := match rem with
  | [] => none
  | e :: r => match e.2.2.2.2 with
    | 0 => xr_g3 ih w b ce sl (xr_pA r e.1 e.2.2.1 l st e.2.1)
    | 1 => xr_g3 ih w b ce sl (xr_pB df M.2.2.1 r e.1 e.2.2.1 l st e.2.1)
    | 2 => xr_g3 ih w b ce sl (xr_pC r e.1 e.2.2.1 l st e.2.1)
    | 3 => xr_g3 ih w b ce sl (xr_pD df r e.1 e.2.2.1 l st e.2.1)
    | 4 => xr_g3 ih w b ce sl (xr_pE fx M.2.2.2.2.2.2 r e.1 e.2.2.1 e.2.2.2.1 l st e.2.1)
    | 5 => xr_g3 ih w b ce sl (xr_rd scr r e.1 e.2.2.1 e.2.2.2.1 l st w e.2.1)
    | 6 => xr_g4 ih b ce sl (xr_wt df r e.1 e.2.2.1 e.2.2.2.1 l st w e.2.1)
    | 7 => xr_gc mt callf M ih e r l st w b ce sl
    | 8 => xr_ge M e st w b ce sl
    | 9 => xr_g3 ih w b ce sl (xr_pure df fx M.2.2.1 M.2.2.2.2.2.2 r e.1 e.2.2.1 e.2.2.2.1 l st e.2.1)
    | 10 => xr_g6 ih b ce sl (xr_al b r e.1 e.2.2.1 e.2.2.2.1 l st w e.2.1)
    | 11 => xr_g6 ih b ce sl (xr_nt b r e.1 e.2.2.1 e.2.2.2.1 l st w e.2.1)
    | _ => xr_gt d e st w ce sl
abbrev xr_K0 : List xr_En → xr_L → List Value → List xr_C → Bool → Nat → Nat → Option xr_Out := fun _ _ _ _ _ _ _ => none
/-- n instructions, then K -/
def xr_lp (K : List xr_En → xr_L → List Value → List xr_C → Bool → Nat → Nat → Option xr_Out) (df : xr_D) (fx : xr_F) (scr : Option (List Value)) (mt : List xr_M) (d : Nat) (callf : Nat → List Value → List xr_C → Bool → Option xr_Out) (M : xr_M) (n : Nat) : List xr_En → xr_L → List Value → List xr_C → Bool → Nat → Nat → Option xr_Out :=
  Nat.rec K (fun _ ih => xr_st df fx scr mt d callf M ih) n
/-- a method, called at the depth d -/
def xr_R (df : xr_D) (fx : xr_F) (sm : Nat → Nat → List Value → List xr_C → Bool → Option xr_Out) (mt : List xr_M) (n d : Nat) : Nat → List Value → List xr_C → Bool → Option xr_Out :=
  Nat.rec (fun _ _ _ _ => none) (fun d ih u as w b => match sm (d + 1) u as w b with
    | some o => some o
    | none => match xr_nth mt u with
    | some M => bif Nat.ble (lg_sl as).length M.2.2.1 then xr_lp xr_K0 df fx none mt d ih M n M.2.2.2.2.2.2 (lv_args 0 as) [] w b 0 0 else none
    | none => none) d
-- what is decided of a method's table
def xr_fc (own name : String) (i : Instr) (aux : List Nat) : Bool := match i with
  | .getfield idx => xr_fld own idx aux
  | .putfield idx => xr_fld own idx aux && xr_fin own name aux
  | _ => true
def xr_site (M : xr_M) (pc : Nat) (t : Nat) : Bool := match t with
  | 0 => decide (M.1 = yX11_refuseWrong) && (decide (M.2.1 = cX11_refuseWrong) && (Nat.beq pc 10 && decide (M.2.2.2.2.1 = [])))
  | 1 => decide (M.1 = yX11_refuseMissing) && (decide (M.2.1 = cX11_refuseMissing) && (Nat.beq pc 10 && decide (M.2.2.2.2.1 = [])))
  | _ => false
def xr_nc (M : xr_M) (pc : Nat) (i : Instr) (aux : List Nat) : Bool := match i with
  | .new _ => match aux with
    | 99 :: t :: _ => xr_site M pc t
    | _ => xr_chn M.1.cls i aux
  | _ => xr_chn M.1.cls i aux
def xr_m0 (M' : xr_M) : Bool := decide (M'.1.cls ≠ "java/lang/invoke/MethodHandle") && (decide (M'.1.cls ≠ "java/lang/invoke/VarHandle") && (decide ((parseMethodDescriptor M'.1.desc).map (fun d => d.parameters.length) = some M'.2.2.2.2.2.1) && Nat.ble M'.2.2.1 100))
def xr_chc (mt : List xr_M) (own : String) (i : Instr) (aux : List Nat) : Bool := match i with
  | .invokevirtual idx => match aux with
    | 3 :: u :: ci :: hs => match mt[u]? with
      | some M' => match vwCl[ci]? with
        | some q => decide (q.1 = M'.1.cls) && (xr_m0 M' && (decide (M'.2.2.2.2.1 = []) && xr_hasAll [.methodLink own idx M'.1, .instanceMethod M'.1, .selects M'.1.cls M'.1 M'.1, .initialized M'.1.cls, xr_hw M'] hs))
        | none => false
      | none => false
    | _ => true
  | .invokestatic idx => match aux with
    | 4 :: u :: hs => match mt[u]? with
      | some M' => xr_m0 M' && xr_hasAll [.methodLink own idx M'.1, .static M'.1, .initialized M'.1.cls, xr_hw M'] hs
      | none => false
    | _ => true
  | .invokespecial idx => match aux with
    | 5 :: u :: hs => match mt[u]? with
      | some M' => xr_m0 M' && (decide (M'.1.name = "<init>") && (decide (M'.2.2.2.1 = none) && (decide (M'.2.2.2.2.1 = []) && xr_hasAll [.methodLink own idx M'.1, .instanceMethod M'.1, .initialized M'.1.cls, xr_hw M'] hs)))
      | none => false
    | 6 :: u :: h0 :: hs => match mt[u]? with
      | some M' => xr_m0 M' && (decide (M'.1.name = "<init>") && (decide (M'.2.2.2.1 = none) && (decide (M'.2.2.2.2.1 = []) && (xr_hasO h0 (.methodLinkNest own idx M'.1 "NoiseFields") && xr_hasAll [.instanceMethod M'.1, .initialized M'.1.cls, xr_hw M'] hs))))
      | none => false
    | 6 :: _ => false
    | _ => true
  | _ => true
def xr_chk (mt : List xr_M) (M : xr_M) (e : xr_En) : Bool := decide (decode M.2.1 e.1 = .ok (e.2.1, e.2.2.1)) && (xr_fc M.1.cls M.1.name e.2.1 e.2.2.2.1 && (xr_nc M e.1 e.2.1 e.2.2.2.1 && (xr_cht M.1.cls e.2.1 e.2.2.2.1 && (xr_chm M.1.cls e.2.1 e.2.2.2.1 && xr_chc mt M.1.cls e.2.1 e.2.2.2.1))))
/-- of a handler: it keeps what was thrown, answers its number -/
def xr_hc (M : xr_M) (h : Nat × Nat × Nat × Nat) (k : Nat) : Bool := (match xr_ctn h.2.2.2 with
  | some _ => true
  | none => false) && (decide (h.2.2.2 ≠ 0) && (match decode M.2.1 h.2.2.1 with
  | .ok (.astore_n q, 1) => Nat.blt q.val M.2.2.1 && (decide (decode M.2.1 (h.2.2.1 + 1) = .ok (.iconst (k : Int), 1)) && decide (decode M.2.1 (h.2.2.1 + 2) = .ok (.ireturn, 1)))
  | .ok (.astore q, 2) => Nat.blt q M.2.2.1 && (decide (decode M.2.1 (h.2.2.1 + 2) = .ok (.iconst (k : Int), 1)) && decide (decode M.2.1 (h.2.2.1 + 3) = .ok (.ireturn, 1)))
  | _ => false))
def xr_hcs (M : xr_M) : Bool := match M.2.2.2.2.1 with
  | [] => true
  | [h] => decide (M.1.cls = "NoiseFieldsLaw") && (decide (M.2.2.2.1 = some .int) && xr_hc M h 1)
  | [h, h'] => decide (M.1.cls = "NoiseFieldsLaw") && (decide (M.2.2.2.1 = some .int) && (xr_hc M h 1 && xr_hc M h' 2))
  | _ => false
def xr_Mok (mt : List xr_M) (M : xr_M) : Bool := plainName M.1.cls && (decide (M.2.2.1 ≤ 100) && (decide (xr_pc M.2.2.2.2.2.2 = 0) && (xr_hcs M && M.2.2.2.2.2.2.all (xr_chk mt M))))
