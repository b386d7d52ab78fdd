/-! what the JDK's natives do, Object's constructor, the one static field -/
section XRT0
variable {p : Program} {l : Launch} {e : Env} {R : Room} {s : State} {m : MethodId} {args : Array Value} {below : List Frame} {meth : Method} {c : Code} {H : Heap} {locs : List Loc} {cells slots : Nat} {Q : State → Prop}
variable {cc : ByteArray} {pc : Nat} {ls : Array Slot} {rest : List Value} {D : va_G} {cl : List vw_C} {A : Nat → Prop} {a : Nat} {tys : List (ClassId × FieldType)} {ws : va_W} {H0 : Heap}
variable {cc : ByteArray}
theorem xr_copyt (hexec : p.tables.exec = Jvm.exec) (hb : c.code = cc) (hml : c.maxLocals = ls.size) {own : String} {index : Nat} (hown : s.vm.findClass own = some m.cls) (hlink : (Cond.methodLink own index arraycopyName).before args s = true) (hnat : (Cond.native arraycopyName).before args s = true) (hstat : (Cond.static arraycopyName).before args s = true) (hini : (Cond.initialized "java/lang/System").before args s = true)
    (hK : va_K D cl tys s) (hP : va_P D cl ws H) (hD : va_D A ws) (hS : va_S A s.heap H locs) {b0 n0 : Nat} {f : Nat → Int32} (hX : va_T .int b0 n0 (fun j => .int (f j)) A s s.heap) (q1 t1 : Nat) {c1 : ClassId} {n1 : Nat} {g : Nat → Int32} (ha1 : ws[q1]? = some (a, .inl (c1, n1, .inl g))) (ht1 : tys[t1]? = some (c1, .int))
    {sp dp n : Int32} (h1 : ¬ sp < 0) (h2 : ¬ dp < 0) (h3 : ¬ n < 0) (h4 : sp.toNatClampNeg + n.toNatClampNeg ≤ n0) (h5 : dp.toNatClampNeg + n.toNatClampNeg ≤ n1) (hfit : ∀ i : Nat, i < n.toNatClampNeg → fits .int (.int (f (sp.toNatClampNeg + i))) = true)
    (hframes : 1 ≤ R.frames) (hlocals : (rest.map fun v => v.category).sum + (nativeFrameWords "java/lang/System" "arraycopy" 5 + 11) ≤ R.locals) (hdg : decode cc pc = .ok (.invokestatic index, 3))
    (kk : ∀ (H1 : Heap) (locs1 : List Loc), va_P D cl (ws.set q1 (a, .inl (c1, n1, .inl (va_cpy f g sp.toNatClampNeg dp.toNatClampNeg n.toNatClampNeg)))) H1 → va_D A (ws.set q1 (a, .inl (c1, n1, .inl (va_cpy f g sp.toNatClampNeg dp.toNatClampNeg n.toNatClampNeg)))) → va_S A s.heap H1 locs1 → W p l e R s m args below meth c H1 locs1 cells slots Q (F0 m (pc + 3) ls rest)) : W p l e R s m args below meth c H locs cells slots Q (F0 m pc ls (.int n :: .int dp :: .ref a :: .int sp :: .ref b0 :: rest)) := by
  have nn : ∀ z : Int32, ¬ z < 0 → z.toInt = (z.toNatClampNeg : Int) := by
    intro z hz
    have hz0 : (0 : Int) ≤ z.toInt := by
      have := Int32.not_lt.mp hz
      simpa using Int32.le_iff_toInt_le.mp this
    show z.toInt = ((z.toInt.toNat : Nat) : Int)
    omega
  intro T hT X
  obtain ⟨scr, hs1, hs2, hs3, hs4, -, hs5, hs7⟩ := hX
  have hc0 : H[b0]? = some scr := by rw [hS.2.1 b0 (Array.getElem?_eq_some_iff.mp hs1).1 hs7]; exact hs1
  have hc1 : H[a]? = some (vp_cell c1 (n1, .inl g)) := hP q1 _ ha1
  obtain ⟨hs6, k0, hk0, cm0, hkk0⟩ := hs2
  obtain ⟨-, k1, hk1, cm1, hkk1⟩ := (hK.2 t1 _ ht1).1 n1 (fun j => .int (g j))
  obtain ⟨vm', X', step⟩ := X.arraycopy hexec hown hlink hnat hstat hini (src := b0) (dst := a) (cs := scr) (cd := vp_cell c1 (n1, .inl g)) (srcPos := sp) (destPos := dp) (n := n) (by rw [hT]; exact hc0) (by rw [hT]; exact hc1)
    hs6 (fun _ h => by cases h) hs3 (fun h => by cases h) hk0 hk1 hkk0 hkk1 (by simp [refKind]) h1 h2 h3
    (by rw [nn sp h1, nn n h3]; omega)
    (by rw [nn dp h2, nn n h3]; show ¬ _ > ((arrV c1 n1 (fun j => .int (g j))).slots.size : Int); rw [arrV_size]; omega)
    (fun vm₁ _ i hi => by
      have e : scr.slots.getD (sp.toNatClampNeg + i) .null = .int (f (sp.toNatClampNeg + i)) := by
        rw [Array.getD_eq_getD_getElem?, hs5 _ (by omega)]
        rfl
      refine ⟨?_, ?_⟩
      · rw [e]
        exact hfit i hi
      · rw [e]
        exact trivial)
    (g := F0 m pc ls (.int n :: .int dp :: .ref a :: .int sp :: .ref b0 :: rest)) rfl (by rw [hml]) (rest := rest) rfl (by rw [hb]; exact hdg) hframes (by show 2 * 0 + _ + _ ≤ _; omega)
  have e1 : copied scr (vp_cell c1 (n1, .inl g)) sp dp n = vp_cell c1 (n1, .inl (va_cpy f g sp.toNatClampNeg dp.toNatClampNeg n.toNatClampNeg)) := va_copiedX (fun z => .int z) scr c1 f g hs5 h4
  rw [e1] at X' step
  have hl : a < H.size := (Array.getElem?_eq_some_iff.mp hc1).1
  have hheap : ((T.setVm vm').setCell a (vp_cell c1 (n1, .inl (va_cpy f g sp.toNatClampNeg dp.toNatClampNeg n.toNatClampNeg)))).heap = H.setIfInBounds a (vp_cell c1 (n1, .inl (va_cpy f g sp.toNatClampNeg dp.toNatClampNeg n.toNatClampNeg))) := by rw [← hT]; rfl
  have oq : ∀ q : Nat, q ≠ a → (H.setIfInBounds a (vp_cell c1 (n1, .inl (va_cpy f g sp.toNatClampNeg dp.toNatClampNeg n.toNatClampNeg))))[q]? = H[q]? := fun q hq => by simp [Array.getElem?_setIfInBounds, Ne.symm hq]
  obtain ⟨t, a1, b1⟩ := kk _ _ (hP.set hD ha1 (show (H.setIfInBounds a _)[a]? = some _ by simp [Array.getElem?_setIfInBounds, hl]) oq) (hD.set ha1) ⟨by simp; exact hS.1, fun q g1 g2 => by
      rw [oq q (fun e => g2 (by rw [e]; exact hD.2 q1 _ ha1))]
      exact hS.2.1 q g1 g2, fun q hq => by
      rcases List.mem_append.mp hq with h | h
      · exact hS.2.2 q h
      · obtain ⟨z, -, hz⟩ := List.mem_map.mp h
        rw [← hz]
        exact hD.2 q1 _ ha1⟩ _ hheap X'
  exact ⟨t, step t a1, b1⟩
end XRT0
def xr_cs (st : List Value) : Nat := (st.map fun v => v.category).sum
theorem xr_cs_v (ep : Nat → Int32) (ba : Nat) (sg : Nat → Nat) (st : List Value) : ((xr_sv ep ba sg st).map fun v => v.category).sum = xr_cs st := by
  unfold xr_cs xr_sv
  rw [List.map_map]
  congr 1
  apply List.map_congr_left
  intro v _
  exact xr_cat ep ba sg v
def xr_cp (d : Value) (as0 : xr_L) (sp dp : Nat) : Nat → xr_L → xr_L
  | 0, as1 => as1
  | n + 1, as1 => (dp + n, xr_at as0 (sp + n) d) :: xr_cp d as0 sp dp n as1
theorem xr_cp_at (d : Value) (as0 : xr_L) (sp dp : Nat) (as1 : xr_L) (k : Nat) : ∀ n : Nat, xr_at (xr_cp d as0 sp dp n as1) k d = if dp ≤ k ∧ k < dp + n then xr_at as0 (sp + (k - dp)) d else xr_at as1 k d
  | 0 => by
    rw [if_neg (by omega)]
    rfl
  | n + 1 => by
    show (bif Nat.beq k (dp + n) then xr_at as0 (sp + n) d else xr_at (xr_cp d as0 sp dp n as1) k d) = _
    rw [xr_cp_at d as0 sp dp as1 k n]
    by_cases h : k = dp + n
    · subst h
      rw [show Nat.beq (dp + n) (dp + n) = true from Nat.beq_refl _, cond_true, if_pos (by omega), Nat.add_sub_cancel_left]
    · rw [show Nat.beq k (dp + n) = false from Bool.eq_false_iff.mpr (fun z => h (Nat.eq_of_beq_eq_true z)), cond_false]
      by_cases h2 : dp ≤ k ∧ k < dp + n
      · rw [if_pos h2, if_pos (by omega)]
      · rw [if_neg h2, if_neg (by omega)]
def xr_usn (j : Nat) : Int32 := match j with
  | 0 => 1000
  | 1 => 1001
  | 2 => 2000
  | 3 => 1005
  | 4 => 4
  | 5 => 2003
  | _ => 2001
def xr_usl : xr_L := [(0, .int 1000), (1, .int 1001), (2, .int 2000), (3, .int 1005), (4, .int 4), (5, .int 2003), (6, .int 2001)]
def xr_Z (ba : Nat) (sg : Nat → Nat) (s : State) : Prop := va_Z "NoiseFields$Law" "USUAL" "[I" (.ref (sg 1)) (fun q => ba ≤ q) s s.heap ∧ va_T .int (sg 1) 7 (fun j => .int (xr_usn j)) (fun q => ba ≤ q) s s.heap ∧ xw_Z ba sg s
def xr_cpok (i : Int32) : Bool := !decide (i < 0)
/-- words that are none of the good ones -/
def xr_owk (w : Cond) : Bool := match w with
  | .castable _ _ => true
  | .declares _ => true
  | .methodLinkNest _ _ _ _ => true
  | _ => false
def xr_ob : List Cond := lw_tbl.filter xr_owk
def xr_hasO (h : Nat) (w : Cond) : Bool := decide (lw_tbl[h]? = some w) && xr_owk w
theorem xr_hasO_ok {h : Nat} {w : Cond} (q : xr_hasO h w = true) : w ∈ xr_ob := by
  simp only [xr_hasO, Bool.and_eq_true, decide_eq_true_eq] at q
  exact List.mem_filter.mpr ⟨List.mem_of_getElem? q.1, q.2⟩
theorem xr_owk_warm {w : Cond} (hw : xr_owk w = true) {s U : State} (hW : s.WarmedH U.vm) (h : va_Nw w s) : va_Nw w U := by
  cases w <;> first
    | (exact va_Nw.warmC hW h)
    | (exact va_Nw.warmD hW h)
    | (exact va_Nw.warmM hW h)
    | (simp [xr_owk] at hw)
abbrev xr_clN : MethodName := ⟨"[I", "clone", "()Ljava/lang/Object;"⟩
abbrev xr_clO : MethodName := ⟨"java/lang/Object", "clone", "()Ljava/lang/Object;"⟩
def xr_nt (b : Bool) (r : List xr_En) (pc len : Nat) (aux : List Nat) (l : xr_L) (st : List Value) (w : List xr_C) (i : Instr) : Option xr_U := match i with
  | .getstatic _ => xr_wu (xr_seq r pc len 3 l (.float 1 :: st)) w 0 0
  | .ldc _ => match aux with
    | 30 :: j :: _ => bif Nat.blt j 11 then xr_wu (xr_seq r pc len 2 l (.float (UInt32.ofNat (j + 4)) :: st)) w 0 0 else none
    | _ => none
  | .arraylength => match st with
    | .float u :: st' => bif decide (u = 1) then xr_wu (xr_seq r pc len 1 l (.int 7 :: st')) w 0 0 else none
    | _ => none
  | .checkcast _ => match aux, st with
    | _ :: _, .ref a :: st' => match xr_nth w a with
      | some (.inr (k1, _, _)) => bif Nat.beq k1 0 then xr_wu (xr_seq r pc len 3 l (.ref a :: st')) w 0 0 else none
      | _ => none
    | _, _ => none
  | .invokestatic _ => match aux, st with
    | 0 :: _, .int n :: .int dp :: .ref a :: .int sp :: .ref a0 :: st' => match xr_nth w a0, xr_nth w a with
      | some (.inr (k0, n0, as0)), some (.inr (k1, n1, as1)) =>
        bif Nat.ble (xr_cs st') 8 && (Nat.beq k0 k1 && ((Nat.beq k0 0 || (Nat.beq k0 1 && Nat.beq n.toNatClampNeg 0)) && (xr_cpok n && (xr_cpok dp && (xr_cpok sp && (Nat.ble (sp.toNatClampNeg + n.toNatClampNeg) n0 && Nat.ble (dp.toNatClampNeg + n.toNatClampNeg) n1)))))) then
          xr_wu (xr_seq r pc len 3 l st') (xr_set w a (.inr (k0, n1, xr_cp (.int 0) as0 sp.toNatClampNeg dp.toNatClampNeg n.toNatClampNeg as1))) 0 0 else none
      | _, _ => none
    | 0 :: _, .int n :: .int dp :: .ref a :: .int sp :: .float u :: st' => match xr_nth w a with
      | some (.inr (k1, n1, as1)) =>
        bif Nat.ble (xr_cs st') 8 && (Nat.beq k1 0 && (decide (u = 1) && (decide (n = 7) && (decide (dp = 0) && (decide (sp = 0) && Nat.ble 7 n1))))) then
          xr_wu (xr_seq r pc len 3 l st') (xr_set w a (.inr (0, n1, xr_cp (.int 0) xr_usl 0 0 7 as1))) 0 0 else none
      | _ => none
    | 20 :: _, .int y :: .int x :: st' => bif Nat.ble (xr_cs st') 8 then xr_wu (xr_seq r pc len 3 l (.int (bif xr_cf 1 y x then y else x) :: st')) w 0 0 else none
    | 21 :: _, .int y :: .int x :: st' => bif Nat.ble (xr_cs st') 8 then xr_wu (xr_seq r pc len 3 l (.int (bif xr_cf 1 x y then y else x) :: st')) w 0 0 else none
    | _, _ => none
  | .invokevirtual _ => match aux, st with
    | 1 :: _, .ref a :: st' => match xr_nth w a with
      | some (.inr (k1, n1, as1)) => bif b && (Nat.ble (xr_cs st') 8 && Nat.beq k1 0) then xr_wu (xr_seq r pc len 3 l (.ref w.length :: st')) (w ++ [.inr (0, n1, as1)]) 1 n1 else none
      | _ => none
    | _, _ => none
  | .invokespecial _ => match aux, st with
    | 2 :: _, .ref a :: st' => bif Nat.ble (xr_cs st') 8 then xr_wu (xr_seq r pc len 3 l st') w 0 0 else none
    | _, _ => none
  | _ => none
def xr_cht (own : String) (i : Instr) (aux : List Nat) : Bool := match i with
  | .getstatic idx => match aux with
    | h :: _ => xr_has h (.fieldLink own idx "NoiseFields$Law" "USUAL" "[I")
    | [] => false
  | .ldc idx => match aux with
    | 30 :: j :: _ => decide (own = "NoiseFields$Law") && decide ((xr_sts[j]?).map (fun q => q.1) = some idx)
    | _ => true
  | .checkcast idx => match aux with
    | h :: _ => xr_has h (.classLink own idx "[I")
    | [] => true
  | .invokestatic idx => match aux with
    | 0 :: h1 :: h2 :: h3 :: h4 :: _ => xr_has h1 (.methodLink own idx arraycopyName) && (xr_has h2 (.native arraycopyName) && (xr_has h3 (.static arraycopyName) && xr_has h4 (.initialized "java/lang/System")))
    | 0 :: _ => false
    | _ => true
  | .invokevirtual idx => match aux with
    | 1 :: h1 :: h2 :: h3 :: h4 :: h5 :: h6 :: _ => xr_has h1 (.methodLink own idx xr_clN) && (xr_has h2 (.sameMethod "[I" "java/lang/Object" "clone" "()Ljava/lang/Object;") && (xr_has h3 (.native xr_clO) && (xr_has h4 (.instanceMethod xr_clO) && (xr_has h5 (.selects "[I" xr_clN xr_clO) && xr_hasO h6 (.castable "[I" "java/lang/Cloneable")))))
    | 1 :: _ => false
    | _ => true
  | .invokespecial idx => match aux with
    | 2 :: h1 :: h2 :: h3 :: _ => xr_has h1 (.methodLink own idx objectInit) && (xr_has h2 (.instanceMethod objectInit) && xr_has h3 (.code objectInit ⟨#[0xb1]⟩ 1 none))
    | 2 :: _ => false
    | _ => true
  | _ => true
def xr_chm (own : String) (i : Instr) (aux : List Nat) : Bool := match i with
  | .invokestatic idx => match aux with
    | 20 :: h1 :: h2 :: h3 :: h4 :: _ => xr_has h1 (.methodLink own idx Lib.Math.min.name) && (xr_has h2 (.static Lib.Math.min.name) && (xr_has h3 (.initialized "java/lang/Math") && xr_has h4 (.code Lib.Math.min.name Lib.Math.min.code 2 (some .int))))
    | 20 :: _ => false
    | 21 :: h1 :: h2 :: h3 :: h4 :: _ => xr_has h1 (.methodLink own idx Lib.Math.max.name) && (xr_has h2 (.static Lib.Math.max.name) && (xr_has h3 (.initialized "java/lang/Math") && xr_has h4 (.code Lib.Math.max.name Lib.Math.max.code 2 (some .int))))
    | 21 :: _ => false
    | _ => true
  | _ => true
