/-! making cells -/
def xr_refs (k0 : Nat) : Nat → xr_L
  | 0 => []
  | n + 1 => (n, .ref (k0 + n)) :: xr_refs k0 n
theorem xr_refs_at (k0 : Nat) : ∀ (n j : Nat), xr_at (xr_refs k0 n) j .null = if j < n then .ref (k0 + j) else .null
  | 0, j => by simp [xr_refs, xr_at]
  | n + 1, j => by
    show (bif Nat.beq j n then Value.ref (k0 + n) else xr_at (xr_refs k0 n) j .null) = _
    rw [xr_refs_at k0 n j]
    by_cases h : j = n
    · subst h
      rw [show Nat.beq j j = true from Nat.beq_refl j, cond_true, if_pos (Nat.lt_succ_self j)]
    · rw [show Nat.beq j n = false from Bool.eq_false_iff.mpr (fun z => h (Nat.eq_of_beq_eq_true z)), cond_false]
      by_cases h2 : j < n
      · rw [if_pos h2, if_pos (by omega)]
      · rw [if_neg h2, if_neg (by omega)]
def xr_kd (t : ArrayType) : Option Nat := match t with
  | .int => some 0
  | .byte => some 1
  | .long => some 2
  | _ => none
abbrev xr_U : Type := List xr_En × xr_L × List Value × List xr_C × Nat × Nat
def xr_wu (o : Option xr_S) (w : List xr_C) (dc ds : Nat) : Option xr_U := match o with
  | some q => some (q.1, q.2.1, q.2.2, w, dc, ds)
  | none => none
theorem xr_wu_ok {o : Option xr_S} {w w' : List xr_C} {dc ds dc' ds' : Nat} {r : List xr_En} {l : xr_L} {st : List Value} (h : xr_wu o w dc ds = some (r, l, st, w', dc', ds')) : o = some (r, l, st) ∧ w = w' ∧ dc = dc' ∧ ds = ds' := by
  unfold xr_wu at h
  split at h
  · cases h; exact ⟨rfl, rfl, rfl, rfl⟩
  · cases h
def xr_al (b : Bool) (r : List xr_En) (pc len : Nat) (aux : List Nat) (l : xr_L) (st : List Value) (w : List xr_C) (i : Instr) : Option xr_U := bif b then (match i with
  | .new _ => match aux with
    | ci :: _ => bif Nat.ble ci 12 then xr_wu (xr_seq r pc len 3 l (.ref w.length :: st)) (w ++ [.inl (ci, xr_nw ci)]) 1 (xr_nw ci).length else none
    | [] => none
  | .newarray t => match st, xr_kd t with
    | .int n :: st', some kd => bif !decide (n < 0) && Nat.ble n.toNatClampNeg 10000 then xr_wu (xr_seq r pc len 2 l (.ref w.length :: st')) (w ++ [.inr (kd, n.toNatClampNeg, [])]) 1 n.toNatClampNeg else none
    | _, _ => none
  | .multianewarray _ d => match st with
    | .int k :: .int n :: st' => bif Nat.beq d 2 && (!decide (n < 0) && (!decide (k < 0) && (Nat.ble n.toNatClampNeg 10000 && Nat.ble k.toNatClampNeg 10000))) then xr_wu (xr_seq r pc len 4 l (.ref w.length :: st')) (w ++ (.inr (3, n.toNatClampNeg, xr_refs (w.length + 1) n.toNatClampNeg) :: List.replicate n.toNatClampNeg (.inr (0, k.toNatClampNeg, [])))) (1 + n.toNatClampNeg) (n.toNatClampNeg + n.toNatClampNeg * k.toNatClampNeg) else none
    | _ => none
  | _ => none) else none
def xr_chn (own : String) (i : Instr) (aux : List Nat) : Bool := match i with
  | .new idx => match aux with
    | ci :: h1 :: h2 :: h3 :: _ => match vwCl[ci]? with
      | some q => xr_has h1 (.classLink own idx q.1) && (xr_has h2 (.instantiable q.1 q.2.2) && xr_has h3 (.initialized q.1))
      | none => false
    | _ => false
  | .newarray t => match aux with
    | h :: _ => xr_has h (.arrayClass (newarray.typeOf t))
    | [] => false
  | .multianewarray idx _ => match aux with
    | h1 :: h2 :: _ => xr_has h1 (.classLink own idx "[[I") && xr_has h2 (.arrayClass .int)
    | _ => false
  | _ => true
section XRA
variable {p : Program} {l : Launch} {e : Env} {R : Room} {s : State} {m : MethodId} {args : Array Value} {below : List Frame} {meth : Method} {c : Code} {H : Heap} {locs : List Loc} {ce sl : Nat} {Q : State → Prop}
variable {cc : ByteArray} {ep : Nat → Int32} {ba : Nat} {sg : Nat → Nat} {cy : Nat → ClassId} {D : va_G} {ls : Array Slot} {nL : Nat} {own : String}
theorem xr_up {g : JFrame} (k : H.size ≤ s.heap.size + ce → W p l e R s m args below meth c H locs ce sl Q g) : W p l e R s m args below meth c H locs ce sl Q g := fun T hT X => k (by rw [← hT]; exact X.heapSize) T hT X
theorem xr_nw_v (ci : Nat) : (xr_nw ci).map (xr_v ep ba sg) = xr_nw ci := by
  unfold xr_nw
  split <;> rfl
theorem xr_I_push {w v : List xr_C} {b : Bool} {dc : Nat} {H1 : Heap} (hI : xr_I D ep ba sg cy s w b ce H locs) (hz : H.size = ba + w.length) (z1 : H1.size = ba + w.length + v.length) (hdc : dc = v.length) (o1 : ∀ q, q < H.size → H1[q]? = H[q]?) (hv : ∀ (k : Nat) (x : xr_C), v[k]? = some x → va_at D vwCl (ba + (w.length + k), xr_e ep ba sg cy x) H1) : xr_I D ep ba sg cy s (w ++ v) b (ce + dc) H1 locs := by
  obtain ⟨hP, hS, hge, hsz⟩ := hI
  refine ⟨?_, ?_, ?_, ?_⟩
  · rw [xr_w_app]
    refine va_P.app (hP.kept (fun k x hx => o1 x.1 ((hP k x hx).lt))) (fun k x hx => ?_)
    rw [xr_w_get] at hx
    cases hk : v[k]? with
    | none => rw [hk] at hx; cases hx
    | some y =>
      rw [hk] at hx
      cases hx
      rw [Nat.zero_add]
      exact hv k y hk
  · exact ⟨Nat.le_trans hS.1 (by omega), fun q h1 h2 => (o1 q (Nat.lt_of_lt_of_le h1 hS.1)).trans (hS.2.1 q h1 h2), hS.2.2⟩
  · rw [List.length_append]; omega
  · intro hb
    have := hsz hb
    rw [List.length_append]; omega
/-- what is owed behind an instruction that makes cells -/
abbrev xr_KA (p : Program) (l : Launch) (e : Env) (R : Room) (s : State) (m : MethodId) (args : Array Value) (below : List Frame) (meth : Method) (c : Code) (Q : State → Prop) (D : va_G) (ep : Nat → Int32) (ba : Nat) (sg : Nat → Nat) (cy : Nat → ClassId) (nL : Nat) (r' : List xr_En) (l' : xr_L) (st' : List Value) (w' : List xr_C) (b : Bool) (ce sl : Nat) : Prop :=
  ∀ (H' : Heap) (locs' : List Loc) (ls' : Array Slot), xr_I D ep ba sg cy s w' b ce H' locs' → lv_has ls' nL (xr_lv ep ba sg l') → W p l e R s m args below meth c H' locs' ce sl Q (F0 m (xr_pc r') ls' (xr_sv ep ba sg st'))
set_option maxHeartbeats 4000000 in
theorem xr_al_ok {b : Bool} {r r' : List xr_En} {pc len : Nat} {aux : List Nat} {lv l' : xr_L} {st st' : List Value} {w w' : List xr_C} {dc ds : Nat} {i : Instr} (h : xr_al b r pc len aux lv st w i = some (r', l', st', w', dc, ds)) (hx : p.tables.exec = Jvm.exec) (hb : c.code = cc) (hd : decode cc pc = .ok (i, len)) (hown : s.vm.findClass own = some m.cls) (hts : ∀ w ∈ xr_tb, w.before args s = true) (hK : va_K D vwCl (xr_ty cy) s) (hI : xr_I D ep ba sg cy s w b ce H locs) (hover : (Cond.arrayOver (.array .int)).before args s = true) (hc : xr_chn own i aux = true) (hR : ce + dc ≤ R.cells ∧ sl + ds ≤ R.slots) (hl : lv_has ls nL (xr_lv ep ba sg lv))
    (k : xr_KA p l e R s m args below meth c Q D ep ba sg cy nL r' l' st' w' b (ce + dc) (sl + ds)) : W p l e R s m args below meth c H locs ce sl Q (F0 m pc ls (xr_sv ep ba sg st)) := by
  unfold xr_al at h
  cases b with
  | false => cases h
  | true =>
    simp only [cond_true] at h
    refine xr_up (fun hup => ?_)
    have hsz : H.size = ba + w.length := by
      have h1 := hI.2.2.1
      have h2 := hI.2.2.2 rfl
      omega
    have hP := hI.1
    cases i
    case new idx =>
      simp only [xr_chn] at hc
      split at hc
      · rename_i ci h1 h2 h3 u
        cases hq : vwCl[ci]? with
        | none => rw [hq] at hc; cases hc
        | some q =>
          obtain ⟨C, T, N⟩ := q
          rw [hq] at hc
          simp only [Bool.and_eq_true] at hc
          simp only at h
          cases h12 : Nat.ble ci 12 with
          | false => rw [h12] at h; cases h
          | true =>
          rw [h12] at h
          obtain ⟨hq9, rfl, rfl, rfl⟩ := xr_wu_ok h
          obtain ⟨rfl, hpc, rfl, rfl, -⟩ := xr_seq_ok hq9
          obtain ⟨hty, hnm, hin, hdf, hlen⟩ := xr_cls hq
          have hKn := hK.1 ci _ hq
          refine W.newcK (h := ba + w.length) hx hb hown (hts _ (xr_has_ok hc.1)) (hts _ (xr_has_ok hc.2.1)) (hts _ (xr_has_ok hc.2.2)) rfl hd hR.1 (by rw [← hlen]; exact hR.2) hKn.2.1 hsz (fun H1 kC hkC e1 z1 o1 => ?_)
          have k := k H1 locs ls (xr_I_push (v := [.inl (ci, xr_nw ci)]) hI hsz z1 rfl (fun q hq => o1 q (by omega)) (fun j x hx => by
            have hj : j < 1 := (List.getElem?_eq_some_iff.mp hx).1
            rw [show j = 0 by omega] at hx
            cases hx
            refine ⟨_, hq, ?_⟩
            rw [show ba + (w.length + j) = ba + w.length by omega]
            refine (u_born (xr_ft ci) hts hin hKn hkC e1 hty).to ?_
            intro j hj
            rw [xr_nw_v]
            exact hdf j hj)) hl
          rw [hpc, hlen] at k
          exact k
      · cases hc
    case newarray t =>
      simp only [xr_chn] at hc
      split at hc
      · rename_i hh u
        simp only at h
        split at h
        · rename_i n st1 kd hkd
          cases hg : (!decide (n < 0) && Nat.ble n.toNatClampNeg 10000) with
          | false => rw [hg] at h; cases h
          | true =>
            rw [hg] at h
            simp only [Bool.and_eq_true, Bool.not_eq_true', decide_eq_false_iff_not] at hg
            have hle : n.toNatClampNeg ≤ 10000 := Nat.le_of_ble_eq_true hg.2
            obtain ⟨hq9, rfl, rfl, rfl⟩ := xr_wu_ok h
            obtain ⟨rfl, hpc, rfl, rfl, -⟩ := xr_seq_ok hq9
            have harr := hts _ (xr_has_ok hc)
            have main : ∀ (H1 : Heap), H1[ba + w.length]? = some (vp_cell (cy kd) (xr_A ep ba sg kd n.toNatClampNeg [])) → H1.size = ba + w.length + 1 → (∀ q, q < ba + w.length → H1[q]? = H[q]?) → W p l e R s m args below meth c H1 locs (ce + 1) (sl + n.toNatClampNeg) Q (F0 m (pc + 2) ls (.ref (ba + w.length) :: xr_sv ep ba sg st1)) := by
              intro H1 e1 z1 o1
              have k := k H1 locs ls (xr_I_push (v := [.inr (kd, n.toNatClampNeg, [])]) hI hsz z1 rfl (fun q hq => o1 q (by omega)) (fun j x hx => by
                have hj : j < 1 := (List.getElem?_eq_some_iff.mp hx).1
                rw [show j = 0 by omega] at hx
                cases hx
                rw [show ba + (w.length + j) = ba + w.length by omega]
                exact e1)) hl
              rw [hpc] at k
              exact k
            cases t <;> simp only [xr_kd, Option.some.injEq, reduceCtorEq] at hkd
            · subst hkd
              refine va_newaK (g := F0 m pc ls (.int n :: xr_sv ep ba sg st1)) (h := ba + w.length) hx hb harr rfl hd rfl hg.1 rfl (by simp only [newarray.typeOf, componentBytes]; omega) hR.1 hR.2 hsz (fun H1 cA e1 z1 o1 _ hnm => ?_)
              have hcy : s.vm.findClass ("[" ++ (FieldType.byte).toString) = some (cy 1) := (hK.2 1 _ rfl).2
              cases Option.some.inj (hnm.symm.trans hcy)
              exact main H1 e1 z1 o1
            · subst hkd
              refine va_newaK (g := F0 m pc ls (.int n :: xr_sv ep ba sg st1)) (h := ba + w.length) hx hb harr rfl hd rfl hg.1 rfl (by simp only [newarray.typeOf, componentBytes]; omega) hR.1 hR.2 hsz (fun H1 cA e1 z1 o1 _ hnm => ?_)
              have hcy : s.vm.findClass ("[" ++ (FieldType.int).toString) = some (cy 0) := (hK.2 0 _ rfl).2
              cases Option.some.inj (hnm.symm.trans hcy)
              exact main H1 e1 z1 o1
            · subst hkd
              refine va_newaK (g := F0 m pc ls (.int n :: xr_sv ep ba sg st1)) (h := ba + w.length) hx hb harr rfl hd rfl hg.1 rfl (by simp only [newarray.typeOf, componentBytes]; omega) hR.1 hR.2 hsz (fun H1 cA e1 z1 o1 _ hnm => ?_)
              have hcy : s.vm.findClass ("[" ++ (FieldType.long).toString) = some (cy 2) := (hK.2 2 _ rfl).2
              cases Option.some.inj (hnm.symm.trans hcy)
              exact main H1 e1 z1 o1
        · cases h
      · cases hc
    case multianewarray idx d =>
      simp only [xr_chn] at hc
      split at hc
      · rename_i h1 h2 u
        simp only [Bool.and_eq_true] at hc
        simp only at h
        split at h
        · rename_i kk n st1
          cases hg : (Nat.beq d 2 && (!decide (n < 0) && (!decide (kk < 0) && (Nat.ble n.toNatClampNeg 10000 && Nat.ble kk.toNatClampNeg 10000)))) with
          | false => rw [hg] at h; cases h
          | true =>
            rw [hg] at h
            simp only [Bool.and_eq_true, Bool.not_eq_true', decide_eq_false_iff_not] at hg
            obtain ⟨hd2, hn0, hk0, hn1, hk1⟩ := hg
            have hd2 := Nat.eq_of_beq_eq_true hd2
            subst hd2
            have hn1 : n.toNatClampNeg ≤ 10000 := Nat.le_of_ble_eq_true hn1
            have hk1 : kk.toNatClampNeg ≤ 10000 := Nat.le_of_ble_eq_true hk1
            obtain ⟨hq9, rfl, rfl, rfl⟩ := xr_wu_ok h
            obtain ⟨rfl, hpc, rfl, rfl, -⟩ := xr_seq_ok hq9
            intro T hT Xs
            obtain ⟨vm₁, cA, comp, -, fA, fC, hO, -, X', step⟩ := Xs.multianewarray2F hx hown (show (Cond.classLink own idx ("[" ++ (FieldType.array .int).toString)).before args s = true from hts _ (xr_has_ok hc.1)) hover (hts _ (xr_has_ok hc.2)) (g := F0 m pc ls (.int kk :: .int n :: xr_sv ep ba sg st1)) rfl (by rw [hb]; exact hd) rfl hn0 hk0 (by omega) (by simp only [componentBytes]; omega) (by omega) (by decide) (by decide) (by omega) (by omega)
            have hcy0 : s.vm.findClass ("[" ++ (FieldType.int).toString) = some (cy 0) := (hK.2 0 _ rfl).2
            have hcy3 : s.vm.findClass ("[" ++ (FieldType.array .int).toString) = some (cy 3) := (hK.2 3 _ rfl).2
            cases Option.some.inj (fA.symm.trans hcy3)
            cases Option.some.inj (fC.symm.trans hcy0)
            generalize hF : Jvm.Free.Multi.fill (T.setVm vm₁) (cy 3) (cy 0) n.toNatClampNeg kk.toNatClampNeg (defaultValue .int) n.toNatClampNeg = F at X' step
            have hTh : (T.setVm vm₁).heap = H := hT
            obtain ⟨f1, f2, -, -⟩ := Jvm.Free.Multi.fill_facts (T.setVm vm₁) (cy 3) (cy 0) n.toNatClampNeg kk.toNatClampNeg (defaultValue .int) n.toNatClampNeg
            rw [hF, hTh] at f1 f2
            have hold : ∀ x : Nat, x < H.size → F.heap[x]? = H[x]? := fun x hx => by
              have := Jvm.Free.Multi.fill_old (T.setVm vm₁) (cy 3) (cy 0) n.toNatClampNeg kk.toNatClampNeg (defaultValue .int) (a := x) (by rw [hTh]; exact hx) n.toNatClampNeg
              rw [hF, hTh] at this
              exact this
            have hrow : ∀ j : Nat, j < n.toNatClampNeg → F.heap[H.size + 1 + j]? = some (Jvm.Free.Multi.innerC (cy 0) kk.toNatClampNeg (defaultValue .int)) := fun j hj => by
              have := Jvm.Free.Multi.fill_inner (T.setVm vm₁) (cy 3) (cy 0) n.toNatClampNeg kk.toNatClampNeg (defaultValue .int) n.toNatClampNeg j hj
              rw [hF, hTh] at this
              exact this
            rw [vr_outer] at f2
            have k := k F.heap locs ls (xr_I_push (v := .inr (3, n.toNatClampNeg, xr_refs (w.length + 1) n.toNatClampNeg) :: List.replicate n.toNatClampNeg (.inr (0, kk.toNatClampNeg, []))) hI hsz (by rw [f1, hsz]; simp; omega) (by simp; omega) hold (fun j x hx => by
              cases j with
              | zero =>
                cases hx
                show F.heap[ba + (w.length + 0)]? = some (arrV (cy 3) n.toNatClampNeg (fun j => va_rf (xr_r (xr_v ep ba sg (xr_at (xr_refs (w.length + 1) n.toNatClampNeg) j .null)))))
                rw [show ba + (w.length + 0) = H.size by omega, f2]
                congr 2
                funext j
                rw [xr_refs_at]
                by_cases hj : j < n.toNatClampNeg
                · rw [if_pos hj, if_pos hj, hsz]
                  show va_rf (some (ba + w.length + 1 + j)) = va_rf (some (ba + (w.length + 1 + j)))
                  congr 2
                  omega
                · rw [if_neg hj, if_neg hj]
                  rfl
              | succ j =>
                rw [List.getElem?_cons_succ] at hx
                have hj : j < n.toNatClampNeg := by
                  have := (List.getElem?_eq_some_iff.mp hx).1
                  simpa using this
                have hx2 : x = .inr (0, kk.toNatClampNeg, []) := by
                  rw [List.getElem?_replicate, if_pos hj] at hx
                  exact (Option.some.inj hx).symm
                subst hx2
                show F.heap[ba + (w.length + (j + 1))]? = some (arrV (cy 0) kk.toNatClampNeg (fun _ => .int 0))
                rw [show ba + (w.length + (j + 1)) = H.size + 1 + j by omega, hrow j hj, ← arrV_new]
                rfl)) hl
            rw [hpc] at k
            have X'' : Stand p l e R s m args below meth c F locs (ce + (1 + n.toNatClampNeg)) (sl + (n.toNatClampNeg + n.toNatClampNeg * kk.toNatClampNeg)) := by
              rw [← Nat.add_assoc, ← Nat.add_assoc]
              exact X'
            obtain ⟨t, a1, b1⟩ := k F rfl X''
            refine ⟨t, step t ?_, b1⟩
            have e9 : T.heap.size = ba + w.length := by rw [hT]; exact hsz
            rw [e9]
            exact a1
        · cases h
      · cases hc
    all_goals exact absurd (show (none : Option xr_U) = some _ from h) (fun z => by cases z)
end XRA
