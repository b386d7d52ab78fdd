/-! one call's tree of facts: what is chosen, what follows, that nothing is left out -/
def xr_go (df : xr_D) (fx : xr_F) (sm : Nat → Nat → List Value → List xr_C → Bool → Option xr_Out) (scr : List Value) : Bool := xr_one (xr_lp xr_K0 df fx (some scr) xr_mt 20 (xr_R df fx sm xr_mt 100000 20) xm_law 400 (xm_law.2.2.2.2.2.2.drop 13) xr_l0 [] xr_W0 true 528 27593)
def xr_iv (ep : Nat → Int32) (v : Value) : Int32 := match v with
  | .int x => x
  | .retAddr n => ep n
  | _ => 0
theorem xr_iv_ok {ep : Nat → Int32} {ba : Nat} {sg : Nat → Nat} {v : Value} (h : xr_isI v = true) : xr_v ep ba sg v = .int (xr_iv ep v) := by
  cases v <;> first | rfl | (simp [xr_isI] at h)
def xr_ext : xr_D → (Nat → Int32) → Nat → Int32
  | [], ep => ep
  | d :: t, ep => match d.2.2.2 with
    | .retAddr n => xr_ext t (fun k => bif Nat.beq k n then xr_op d.1 (xr_iv ep d.2.1) (xr_iv ep d.2.2.1) else ep k)
    | _ => xr_ext t ep
def xr_lt (b : Nat) (v : Value) : Bool := match v with
  | .int _ => true
  | .retAddr n => Nat.blt n b
  | _ => false
def xr_ssa : Nat → xr_D → Bool
  | _, [] => true
  | b, d :: t => xr_lt b d.2.1 && (xr_lt b d.2.2.1 && (match d.2.2.2 with
    | .retAddr n => Nat.ble b n && xr_ssa (n + 1) t
    | _ => false))
theorem xr_ext_old : ∀ {df : xr_D} {b : Nat} {ep : Nat → Int32} {k : Nat}, xr_ssa b df = true → k < b → xr_ext df ep k = ep k
  | [], _, _, _, _, _ => rfl
  | d :: t, b, ep, k, h, hk => by
    simp only [xr_ssa, Bool.and_eq_true] at h
    obtain ⟨-, -, h⟩ := h
    unfold xr_ext
    split at h
    · rename_i n hn
      simp only [Bool.and_eq_true] at h
      have hb := Nat.le_of_ble_eq_true h.1
      simp only [hn]
      rw [xr_ext_old h.2 (by omega)]
      have : Nat.beq k n = false := Bool.eq_false_iff.mpr (fun z => by have := Nat.eq_of_beq_eq_true z; omega)
      rw [this, cond_false]
    · cases h
theorem xr_lt_iv {ep ep' : Nat → Int32} {b : Nat} {v : Value} (h : xr_lt b v = true) (he : ∀ k, k < b → ep k = ep' k) : xr_iv ep v = xr_iv ep' v := by
  cases v <;> first | rfl | (exact he _ (Nat.le_of_ble_eq_true h)) | (simp [xr_lt] at h)
theorem xr_lt_I {b : Nat} {v : Value} (h : xr_lt b v = true) : xr_isI v = true := by
  cases v <;> first | rfl | (simp [xr_lt] at h)
theorem xr_ext_ok {ba : Nat} {sg : Nat → Nat} : ∀ {df : xr_D} {b : Nat} {ep : Nat → Int32}, xr_ssa b df = true → xr_okD (xr_ext df ep) ba sg df
  | [], _, _, _ => fun d h => by cases h
  | d :: t, b, ep, h => by
    simp only [xr_ssa, Bool.and_eq_true] at h
    obtain ⟨h1, h2, h⟩ := h
    split at h
    · rename_i n hn
      simp only [Bool.and_eq_true] at h
      have hb := Nat.le_of_ble_eq_true h.1
      have e0 : xr_ext (d :: t) ep = xr_ext t (fun k => bif Nat.beq k n then xr_op d.1 (xr_iv ep d.2.1) (xr_iv ep d.2.2.1) else ep k) := by
        rw [xr_ext]
        simp only [hn]
      intro q hq
      rw [e0]
      rcases List.mem_cons.mp hq with rfl | hq
      · have old : ∀ k, k < b → xr_ext t (fun k => bif Nat.beq k n then xr_op q.1 (xr_iv ep q.2.1) (xr_iv ep q.2.2.1) else ep k) k = ep k := by
          intro k hk
          rw [xr_ext_old h.2 (by omega)]
          have : Nat.beq k n = false := Bool.eq_false_iff.mpr (fun z => by have := Nat.eq_of_beq_eq_true z; omega)
          rw [this, cond_false]
        refine ⟨_, _, xr_iv_ok (xr_lt_I h1), xr_iv_ok (xr_lt_I h2), ?_⟩
        rw [hn, xr_lt_iv h1 old, xr_lt_iv h2 old]
        show Value.int _ = _
        rw [xr_ext_old h.2 (Nat.lt_succ_self n), show Nat.beq n n = true from Nat.beq_refl n, cond_true]
      · exact xr_ext_ok h.2 q hq
    · cases h
def xr_T (ep : Nat → Int32) (d : Nat × Value × Value × Bool) : Prop := d.2.2.2 = xr_cm d.1 (xr_iv ep d.2.1) (xr_iv ep d.2.2.1)
def xr_same (d e : Nat × Value × Value × Bool) : Bool := Nat.beq e.1 d.1 && (xr_qv e.2.1 d.2.1 && xr_qv e.2.2.1 d.2.2.1)
def xr_sel (d : Nat × Value × Value × Bool) (v : Bool) : List xr_F → List xr_F
  | [] => []
  | [] :: r => [] :: xr_sel d v r
  | (e :: t) :: r => bif xr_same d e then (bif e.2.2.2 == v then t :: xr_sel d v r else xr_sel d v r) else (e :: t) :: xr_sel d v r
def xr_cv : Nat → List xr_F → Bool
  | 0, _ => false
  | n + 1, ps => match ps with
    | [] => false
    | [] :: _ => true
    | (d :: t) :: r => xr_cv n (xr_sel d true ((d :: t) :: r)) && xr_cv n (xr_sel d false ((d :: t) :: r))
theorem xr_sel_ok {ep : Nat → Int32} {d : Nat × Value × Value × Bool} : ∀ {ps : List xr_F} {p : xr_F}, p ∈ xr_sel d (xr_cm d.1 (xr_iv ep d.2.1) (xr_iv ep d.2.2.1)) ps → (∀ e ∈ p, xr_T ep e) → ∃ q ∈ ps, ∀ e ∈ q, xr_T ep e
  | [], p, h, _ => by cases h
  | [] :: r, p, h, hp => ⟨[], List.mem_cons_self, fun e he => by cases he⟩
  | (e :: t) :: r, p, h, hp => by
    have up : (∃ q ∈ r, ∀ e ∈ q, xr_T ep e) → ∃ q ∈ (e :: t) :: r, ∀ e ∈ q, xr_T ep e := fun ⟨q, h1, h2⟩ => ⟨q, List.mem_cons_of_mem _ h1, h2⟩
    unfold xr_sel at h
    cases hs : xr_same d e with
    | false =>
      rw [hs, cond_false] at h
      rcases List.mem_cons.mp h with rfl | h
      · exact ⟨_, List.mem_cons_self, hp⟩
      · exact up (xr_sel_ok h hp)
    | true =>
      rw [hs, cond_true] at h
      cases hv : (e.2.2.2 == xr_cm d.1 (xr_iv ep d.2.1) (xr_iv ep d.2.2.1)) with
      | false =>
        rw [hv, cond_false] at h
        exact up (xr_sel_ok h hp)
      | true =>
        rw [hv, cond_true] at h
        rcases List.mem_cons.mp h with rfl | h
        · refine ⟨_, List.mem_cons_self, fun z hz => ?_⟩
          rcases List.mem_cons.mp hz with rfl | hz
          · simp only [xr_same, Bool.and_eq_true] at hs
            obtain ⟨h1, h2, h3⟩ := hs
            unfold xr_T
            rw [Nat.eq_of_beq_eq_true h1, xr_qv_ok h2, xr_qv_ok h3]
            exact eq_of_beq hv
          · exact hp z hz
        · exact up (xr_sel_ok h hp)
theorem xr_cv_ok {ep : Nat → Int32} : ∀ {n : Nat} {ps : List xr_F}, xr_cv n ps = true → ∃ p ∈ ps, ∀ e ∈ p, xr_T ep e
  | 0, _, h => by cases h
  | n + 1, ps, h => by
    unfold xr_cv at h
    split at h
    · cases h
    · exact ⟨[], List.mem_cons_self, fun e he => by cases he⟩
    · rename_i d t r
      simp only [Bool.and_eq_true] at h
      cases hv : xr_cm d.1 (xr_iv ep d.2.1) (xr_iv ep d.2.2.1) with
      | true =>
        obtain ⟨p, hp, hq⟩ := xr_cv_ok (ep := ep) h.1
        exact xr_sel_ok (d := d) (by rw [hv]; exact hp) hq
      | false =>
        obtain ⟨p, hp, hq⟩ := xr_cv_ok (ep := ep) h.2
        exact xr_sel_ok (d := d) (by rw [hv]; exact hp) hq
-- what follows by bounds
def xr_lou (x : Value) (r : Int) (d : Nat × Value × Value × Bool) : Int := match d with
  | (1, .int a, y, true) => bif xr_qv y x then max r (a.toInt + 1) else r
  | (1, y, .int a, false) => bif xr_qv y x then max r a.toInt else r
  | (0, y, .int a, true) => bif xr_qv y x then max r a.toInt else r
  | (0, y, .int a, false) => bif xr_qv y x && decide (r = a.toInt) then r + 1 else r
  | _ => r
def xr_hiu (x : Value) (r : Int) (d : Nat × Value × Value × Bool) : Int := match d with
  | (1, .int a, y, false) => bif xr_qv y x then min r a.toInt else r
  | (1, y, .int a, true) => bif xr_qv y x then min r (a.toInt - 1) else r
  | (0, y, .int a, true) => bif xr_qv y x then min r a.toInt else r
  | (0, y, .int a, false) => bif xr_qv y x && decide (r = a.toInt) then r - 1 else r
  | _ => r
def xr_lo (x : Value) : Int → xr_F → Int
  | r, [] => r
  | r, d :: t => xr_lo x (xr_lou x r d) t
def xr_hi (x : Value) : Int → xr_F → Int
  | r, [] => r
  | r, d :: t => xr_hi x (xr_hiu x r d) t
theorem xr_T1 {ep : Nat → Int32} {x y : Value} {b : Bool} (h : xr_T ep (1, x, y, b)) : (b = true → (xr_iv ep x).toInt < (xr_iv ep y).toInt) ∧ (b = false → (xr_iv ep y).toInt ≤ (xr_iv ep x).toInt) := by
  have h : b = decide (xr_iv ep x < xr_iv ep y) := h
  constructor
  · intro hb
    rw [hb] at h
    exact Int32.lt_iff_toInt_lt.mp (of_decide_eq_true h.symm)
  · intro hb
    rw [hb] at h
    have h1 := of_decide_eq_false h.symm
    have h2 : ¬ (xr_iv ep x).toInt < (xr_iv ep y).toInt := fun q => h1 (Int32.lt_iff_toInt_lt.mpr q)
    omega
theorem xr_T0 {ep : Nat → Int32} {x y : Value} {b : Bool} (h : xr_T ep (0, x, y, b)) : (b = true → (xr_iv ep x).toInt = (xr_iv ep y).toInt) ∧ (b = false → (xr_iv ep x).toInt ≠ (xr_iv ep y).toInt) := by
  have h : b = decide (xr_iv ep x = xr_iv ep y) := h
  constructor
  · intro hb
    rw [hb] at h
    rw [of_decide_eq_true h.symm]
  · intro hb
    rw [hb] at h
    have h1 := of_decide_eq_false h.symm
    exact fun q => h1 (Int32.toInt_inj.mp q)
theorem xr_lou_ok {ep : Nat → Int32} {x : Value} {r : Int} {d : Nat × Value × Value × Bool} (h : r ≤ (xr_iv ep x).toInt) (hd : xr_T ep d) : xr_lou x r d ≤ (xr_iv ep x).toInt := by
  unfold xr_lou
  split
  · rename_i a y
    cases hq : xr_qv y x with
    | false => exact h
    | true =>
      have e := xr_qv_ok hq
      subst e
      have := (xr_T1 hd).1 rfl
      simp only [cond_true]
      have e2 : (xr_iv ep (.int a)) = a := rfl
      rw [e2] at this
      omega
  · rename_i y a _
    cases hq : xr_qv y x with
    | false => exact h
    | true =>
      have e := xr_qv_ok hq
      subst e
      have := (xr_T1 hd).2 rfl
      simp only [cond_true]
      have e2 : (xr_iv ep (.int a)) = a := rfl
      rw [e2] at this
      omega
  · rename_i y a
    cases hq : xr_qv y x with
    | false => exact h
    | true =>
      have e := xr_qv_ok hq
      subst e
      have := (xr_T0 hd).1 rfl
      simp only [cond_true]
      have e2 : (xr_iv ep (.int a)) = a := rfl
      rw [e2] at this
      omega
  · rename_i y a
    cases hq : (xr_qv y x && decide (r = a.toInt)) with
    | false => exact h
    | true =>
      simp only [Bool.and_eq_true, decide_eq_true_eq] at hq
      have e := xr_qv_ok hq.1
      subst e
      have := (xr_T0 hd).2 rfl
      simp only [cond_true]
      have e2 : (xr_iv ep (.int a)) = a := rfl
      rw [e2] at this
      omega
  · exact h
theorem xr_hiu_ok {ep : Nat → Int32} {x : Value} {r : Int} {d : Nat × Value × Value × Bool} (h : (xr_iv ep x).toInt ≤ r) (hd : xr_T ep d) : (xr_iv ep x).toInt ≤ xr_hiu x r d := by
  unfold xr_hiu
  split
  · rename_i a y
    cases hq : xr_qv y x with
    | false => exact h
    | true =>
      have e := xr_qv_ok hq
      subst e
      have := (xr_T1 hd).2 rfl
      simp only [cond_true]
      have e2 : (xr_iv ep (.int a)) = a := rfl
      rw [e2] at this
      omega
  · rename_i y a _
    cases hq : xr_qv y x with
    | false => exact h
    | true =>
      have e := xr_qv_ok hq
      subst e
      have := (xr_T1 hd).1 rfl
      simp only [cond_true]
      have e2 : (xr_iv ep (.int a)) = a := rfl
      rw [e2] at this
      omega
  · rename_i y a
    cases hq : xr_qv y x with
    | false => exact h
    | true =>
      have e := xr_qv_ok hq
      subst e
      have := (xr_T0 hd).1 rfl
      simp only [cond_true]
      have e2 : (xr_iv ep (.int a)) = a := rfl
      rw [e2] at this
      omega
  · rename_i y a
    cases hq : (xr_qv y x && decide (r = a.toInt)) with
    | false => exact h
    | true =>
      simp only [Bool.and_eq_true, decide_eq_true_eq] at hq
      have e := xr_qv_ok hq.1
      subst e
      have := (xr_T0 hd).2 rfl
      simp only [cond_true]
      have e2 : (xr_iv ep (.int a)) = a := rfl
      rw [e2] at this
      omega
  · exact h
theorem xr_lo_ok {ep : Nat → Int32} {x : Value} : ∀ {p : xr_F} {r : Int}, r ≤ (xr_iv ep x).toInt → (∀ e ∈ p, xr_T ep e) → xr_lo x r p ≤ (xr_iv ep x).toInt
  | [], r, h, _ => h
  | d :: t, r, h, hp => xr_lo_ok (p := t) (xr_lou_ok h (hp d List.mem_cons_self)) (fun e he => hp e (List.mem_cons_of_mem _ he))
theorem xr_hi_ok {ep : Nat → Int32} {x : Value} : ∀ {p : xr_F} {r : Int}, (xr_iv ep x).toInt ≤ r → (∀ e ∈ p, xr_T ep e) → (xr_iv ep x).toInt ≤ xr_hi x r p
  | [], r, h, _ => h
  | d :: t, r, h, hp => xr_hi_ok (p := t) (xr_hiu_ok h (hp d List.mem_cons_self)) (fun e he => hp e (List.mem_cons_of_mem _ he))
abbrev xr_m0' : Int := -2147483648
abbrev xr_m1' : Int := 2147483647
def xr_imp (p : xr_F) (d : Nat × Value × Value × Bool) : Bool := match d with
  | (1, .int a, y, true) => decide (a.toInt < xr_lo y xr_m0' p)
  | (1, .int a, y, false) => decide (xr_hi y xr_m1' p ≤ a.toInt)
  | (1, y, .int a, true) => decide (xr_hi y xr_m1' p < a.toInt)
  | (1, y, .int a, false) => decide (a.toInt ≤ xr_lo y xr_m0' p)
  | (0, y, .int a, false) => decide (a.toInt < xr_lo y xr_m0' p) || decide (xr_hi y xr_m1' p < a.toInt)
  | (0, y, .int a, true) => decide (xr_lo y xr_m0' p = a.toInt) && decide (xr_hi y xr_m1' p = a.toInt)
  | _ => false
theorem xr_imp_ok {ep : Nat → Int32} {p : xr_F} {d : Nat × Value × Value × Bool} (hp : ∀ e ∈ p, xr_T ep e) (h : xr_imp p d = true) : xr_T ep d := by
  have lo : ∀ y, xr_lo y xr_m0' p ≤ (xr_iv ep y).toInt := fun y => xr_lo_ok (Int32.le_toInt _) hp
  have hi : ∀ y, (xr_iv ep y).toInt ≤ xr_hi y xr_m1' p := fun y => xr_hi_ok (by have := Int32.toInt_lt (xr_iv ep y); unfold xr_m1'; omega) hp
  have lt : ∀ (x y : Value), (xr_iv ep x).toInt < (xr_iv ep y).toInt → xr_T ep (1, x, y, true) := fun x y q => (decide_eq_true (Int32.lt_iff_toInt_lt.mpr q)).symm
  have nl : ∀ (x y : Value), (xr_iv ep y).toInt ≤ (xr_iv ep x).toInt → xr_T ep (1, x, y, false) := fun x y q => (decide_eq_false (fun z => by have := Int32.lt_iff_toInt_lt.mp z; omega)).symm
  unfold xr_imp at h
  split at h
  · rename_i a y
    have h := of_decide_eq_true h
    have := lo y
    exact lt _ _ (show a.toInt < _ by omega)
  · rename_i a y
    have h := of_decide_eq_true h
    have := hi y
    exact nl _ _ (show _ ≤ a.toInt by omega)
  · rename_i y a _
    have h := of_decide_eq_true h
    have := hi y
    exact lt _ _ (show _ < a.toInt by omega)
  · rename_i y a _
    have h := of_decide_eq_true h
    have := lo y
    exact nl _ _ (show a.toInt ≤ _ by omega)
  · rename_i y a
    simp only [Bool.or_eq_true, decide_eq_true_eq] at h
    have h1 := lo y
    have h2 := hi y
    refine (decide_eq_false (fun z => ?_)).symm
    have z : (xr_iv ep y).toInt = a.toInt := congrArg Int32.toInt z
    omega
  · rename_i y a
    simp only [Bool.and_eq_true, decide_eq_true_eq] at h
    have h1 := lo y
    have h2 := hi y
    refine (decide_eq_true (Int32.toInt_inj.mp ?_)).symm
    show _ = a.toInt
    omega
  · cases h
def xr_mem (d : Nat × Value × Value × Bool) : xr_F → Bool
  | [] => false
  | e :: t => (xr_same d e && (e.2.2.2 == d.2.2.2)) || xr_mem d t
theorem xr_mem_ok {d : Nat × Value × Value × Bool} : ∀ {p : xr_F}, xr_mem d p = true → d ∈ p
  | [], h => by cases h
  | e :: t, h => by
    simp only [xr_mem, Bool.or_eq_true, Bool.and_eq_true] at h
    rcases h with ⟨h, hb⟩ | h
    · simp only [xr_same, Bool.and_eq_true] at h
      have : e = d := Prod.ext (Nat.eq_of_beq_eq_true h.1) (Prod.ext (xr_qv_ok h.2.1) (Prod.ext (xr_qv_ok h.2.2) (eq_of_beq hb)))
      rw [this]
      exact List.mem_cons_self
    · exact List.mem_cons_of_mem _ (xr_mem_ok h)
def xr_clo (p fx : xr_F) : Bool := fx.all (fun d => xr_isI d.2.1 && (xr_isI d.2.2.1 && (xr_mem d p || xr_imp p d)))
theorem xr_clo_ok {ep : Nat → Int32} {ba : Nat} {sg : Nat → Nat} {p fx : xr_F} (hp : ∀ e ∈ p, xr_T ep e) (h : xr_clo p fx = true) : xr_okF ep ba sg fx := by
  intro d hd
  have h1 := List.all_eq_true.mp h d hd
  simp only [Bool.and_eq_true, Bool.or_eq_true] at h1
  obtain ⟨h1, h2, h3⟩ := h1
  refine ⟨_, _, xr_iv_ok h1, xr_iv_ok h2, ?_⟩
  rcases h3 with h3 | h3
  · exact hp d (xr_mem_ok h3)
  · exact xr_imp_ok hp h3
theorem xr_nat {x : Int32} {h : Nat} (h1 : 0 ≤ x.toInt) (h2 : x.toInt < (h : Int)) : ∃ n, n < h ∧ x = Int32.ofNat n := by
  refine ⟨x.toInt.toNat, by omega, ?_⟩
  apply Int32.toInt_inj.mp
  have := Int32.toInt_lt x
  rw [Int32.toInt_ofNat_of_lt (by omega)]
  omega
