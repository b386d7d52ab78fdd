/-! one call's tree of facts: what is chosen, what follows, that nothing is left out -/
def xt_go (df : xr_D) (fx : xr_F) (sm : Nat → Nat → List Value → List xr_C → Bool → Option xr_Out) (scr : List Value) : Bool := xr_one (xr_lp xr_K0 df fx (some scr) xr_mt 20 (xr_R df fx sm xr_mt 100000 20) xm_law 400 (xm_law.2.2.2.2.2.2.drop 13) xr_l0 [] xr_W0 true 528 27593)
def xt_iv (ep : Nat → Int32) (v : Value) : Int32 := match v with
  | .int x => x
  | .retAddr n => ep n
  | _ => 0
theorem xt_iv_ok {ep : Nat → Int32} {ba : Nat} {sg : Nat → Nat} {v : Value} (h : xr_isI v = true) : xr_v ep ba sg v = .int (xt_iv ep v) := by
  cases v <;> first | rfl | (simp [xr_isI] at h)
def xt_ext : xr_D → (Nat → Int32) → Nat → Int32
  | [], ep => ep
  | d :: t, ep => match d.2.2.2 with
    | .retAddr n => xt_ext t (fun k => bif Nat.beq k n then xr_op d.1 (xt_iv ep d.2.1) (xt_iv ep d.2.2.1) else ep k)
    | _ => xt_ext t ep
def xt_lt (b : Nat) (v : Value) : Bool := match v with
  | .int _ => true
  | .retAddr n => Nat.blt n b
  | _ => false
def xt_ssa : Nat → xr_D → Bool
  | _, [] => true
  | b, d :: t => xt_lt b d.2.1 && (xt_lt b d.2.2.1 && (match d.2.2.2 with
    | .retAddr n => Nat.ble b n && xt_ssa (n + 1) t
    | _ => false))
theorem xt_ext_old : ∀ {df : xr_D} {b : Nat} {ep : Nat → Int32} {k : Nat}, xt_ssa b df = true → k < b → xt_ext df ep k = ep k
  | [], _, _, _, _, _ => rfl
  | d :: t, b, ep, k, h, hk => by
    simp only [xt_ssa, Bool.and_eq_true] at h
    obtain ⟨-, -, h⟩ := h
    unfold xt_ext
    split at h
    · rename_i n hn
      simp only [Bool.and_eq_true] at h
      have hb := Nat.le_of_ble_eq_true h.1
      simp only [hn]
      rw [xt_ext_old h.2 (by omega)]
      have : Nat.beq k n = false := Bool.eq_false_iff.mpr (fun z => by have := Nat.eq_of_beq_eq_true z; omega)
      rw [this, cond_false]
    · cases h
theorem xt_lt_iv {ep ep' : Nat → Int32} {b : Nat} {v : Value} (h : xt_lt b v = true) (he : ∀ k, k < b → ep k = ep' k) : xt_iv ep v = xt_iv ep' v := by
  cases v <;> first | rfl | (exact he _ (Nat.le_of_ble_eq_true h)) | (simp [xt_lt] at h)
theorem xt_lt_I {b : Nat} {v : Value} (h : xt_lt b v = true) : xr_isI v = true := by
  cases v <;> first | rfl | (simp [xt_lt] at h)
theorem xt_ext_ok {ba : Nat} {sg : Nat → Nat} : ∀ {df : xr_D} {b : Nat} {ep : Nat → Int32}, xt_ssa b df = true → xr_okD (xt_ext df ep) ba sg df
  | [], _, _, _ => fun d h => by cases h
  | d :: t, b, ep, h => by
    simp only [xt_ssa, Bool.and_eq_true] at h
    obtain ⟨h1, h2, h⟩ := h
    split at h
    · rename_i n hn
      simp only [Bool.and_eq_true] at h
      have hb := Nat.le_of_ble_eq_true h.1
      have e0 : xt_ext (d :: t) ep = xt_ext t (fun k => bif Nat.beq k n then xr_op d.1 (xt_iv ep d.2.1) (xt_iv ep d.2.2.1) else ep k) := by
        rw [xt_ext]
        simp only [hn]
      intro q hq
      rw [e0]
      rcases List.mem_cons.mp hq with rfl | hq
      · have old : ∀ k, k < b → xt_ext t (fun k => bif Nat.beq k n then xr_op q.1 (xt_iv ep q.2.1) (xt_iv ep q.2.2.1) else ep k) k = ep k := by
          intro k hk
          rw [xt_ext_old h.2 (by omega)]
          have : Nat.beq k n = false := Bool.eq_false_iff.mpr (fun z => by have := Nat.eq_of_beq_eq_true z; omega)
          rw [this, cond_false]
        refine ⟨_, _, xt_iv_ok (xt_lt_I h1), xt_iv_ok (xt_lt_I h2), ?_⟩
        rw [hn, xt_lt_iv h1 old, xt_lt_iv h2 old]
        show Value.int _ = _
        rw [xt_ext_old h.2 (Nat.lt_succ_self n), show Nat.beq n n = true from Nat.beq_refl n, cond_true]
      · exact xt_ext_ok h.2 q hq
    · cases h
def xt_T (ep : Nat → Int32) (d : Nat × Value × Value × Bool) : Prop := d.2.2.2 = xr_cm d.1 (xt_iv ep d.2.1) (xt_iv ep d.2.2.1)
def xt_same (d e : Nat × Value × Value × Bool) : Bool := Nat.beq e.1 d.1 && (xr_qv e.2.1 d.2.1 && xr_qv e.2.2.1 d.2.2.1)
def xt_sel (d : Nat × Value × Value × Bool) (v : Bool) : List xr_F → List xr_F
  | [] => []
  | [] :: r => [] :: xt_sel d v r
  | (e :: t) :: r => bif xt_same d e then (bif e.2.2.2 == v then t :: xt_sel d v r else xt_sel d v r) else (e :: t) :: xt_sel d v r
def xt_cv : Nat → List xr_F → Bool
  | 0, _ => false
  | n + 1, ps => match ps with
    | [] => false
    | [] :: _ => true
    | (d :: t) :: r => xt_cv n (xt_sel d true ((d :: t) :: r)) && xt_cv n (xt_sel d false ((d :: t) :: r))
theorem xt_sel_ok {ep : Nat → Int32} {d : Nat × Value × Value × Bool} : ∀ {ps : List xr_F} {p : xr_F}, p ∈ xt_sel d (xr_cm d.1 (xt_iv ep d.2.1) (xt_iv ep d.2.2.1)) ps → (∀ e ∈ p, xt_T ep e) → ∃ q ∈ ps, ∀ e ∈ q, xt_T ep e
  | [], p, h, _ => by cases h
  | [] :: r, p, h, hp => ⟨[], List.mem_cons_self, fun e he => by cases he⟩
  | (e :: t) :: r, p, h, hp => by
    have up : (∃ q ∈ r, ∀ e ∈ q, xt_T ep e) → ∃ q ∈ (e :: t) :: r, ∀ e ∈ q, xt_T ep e := fun ⟨q, h1, h2⟩ => ⟨q, List.mem_cons_of_mem _ h1, h2⟩
    unfold xt_sel at h
    cases hs : xt_same d e with
    | false =>
      rw [hs, cond_false] at h
      rcases List.mem_cons.mp h with rfl | h
      · exact ⟨_, List.mem_cons_self, hp⟩
      · exact up (xt_sel_ok h hp)
    | true =>
      rw [hs, cond_true] at h
      cases hv : (e.2.2.2 == xr_cm d.1 (xt_iv ep d.2.1) (xt_iv ep d.2.2.1)) with
      | false =>
        rw [hv, cond_false] at h
        exact up (xt_sel_ok h hp)
      | true =>
        rw [hv, cond_true] at h
        rcases List.mem_cons.mp h with rfl | h
        · refine ⟨_, List.mem_cons_self, fun z hz => ?_⟩
          rcases List.mem_cons.mp hz with rfl | hz
          · simp only [xt_same, Bool.and_eq_true] at hs
            obtain ⟨h1, h2, h3⟩ := hs
            unfold xt_T
            rw [Nat.eq_of_beq_eq_true h1, xr_qv_ok h2, xr_qv_ok h3]
            exact eq_of_beq hv
          · exact hp z hz
        · exact up (xt_sel_ok h hp)
theorem xt_cv_ok {ep : Nat → Int32} : ∀ {n : Nat} {ps : List xr_F}, xt_cv n ps = true → ∃ p ∈ ps, ∀ e ∈ p, xt_T ep e
  | 0, _, h => by cases h
  | n + 1, ps, h => by
    unfold xt_cv at h
    split at h
    · cases h
    · exact ⟨[], List.mem_cons_self, fun e he => by cases he⟩
    · rename_i d t r
      simp only [Bool.and_eq_true] at h
      cases hv : xr_cm d.1 (xt_iv ep d.2.1) (xt_iv ep d.2.2.1) with
      | true =>
        obtain ⟨p, hp, hq⟩ := xt_cv_ok (ep := ep) h.1
        exact xt_sel_ok (d := d) (by rw [hv]; exact hp) hq
      | false =>
        obtain ⟨p, hp, hq⟩ := xt_cv_ok (ep := ep) h.2
        exact xt_sel_ok (d := d) (by rw [hv]; exact hp) hq
-- what follows by bounds
def xt_lou (x : Value) (r : Int) (d : Nat × Value × Value × Bool) : Int := match d with
  | (1, .int a, y, true) => bif xr_qv y x then max r (a.toInt + 1) else r
  | (1, y, .int a, false) => bif xr_qv y x then max r a.toInt else r
  | (0, y, .int a, true) => bif xr_qv y x then max r a.toInt else r
  | (0, y, .int a, false) => bif xr_qv y x && decide (r = a.toInt) then r + 1 else r
  | _ => r
def xt_hiu (x : Value) (r : Int) (d : Nat × Value × Value × Bool) : Int := match d with
  | (1, .int a, y, false) => bif xr_qv y x then min r a.toInt else r
  | (1, y, .int a, true) => bif xr_qv y x then min r (a.toInt - 1) else r
  | (0, y, .int a, true) => bif xr_qv y x then min r a.toInt else r
  | (0, y, .int a, false) => bif xr_qv y x && decide (r = a.toInt) then r - 1 else r
  | _ => r
def xt_lo (x : Value) : Int → xr_F → Int
  | r, [] => r
  | r, d :: t => xt_lo x (xt_lou x r d) t
def xt_hi (x : Value) : Int → xr_F → Int
  | r, [] => r
  | r, d :: t => xt_hi x (xt_hiu x r d) t
theorem xt_T1 {ep : Nat → Int32} {x y : Value} {b : Bool} (h : xt_T ep (1, x, y, b)) : (b = true → (xt_iv ep x).toInt < (xt_iv ep y).toInt) ∧ (b = false → (xt_iv ep y).toInt ≤ (xt_iv ep x).toInt) := by
  have h : b = decide (xt_iv ep x < xt_iv ep y) := h
  constructor
  · intro hb
    rw [hb] at h
    exact Int32.lt_iff_toInt_lt.mp (of_decide_eq_true h.symm)
  · intro hb
    rw [hb] at h
    have h1 := of_decide_eq_false h.symm
    have h2 : ¬ (xt_iv ep x).toInt < (xt_iv ep y).toInt := fun q => h1 (Int32.lt_iff_toInt_lt.mpr q)
    omega
theorem xt_T0 {ep : Nat → Int32} {x y : Value} {b : Bool} (h : xt_T ep (0, x, y, b)) : (b = true → (xt_iv ep x).toInt = (xt_iv ep y).toInt) ∧ (b = false → (xt_iv ep x).toInt ≠ (xt_iv ep y).toInt) := by
  have h : b = decide (xt_iv ep x = xt_iv ep y) := h
  constructor
  · intro hb
    rw [hb] at h
    rw [of_decide_eq_true h.symm]
  · intro hb
    rw [hb] at h
    have h1 := of_decide_eq_false h.symm
    exact fun q => h1 (Int32.toInt_inj.mp q)
theorem xt_lou_ok {ep : Nat → Int32} {x : Value} {r : Int} {d : Nat × Value × Value × Bool} (h : r ≤ (xt_iv ep x).toInt) (hd : xt_T ep d) : xt_lou x r d ≤ (xt_iv ep x).toInt := by
  unfold xt_lou
  split
  · rename_i a y
    cases hq : xr_qv y x with
    | false => exact h
    | true =>
      have e := xr_qv_ok hq
      subst e
      have := (xt_T1 hd).1 rfl
      simp only [cond_true]
      have e2 : (xt_iv ep (.int a)) = a := rfl
      rw [e2] at this
      omega
  · rename_i y a
    cases hq : xr_qv y x with
    | false => exact h
    | true =>
      have e := xr_qv_ok hq
      subst e
      have := (xt_T1 hd).2 rfl
      simp only [cond_true]
      have e2 : (xt_iv ep (.int a)) = a := rfl
      rw [e2] at this
      omega
  · rename_i y a
    cases hq : xr_qv y x with
    | false => exact h
    | true =>
      have e := xr_qv_ok hq
      subst e
      have := (xt_T0 hd).1 rfl
      simp only [cond_true]
      have e2 : (xt_iv ep (.int a)) = a := rfl
      rw [e2] at this
      omega
  · rename_i y a
    cases hq : (xr_qv y x && decide (r = a.toInt)) with
    | false => exact h
    | true =>
      simp only [Bool.and_eq_true, decide_eq_true_eq] at hq
      have e := xr_qv_ok hq.1
      subst e
      have := (xt_T0 hd).2 rfl
      simp only [cond_true]
      have e2 : (xt_iv ep (.int a)) = a := rfl
      rw [e2] at this
      omega
  · exact h
theorem xt_hiu_ok {ep : Nat → Int32} {x : Value} {r : Int} {d : Nat × Value × Value × Bool} (h : (xt_iv ep x).toInt ≤ r) (hd : xt_T ep d) : (xt_iv ep x).toInt ≤ xt_hiu x r d := by
  unfold xt_hiu
  split
  · rename_i a y
    cases hq : xr_qv y x with
    | false => exact h
    | true =>
      have e := xr_qv_ok hq
      subst e
      have := (xt_T1 hd).2 rfl
      simp only [cond_true]
      have e2 : (xt_iv ep (.int a)) = a := rfl
      rw [e2] at this
      omega
  · rename_i y a
    cases hq : xr_qv y x with
    | false => exact h
    | true =>
      have e := xr_qv_ok hq
      subst e
      have := (xt_T1 hd).1 rfl
      simp only [cond_true]
      have e2 : (xt_iv ep (.int a)) = a := rfl
      rw [e2] at this
      omega
  · rename_i y a
    cases hq : xr_qv y x with
    | false => exact h
    | true =>
      have e := xr_qv_ok hq
      subst e
      have := (xt_T0 hd).1 rfl
      simp only [cond_true]
      have e2 : (xt_iv ep (.int a)) = a := rfl
      rw [e2] at this
      omega
  · rename_i y a
    cases hq : (xr_qv y x && decide (r = a.toInt)) with
    | false => exact h
    | true =>
      simp only [Bool.and_eq_true, decide_eq_true_eq] at hq
      have e := xr_qv_ok hq.1
      subst e
      have := (xt_T0 hd).2 rfl
      simp only [cond_true]
      have e2 : (xt_iv ep (.int a)) = a := rfl
      rw [e2] at this
      omega
  · exact h
theorem xt_lo_ok {ep : Nat → Int32} {x : Value} : ∀ {p : xr_F} {r : Int}, r ≤ (xt_iv ep x).toInt → (∀ e ∈ p, xt_T ep e) → xt_lo x r p ≤ (xt_iv ep x).toInt
  | [], r, h, _ => h
  | d :: t, r, h, hp => xt_lo_ok (p := t) (xt_lou_ok h (hp d List.mem_cons_self)) (fun e he => hp e (List.mem_cons_of_mem _ he))
theorem xt_hi_ok {ep : Nat → Int32} {x : Value} : ∀ {p : xr_F} {r : Int}, (xt_iv ep x).toInt ≤ r → (∀ e ∈ p, xt_T ep e) → (xt_iv ep x).toInt ≤ xt_hi x r p
  | [], r, h, _ => h
  | d :: t, r, h, hp => xt_hi_ok (p := t) (xt_hiu_ok h (hp d List.mem_cons_self)) (fun e he => hp e (List.mem_cons_of_mem _ he))
abbrev xt_m0' : Int := -2147483648
abbrev xt_m1' : Int := 2147483647
def xt_imp (p : xr_F) (d : Nat × Value × Value × Bool) : Bool := match d with
  | (1, .int a, y, true) => decide (a.toInt < xt_lo y xt_m0' p)
  | (1, .int a, y, false) => decide (xt_hi y xt_m1' p ≤ a.toInt)
  | (1, y, .int a, true) => decide (xt_hi y xt_m1' p < a.toInt)
  | (1, y, .int a, false) => decide (a.toInt ≤ xt_lo y xt_m0' p)
  | (0, y, .int a, false) => decide (a.toInt < xt_lo y xt_m0' p) || decide (xt_hi y xt_m1' p < a.toInt)
  | (0, y, .int a, true) => decide (xt_lo y xt_m0' p = a.toInt) && decide (xt_hi y xt_m1' p = a.toInt)
  | _ => false
theorem xt_imp_ok {ep : Nat → Int32} {p : xr_F} {d : Nat × Value × Value × Bool} (hp : ∀ e ∈ p, xt_T ep e) (h : xt_imp p d = true) : xt_T ep d := by
  have lo : ∀ y, xt_lo y xt_m0' p ≤ (xt_iv ep y).toInt := fun y => xt_lo_ok (Int32.le_toInt _) hp
  have hi : ∀ y, (xt_iv ep y).toInt ≤ xt_hi y xt_m1' p := fun y => xt_hi_ok (by have := Int32.toInt_lt (xt_iv ep y); unfold xt_m1'; omega) hp
  have lt : ∀ (x y : Value), (xt_iv ep x).toInt < (xt_iv ep y).toInt → xt_T ep (1, x, y, true) := fun x y q => (decide_eq_true (Int32.lt_iff_toInt_lt.mpr q)).symm
  have nl : ∀ (x y : Value), (xt_iv ep y).toInt ≤ (xt_iv ep x).toInt → xt_T ep (1, x, y, false) := fun x y q => (decide_eq_false (fun (z : xt_iv ep x < xt_iv ep y) => by have := Int32.lt_iff_toInt_lt.mp z; omega)).symm
  unfold xt_imp at h
  split at h
  · rename_i a y
    have h := of_decide_eq_true h
    have := lo y
    exact lt _ _ (show a.toInt < _ by omega)
  · rename_i a y
    have h := of_decide_eq_true h
    have := hi y
    exact nl _ _ (show _ ≤ a.toInt by omega)
  · rename_i y a _
    have h := of_decide_eq_true h
    have := hi y
    exact lt _ _ (show _ < a.toInt by omega)
  · rename_i y a _
    have h := of_decide_eq_true h
    have := lo y
    exact nl _ _ (show a.toInt ≤ _ by omega)
  · rename_i y a
    simp only [Bool.or_eq_true, decide_eq_true_eq] at h
    have h1 := lo y
    have h2 := hi y
    refine (decide_eq_false (fun z => ?_)).symm
    have z : (xt_iv ep y).toInt = a.toInt := congrArg Int32.toInt z
    omega
  · rename_i y a
    simp only [Bool.and_eq_true, decide_eq_true_eq] at h
    have h1 := lo y
    have h2 := hi y
    refine (decide_eq_true (Int32.toInt_inj.mp ?_)).symm
    show (xt_iv ep y).toInt = a.toInt
    omega
  · cases h
def xt_mem (d : Nat × Value × Value × Bool) : xr_F → Bool
  | [] => false
  | e :: t => (xt_same d e && (e.2.2.2 == d.2.2.2)) || xt_mem d t
theorem xt_mem_ok {d : Nat × Value × Value × Bool} : ∀ {p : xr_F}, xt_mem d p = true → d ∈ p
  | [], h => by cases h
  | e :: t, h => by
    simp only [xt_mem, Bool.or_eq_true, Bool.and_eq_true] at h
    rcases h with ⟨h, hb⟩ | h
    · simp only [xt_same, Bool.and_eq_true] at h
      have : e = d := Prod.ext (Nat.eq_of_beq_eq_true h.1) (Prod.ext (xr_qv_ok h.2.1) (Prod.ext (xr_qv_ok h.2.2) (eq_of_beq hb)))
      rw [this]
      exact List.mem_cons_self
    · exact List.mem_cons_of_mem _ (xt_mem_ok h)
def xt_clo (p fx : xr_F) : Bool := fx.all (fun d => xr_isI d.2.1 && (xr_isI d.2.2.1 && (xt_mem d p || xt_imp p d)))
theorem xt_clo_ok {ep : Nat → Int32} {ba : Nat} {sg : Nat → Nat} {p fx : xr_F} (hp : ∀ e ∈ p, xt_T ep e) (h : xt_clo p fx = true) : xr_okF ep ba sg fx := by
  intro d hd
  have h1 := List.all_eq_true.mp h d hd
  simp only [Bool.and_eq_true, Bool.or_eq_true] at h1
  obtain ⟨h1, h2, h3⟩ := h1
  refine ⟨_, _, xt_iv_ok h1, xt_iv_ok h2, ?_⟩
  rcases h3 with h3 | h3
  · exact hp d (xt_mem_ok h3)
  · exact xt_imp_ok hp h3
theorem xt_nat {x : Int32} {h : Nat} (h1 : 0 ≤ x.toInt) (h2 : x.toInt < (h : Int)) : ∃ n, n < h ∧ x = Int32.ofNat n := by
  refine ⟨x.toInt.toNat, by omega, ?_⟩
  apply Int32.toInt_inj.mp
  have := Int32.toInt_lt x
  rw [Int32.toInt_ofNat_of_lt (by omega)]
  omega
