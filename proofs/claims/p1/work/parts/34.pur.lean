/-! runs that touch no world: one run serves every world -/
abbrev xp_Ih : Type := List xr_En → xr_L → List Value → Option (Option Value)
def xp_g (ih : xp_Ih) (o : Option xr_S) : Option (Option Value) := match o with
  | some q => ih q.1 q.2.1 q.2.2
  | none => none
def xp_e (M : xr_M) (e : xr_En) (st : List Value) : Option (Option Value) := match xr_rt M.2.2.2.1 e.2.1 st with
  | some rv => bif Nat.beq e.2.2.1 1 then some rv else none
  | none => none
def xp_st (df : xr_D) (fx : xr_F) (M : xr_M) (ih : xp_Ih) (rem : List xr_En) (l : xr_L) (st : List Value) : Option (Option Value) := match rem with
  | [] => none
  | e :: r => match e.2.2.2.2 with
    | 0 => xp_g ih (xr_pA r e.1 e.2.2.1 l st e.2.1)
    | 1 => xp_g ih (xr_pB df M.2.2.1 r e.1 e.2.2.1 l st e.2.1)
    | 2 => xp_g ih (xr_pC r e.1 e.2.2.1 l st e.2.1)
    | 3 => xp_g ih (xr_pD df r e.1 e.2.2.1 l st e.2.1)
    | 4 => xp_g ih (xr_pE fx M.2.2.2.2.2.2 r e.1 e.2.2.1 e.2.2.2.1 l st e.2.1)
    | 8 => xp_e M e st
    | 9 => xp_g ih (xr_pure df fx M.2.2.1 M.2.2.2.2.2.2 r e.1 e.2.2.1 e.2.2.2.1 l st e.2.1)
    | _ => none
def xp_lp (K : xp_Ih) (df : xr_D) (fx : xr_F) (M : xr_M) (n : Nat) : xp_Ih := Nat.rec K (fun _ ih => xp_st df fx M ih) n
theorem xp_g_ok {ih : xp_Ih} {ih' : xr_Ih} {w : List xr_C} {b : Bool} {ce sl : Nat} {o : Option xr_S} {rv : Option Value} (hi : ∀ r l st, ih r l st = some rv → ih' r l st w b ce sl = some (.inl rv, w, b, ce, sl)) (h : xp_g ih o = some rv) : xr_g3 ih' w b ce sl o = some (.inl rv, w, b, ce, sl) := by
  cases o with
  | none => cases h
  | some q => exact hi _ _ _ h
theorem xp_st_ok {df : xr_D} {fx : xr_F} {scr : Option (List Value)} {mt : List xr_M} {d : Nat} {callf : Nat → List Value → List xr_C → Bool → Option xr_Out} {M : xr_M} {ih : xp_Ih} {ih' : xr_Ih} {rem : List xr_En} {l : xr_L} {st : List Value} {w : List xr_C} {b : Bool} {ce sl : Nat} {rv : Option Value} (hi : ∀ r l st, ih r l st = some rv → ih' r l st w b ce sl = some (.inl rv, w, b, ce, sl)) (h : xp_st df fx M ih rem l st = some rv) : xr_st df fx scr mt d callf M ih' rem l st w b ce sl = some (.inl rv, w, b, ce, sl) := by
  cases rem with
  | nil => cases h
  | cons e r =>
    unfold xp_st at h
    unfold xr_st
    simp only at h ⊢
    split at h
    · rename_i hk; simp only [hk]; exact xp_g_ok hi h
    · rename_i hk; simp only [hk]; exact xp_g_ok hi h
    · rename_i hk; simp only [hk]; exact xp_g_ok hi h
    · rename_i hk; simp only [hk]; exact xp_g_ok hi h
    · rename_i hk; simp only [hk]; exact xp_g_ok hi h
    · rename_i hk
      simp only [hk]
      unfold xp_e at h
      unfold xr_ge
      cases hr : xr_rt M.2.2.2.1 e.2.1 st with
      | none => rw [hr] at h; cases h
      | some v =>
        rw [hr] at h
        simp only at h ⊢
        cases hb : Nat.beq e.2.2.1 1 with
        | false => rw [hb] at h; cases h
        | true => rw [hb] at h; cases h; rfl
    · rename_i hk; simp only [hk]; exact xp_g_ok hi h
    · cases h
theorem xp_lp_ok {df : xr_D} {fx : xr_F} {scr : Option (List Value)} {mt : List xr_M} {d : Nat} {callf : Nat → List Value → List xr_C → Bool → Option xr_Out} {M : xr_M} {w : List xr_C} {b : Bool} {ce sl : Nat} {rv : Option Value} {K : xp_Ih} {K' : xr_Ih} (hK : ∀ r l st, K r l st = some rv → K' r l st w b ce sl = some (.inl rv, w, b, ce, sl)) : ∀ (n : Nat) (rem : List xr_En) (l : xr_L) (st : List Value), xp_lp K df fx M n rem l st = some rv → xr_lp K' df fx scr mt d callf M n rem l st w b ce sl = some (.inl rv, w, b, ce, sl)
  | 0, rem, l, st, h => hK rem l st h
  | n + 1, rem, l, st, h => xp_st_ok (ih := xp_lp K df fx M n) (ih' := xr_lp K' df fx scr mt d callf M n) (fun r l st h => xp_lp_ok hK n r l st h) h
theorem xp_add {K : xp_Ih} {df : xr_D} {fx : xr_F} {M : xr_M} (m : Nat) : ∀ n : Nat, xp_lp K df fx M (m + n) = xp_lp (xp_lp K df fx M m) df fx M n
  | 0 => rfl
  | n + 1 => by
    show xp_st df fx M (xp_lp K df fx M (m + n)) = xp_st df fx M (xp_lp (xp_lp K df fx M m) df fx M n)
    rw [xp_add m n]
abbrev xp_K0 : xp_Ih := fun _ _ _ => none
/-- a place where the run is cut -/
def xp_Kc (pc0 : Nat) (l0 : xr_L) : xp_Ih := fun rem l st => bif Nat.beq (xr_pc rem) pc0 && (xr_ql l l0 && xr_qs st []) then some none else none
def xp_isN (o : Option (Option Value)) : Bool := match o with
  | some none => true
  | _ => false
def xp_isL (o : Option (Option Value)) : Bool := match o with
  | some (some v) => xr_qv v (.long 0)
  | _ => false
