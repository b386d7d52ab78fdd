section XRG
set_option maxHeartbeats 4000000 in
theorem xr_pure_suf {df : xr_D} {fx : xr_F} {nL : Nat} {tab r r' : List xr_En} {pc len : Nat} {aux : List Nat} {lv l' : xr_L} {st st' : List Value} {i : Instr} (h : xr_pure df fx nL tab r pc len aux lv st i = some (r', l', st')) : xr_suf tab r r' := by
  cases i <;> simp only [xr_pure, xr_ld, xr_sto, xr_stl, xr_ar, xr_dv, xr_un, xr_br, xr_lo, xr_sw, xr_lk, Bool.cond_eq_ite, reduceCtorEq] at h <;> repeat' (first | (exact Or.inl (xr_seq_suf h)) | (exact xr_to_suf h) | (cases h; done) | split at h)
theorem xr_rd_suf {scr : Option (List Value)} {tab r r' : List xr_En} {pc len : Nat} {aux : List Nat} {lv l' : xr_L} {st st' : List Value} {w : List xr_C} {i : Instr} (h : xr_rd scr r pc len aux lv st w i = some (r', l', st')) : xr_suf tab r r' := by
  cases i <;> simp only [xr_rd, xr_rda, Bool.cond_eq_ite, reduceCtorEq] at h <;> repeat' (first | (exact Or.inl (xr_seq_suf h)) | (cases h; done) | split at h)
theorem xr_wt_suf {df : xr_D} {tab r r' : List xr_En} {pc len : Nat} {aux : List Nat} {lv l' : xr_L} {st st' : List Value} {w w' : List xr_C} {i : Instr} (h : xr_wt df r pc len aux lv st w i = some (r', l', st', w')) : xr_suf tab r r' := by
  cases i <;> simp only [xr_wt, xr_wta, Bool.cond_eq_ite, reduceCtorEq] at h <;> repeat' (first | (exact Or.inl (xr_seq_suf (xr_wr_ok h).1)) | (cases h; done) | split at h)
theorem xr_al_suf {b : Bool} {tab r r' : List xr_En} {pc len : Nat} {aux : List Nat} {lv l' : xr_L} {st st' : List Value} {w w' : List xr_C} {dc ds : Nat} {i : Instr} (h : xr_al b r pc len aux lv st w i = some (r', l', st', w', dc, ds)) : xr_suf tab r r' := by
  cases b with
  | false => simp [xr_al] at h
  | true => cases i <;> simp only [xr_al, Bool.cond_eq_ite, reduceCtorEq, if_true] at h <;> repeat' (first | (exact Or.inl (xr_seq_suf (xr_wu_ok h).1)) | (cases h; done) | split at h)
set_option maxHeartbeats 4000000 in
theorem xr_nt_suf {b : Bool} {tab r r' : List xr_En} {pc len : Nat} {aux : List Nat} {lv l' : xr_L} {st st' : List Value} {w w' : List xr_C} {dc ds : Nat} {i : Instr} (h : xr_nt b r pc len aux lv st w i = some (r', l', st', w', dc, ds)) : xr_suf tab r r' := by
  cases i <;> simp only [xr_nt, Bool.cond_eq_ite, reduceCtorEq] at h <;> repeat' (first | (exact Or.inl (xr_seq_suf (xr_wu_ok h).1)) | (cases h; done) | split at h)
end XRG
