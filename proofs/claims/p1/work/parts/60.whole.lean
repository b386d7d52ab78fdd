/-! every script: which call it is -/
theorem xt_and (x : Int32) : ∃ k, k < 64 ∧ x &&& 63 = Int32.ofNat k := by
  refine ⟨(x &&& 63).toUInt32.toNat, ?_, ?_⟩
  · have h : (x &&& 63).toUInt32.toNat = x.toUInt32.toNat &&& 63 := rfl
    rw [h]
    have := Nat.and_le_right (n := x.toUInt32.toNat) (m := 63)
    omega
  · apply Int32.toBitVec_inj.mp
    simp [Int32.toBitVec_ofNat]
theorem whole_start {p : Program} {e : Env} {s : State} {m : MethodId} {below : List Frame} {meth : Method} {c : Code} (l : Launch) {b L : Nat} {xs : Nat → Int32} (hst : l.stackTraces = false) (hnm : meth.name = "law") (hTab : c.exceptionTable.toList = tableOf []) (hL : L ≤ 7) (C0 : lw_At p s m meth c b L xs) : W p l e room_1 s m #[Value.ref b] below meth c s.heap [] 0 0 (lw_Z below #[Value.ref b] s) (entryFrame m ([Value.ref b] : List Value).toArray 8) := by
  obtain ⟨D, cy, sg, hK, hX, hsg⟩ := xr_world C0
  have h : xt_Ctx p l s m meth c b L xs D cy sg := ⟨hst, hnm, hTab, C0, hK, hX, hsg, xk_all, xk_law⟩
  show xt_Goal p l e s m below meth c b
  rcases Nat.lt_or_ge L 7 with h7 | h7
  · exact xg_sh h h7
  · have e7 : L = 7 := by omega
    subst e7
    obtain ⟨k, hk, ek⟩ := xt_and (xs 0)
    rcases Nat.lt_or_ge k 35 with h35 | h35
    · have hc : k = 0 ∨ k = 1 ∨ k = 2 ∨ k = 3 ∨ k = 4 ∨ k = 5 ∨ k = 6 ∨ k = 7 ∨ k = 8 ∨ k = 9 ∨ k = 10 ∨ k = 11 ∨ k = 12 ∨ k = 13 ∨ k = 14 ∨ k = 15 ∨ k = 16 ∨ k = 17 ∨ k = 18 ∨ k = 19 ∨ k = 20 ∨ k = 21 ∨ k = 22 ∨ k = 23 ∨ k = 24 ∨ k = 25 ∨ k = 26 ∨ k = 27 ∨ k = 28 ∨ k = 29 ∨ k = 30 ∨ k = 31 ∨ k = 32 ∨ k = 33 ∨ k = 34 := by omega
      rcases hc with rfl | rfl | rfl | rfl | rfl | rfl | rfl | rfl | rfl | rfl | rfl | rfl | rfl | rfl | rfl | rfl | rfl | rfl | rfl | rfl | rfl | rfl | rfl | rfl | rfl | rfl | rfl | rfl | rfl | rfl | rfl | rfl | rfl | rfl | rfl
      · exact xg_0 h ek
      · exact xg_1 h ek
      · exact xg_2 h ek
      · exact xg_3 h ek
      · exact xg_4 h ek
      · exact xg_5 h ek
      · exact xg_6 h ek
      · exact xg_7 h ek
      · exact xg_8 h ek
      · exact xg_9 h ek
      · exact xg_10 h ek
      · exact xg_11 h ek
      · exact xg_12 h ek
      · exact xg_13 h ek
      · exact xg_14 h ek
      · exact xg_15 h ek
      · exact xg_16 h ek
      · exact xg_17 h ek
      · exact xg_18 h ek
      · exact xg_19 h ek
      · exact xg_20 h ek
      · exact xg_21 h ek
      · exact xg_22 h ek
      · exact xg_23 h ek
      · exact xg_24 h ek
      · exact xg_25 h ek
      · exact xg_26 h ek
      · exact xg_27 h ek
      · exact xg_28 h ek
      · exact xg_29 h ek
      · exact xg_30 h ek
      · exact xg_31 h ek
      · exact xg_32 h ek
      · exact xg_33 h ek
      · exact xg_34 h ek
    · exact xg_def h ek hk h35
