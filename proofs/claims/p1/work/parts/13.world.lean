/-! the tables' words, by their places; the world's cells -/
def xr_tb : List Cond := lw_tbl.filter goodWord
def xr_has (h : Nat) (w : Cond) : Bool := decide (lw_tbl[h]? = some w) && goodWord w
theorem xr_has_ok {h : Nat} {w : Cond} (q : xr_has h w = true) : w ∈ xr_tb := by
  simp only [xr_has, Bool.and_eq_true, decide_eq_true_eq] at q
  exact List.mem_filter.mpr ⟨List.mem_of_getElem? q.1, q.2⟩
theorem xr_tb_good {w : Cond} (h : w ∈ xr_tb) : w ∈ xr_tb ∧ ((w.onTables && w.keeps) = true ∨ ∃ ty, w = .arrayClass ty) := ⟨h, good_of_word (List.mem_filter.mp h).2⟩
def xr_hasAll : List Cond → List Nat → Bool
  | [], _ => true
  | w :: t, h :: u => xr_has h w && xr_hasAll t u
  | _ :: _, [] => false
theorem xr_hasAll_ok : ∀ {ws : List Cond} {hs : List Nat}, xr_hasAll ws hs = true → ∀ w ∈ ws, w ∈ xr_tb
  | [], _, _, w, h => by cases h
  | a :: t, [], q, w, h => by simp [xr_hasAll] at q
  | a :: t, b :: u, q, w, h => by
    simp only [xr_hasAll, Bool.and_eq_true] at q
    rcases List.mem_cons.mp h with rfl | h
    · exact xr_has_ok q.1
    · exact xr_hasAll_ok q.2 w h
abbrev xr_ty (cy : Nat → ClassId) : List (ClassId × FieldType) := [(cy 0, .int), (cy 1, .byte), (cy 2, .long), (cy 3, .array .int)]
def xr_ft (ci : Nat) : Nat → FieldType := match ci with
  | 0 => tyX0
  | 1 => tyX1
  | 2 => tyX2
  | 3 => tyX3
  | 4 => tyX4
  | 5 => tyX5
  | 6 => tyX6
  | 7 => tyX7
  | 8 => tyX8
  | 9 => tyX9
  | 10 => tyX10
  | 11 => tyX11
  | _ => tyX12
def xr_nw (ci : Nat) : List Value := match ci with
  | 0 => [.int 0, .int 0, .int 0, .null, .null]
  | 1 => [.int 0, .null, .null, .int 0, .null, .null]
  | 2 => [.null, .int 0, .null, .int 0, .null, .int 0]
  | 3 => [.int 0, .int 0, .int 0, .int 0, .int 0, .int 0, .int 0, .long 0, .null, .null, .null, .null, .null, .null, .null, .null]
  | 4 => [.int 0, .int 0, .int 0, .int 0, .null, .null, .int 0, .int 0, .int 0, .null, .null, .null, .int 0, .null, .null, .null, .null, .null]
  | 5 => [.null, .null, .int 0, .null, .null]
  | 6 => [.null, .null, .null, .null, .int 0, .int 0]
  | 7 => [.int 0, .int 0, .int 0, .int 0, .null, .null, .null, .null, .null, .null, .null, .null, .int 0, .int 0, .int 0]
  | 8 => [.null, .int 0, .int 0, .int 0, .int 0, .int 0, .int 0, .int 0, .int 0]
  | 9 => [.int 0, .int 0, .int 0, .null, .null, .null, .null, .int 0]
  | 10 => [.null, .null, .null, .null]
  | 11 => [.null, .null, .null, .null, .null, .null, .null, .null, .null, .null, .null, .null, .int 0, .int 0, .int 0]
  | _ => [.int 0, .int 0, .int 0, .int 0, .int 0, .int 0, .int 0, .int 0, .int 0, .null, .null, .null, .null, .null, .null, .null, .null, .null, .null, .null, .int 0, .int 0, .null, .null, .null, .null, .null, .null, .null, .int 0, .null, .null, .null, .null, .int 0, .int 0, .int 0, .int 0, .int 0, .null, .int 0, .int 0, .null, .null, .null, .int 0, .int 0, .int 0, .int 0]
theorem xr_in0 : ∀ w ∈ u_ws RX0 TX0 5, w ∈ xr_tb := xr_hasAll_ok (hs := [477, 479, 481, 483, 485]) (by decide +kernel)
theorem xr_in1 : ∀ w ∈ u_ws RX1 TX1 6, w ∈ xr_tb := xr_hasAll_ok (hs := [385, 387, 389, 391, 393, 395]) (by decide +kernel)
theorem xr_in2 : ∀ w ∈ u_ws RX2 TX2 6, w ∈ xr_tb := xr_hasAll_ok (hs := [356, 358, 360, 362, 364, 366]) (by decide +kernel)
theorem xr_in3 : ∀ w ∈ u_ws RX3 TX3 16, w ∈ xr_tb := xr_hasAll_ok (hs := [545, 547, 549, 551, 553, 555, 557, 559, 561, 563, 565, 567, 569, 571, 573, 575]) (by decide +kernel)
theorem xr_in4 : ∀ w ∈ u_ws RX4 TX4 18, w ∈ xr_tb := xr_hasAll_ok (hs := [426, 428, 430, 432, 434, 436, 438, 440, 442, 444, 446, 448, 450, 452, 454, 456, 458, 460]) (by decide +kernel)
theorem xr_in5 : ∀ w ∈ u_ws RX5 TX5 5, w ∈ xr_tb := xr_hasAll_ok (hs := [759, 761, 763, 765, 767]) (by decide +kernel)
theorem xr_in6 : ∀ w ∈ u_ws RX6 TX6 6, w ∈ xr_tb := xr_hasAll_ok (hs := [211, 213, 215, 217, 219, 221]) (by decide +kernel)
theorem xr_in7 : ∀ w ∈ u_ws RX7 TX7 15, w ∈ xr_tb := xr_hasAll_ok (hs := [311, 313, 315, 317, 319, 321, 323, 325, 327, 329, 331, 333, 335, 337, 339]) (by decide +kernel)
theorem xr_in8 : ∀ w ∈ u_ws RX8 TX8 9, w ∈ xr_tb := xr_hasAll_ok (hs := [179, 181, 183, 185, 187, 189, 191, 193, 195]) (by decide +kernel)
theorem xr_in9 : ∀ w ∈ u_ws RX9 TX9 8, w ∈ xr_tb := xr_hasAll_ok (hs := [269, 271, 273, 275, 277, 279, 281, 283]) (by decide +kernel)
theorem xr_in10 : ∀ w ∈ u_ws RX10 TX10 4, w ∈ xr_tb := xr_hasAll_ok (hs := [243, 245, 247, 249]) (by decide +kernel)
theorem xr_in11 : ∀ w ∈ u_ws RX11 TX11 15, w ∈ xr_tb := xr_hasAll_ok (hs := [622, 624, 626, 628, 630, 632, 634, 636, 638, 640, 642, 644, 646, 648, 650]) (by decide +kernel)
theorem xr_in12 : ∀ w ∈ u_ws RX12 TX12 49, w ∈ xr_tb := xr_hasAll_ok (hs := [1677, 1679, 1681, 1683, 1685, 1687, 1689, 1691, 1693, 1695, 1697, 1699, 1701, 1703, 1705, 1707, 1709, 1711, 1713, 1715, 1717, 1719, 1721, 1723, 1725, 1727, 1729, 1731, 1733, 1735, 1737, 1739, 1741, 1743, 1745, 1747, 1749, 1751, 1753, 1755, 1757, 1759, 1761, 1763, 1765, 1767, 1769, 1771, 1773]) (by decide +kernel)
theorem xr_cls {ci : Nat} {C : String} {T : u_T} {N : Nat} (h : vwCl[ci]? = some (C, T, N)) : (∀ k, k < N → parseFieldDescriptor (T k).2.2.1 = some (xr_ft ci k)) ∧ (∀ a, a < N → ∀ b, b < N → a ≠ b → (T a).2.1 ≠ (T b).2.1) ∧ (∀ w ∈ u_ws C T N, w ∈ xr_tb) ∧ (∀ j, j < N → defaultValue (xr_ft ci j) = vp_V (xr_nw ci) j) ∧ (xr_nw ci).length = N := by
  match ci, h with
  | 0, h => cases h; exact ⟨tyX0_ok, nmX0, xr_in0, by decide +kernel, rfl⟩
  | 1, h => cases h; exact ⟨tyX1_ok, nmX1, xr_in1, by decide +kernel, rfl⟩
  | 2, h => cases h; exact ⟨tyX2_ok, nmX2, xr_in2, by decide +kernel, rfl⟩
  | 3, h => cases h; exact ⟨tyX3_ok, nmX3, xr_in3, by decide +kernel, rfl⟩
  | 4, h => cases h; exact ⟨tyX4_ok, nmX4, xr_in4, by decide +kernel, rfl⟩
  | 5, h => cases h; exact ⟨tyX5_ok, nmX5, xr_in5, by decide +kernel, rfl⟩
  | 6, h => cases h; exact ⟨tyX6_ok, nmX6, xr_in6, by decide +kernel, rfl⟩
  | 7, h => cases h; exact ⟨tyX7_ok, nmX7, xr_in7, by decide +kernel, rfl⟩
  | 8, h => cases h; exact ⟨tyX8_ok, nmX8, xr_in8, by decide +kernel, rfl⟩
  | 9, h => cases h; exact ⟨tyX9_ok, nmX9, xr_in9, by decide +kernel, rfl⟩
  | 10, h => cases h; exact ⟨tyX10_ok, nmX10, xr_in10, by decide +kernel, rfl⟩
  | 11, h => cases h; exact ⟨tyX11_ok, nmX11, xr_in11, by decide +kernel, rfl⟩
  | 12, h => cases h; exact ⟨tyX12_ok, nmX12, xr_in12, by decide +kernel, rfl⟩
  | ci + 13, h => simp [vwCl] at h
section XRW
variable {ep : Nat → Int32} {ba : Nat} {sg : Nat → Nat} {cy : Nat → ClassId}
theorem xr_w_get : ∀ (w : List xr_C) (k0 i : Nat), (xr_w ep ba sg cy k0 w)[i]? = (w[i]?).map (fun c => (ba + (k0 + i), xr_e ep ba sg cy c))
  | [], k0, i => by simp [xr_w]
  | c :: t, k0, 0 => by simp [xr_w]
  | c :: t, k0, i + 1 => by
    show (xr_w ep ba sg cy (k0 + 1) t)[i]? = _
    rw [xr_w_get t (k0 + 1) i, show k0 + 1 + i = k0 + (i + 1) by omega]
    simp
theorem xr_w_at {w : List xr_C} {i : Nat} {c : xr_C} (h : w[i]? = some c) : (xr_w ep ba sg cy 0 w)[i]? = some (ba + i, xr_e ep ba sg cy c) := by
  rw [xr_w_get, h, Nat.zero_add]
  rfl
theorem xr_w_set : ∀ (w : List xr_C) (k0 i : Nat) (c : xr_C), (xr_w ep ba sg cy k0 w).set i (ba + (k0 + i), xr_e ep ba sg cy c) = xr_w ep ba sg cy k0 (w.set i c)
  | [], k0, i, c => by simp [xr_w]
  | a :: t, k0, 0, c => by simp [xr_w]
  | a :: t, k0, i + 1, c => by
    show _ :: (xr_w ep ba sg cy (k0 + 1) t).set i (ba + (k0 + (i + 1)), _) = _ :: xr_w ep ba sg cy (k0 + 1) (t.set i c)
    rw [← xr_w_set t (k0 + 1) i c, show k0 + 1 + i = k0 + (i + 1) by omega]
theorem xr_w_app : ∀ (w v : List xr_C) (k0 : Nat), xr_w ep ba sg cy k0 (w ++ v) = xr_w ep ba sg cy k0 w ++ xr_w ep ba sg cy (k0 + w.length) v
  | [], v, k0 => by simp [xr_w]
  | a :: t, v, k0 => by
    show _ :: xr_w ep ba sg cy (k0 + 1) (t ++ v) = _ :: (xr_w ep ba sg cy (k0 + 1) t ++ _)
    rw [xr_w_app t v (k0 + 1), show k0 + 1 + t.length = k0 + (a :: t).length by simp; omega]
theorem xr_w_D (w : List xr_C) : va_D (fun q => ba ≤ q) (xr_w ep ba sg cy 0 w) := by
  have key : ∀ (i : Nat) (q : Nat × va_E), (xr_w ep ba sg cy 0 w)[i]? = some q → q.1 = ba + i := by
    intro i q h
    rw [xr_w_get] at h
    cases hw : w[i]? with
    | none => rw [hw] at h; cases h
    | some c => rw [hw] at h; cases h; show ba + (0 + i) = ba + i; omega
  refine ⟨fun i j p q h1 h2 e => ?_, fun k q h => ?_⟩
  · rw [key i p h1, key j q h2] at e
    omega
  · show ba ≤ q.1
    rw [key k q h]
    omega
end XRW
