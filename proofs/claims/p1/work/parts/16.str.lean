/-! the String constants of the law's text: what is known of them at every place -/
def xr_sts : List (Nat × String × Nat) := [(94, "least", 5), (109, "soil", 4), (111, "rest", 4), (113, "same", 4), (115, "loud", 4), (117, "price", 5), (119, "near", 4), (121, "year", 4), (123, "hail", 4), (125, "field", 5), (104, "most", 4)]
def xw_S (A : Nat → Prop) (q n : Nat) (s : State) : Prop := va_O "java/lang/String" q A s s.heap ∧ va_OF "java/lang/String" "coder" "B" (.int 0) q A s s.heap ∧ ∃ (v : Nat) (f : Nat → Value), va_OF "java/lang/String" "value" "[B" (.ref v) q A s s.heap ∧ va_T .byte v n f A s s.heap
def xw_Z (ba : Nat) (sg : Nat → Nat) (s : State) : Prop := va_Z "java/lang/String" "COMPACT_STRINGS" "Z" (.int 1) (fun q => ba ≤ q) s s.heap ∧ ∀ (j : Nat) (q : Nat × String × Nat), xr_sts[j]? = some q → vk_R "NoiseFields$Law" q.1 q.2.1 (sg (j + 4)) s ∧ xw_S (fun q => ba ≤ q) (sg (j + 4)) q.2.2 s
theorem xw_S_go {A : Nat → Prop} {q n : Nat} {s U : State} (hal : s.vm.Alike U.vm) (hk : ∀ a : Nat, a < s.heap.size → ¬ A a → U.heap[a]? = s.heap[a]?) (h : xw_S A q n s) : xw_S A q n U := by
  obtain ⟨h1, h2, v, f, h3, h4⟩ := h
  exact ⟨(h1.kept hk).moved hal, (h2.kept hk).moved hal, v, f, (h3.kept hk).moved hal, (h4.kept hk).moved hal⟩
theorem xw_Z_go {ba : Nat} {sg : Nat → Nat} {s U : State} {locs : List Loc} (h : xw_Z ba sg s) (hW : s.WarmedH U.vm) (hS : va_S (fun q => ba ≤ q) s.heap U.heap locs) : xw_Z ba sg U :=
  ⟨(h.1.kept hS.2.1).moved hW.alike, fun j q hq => ⟨vk_R.warm hW (h.2 j q hq).1, xw_S_go hW.alike hS.2.1 (h.2 j q hq).2⟩⟩
/-- a row of which the length alone is known -/
theorem xw_Tof {args : Array Value} {s : State} {tm : Term} {ty : FieldType} {N : Nat} {A : Nat → Prop} (hN : N < 2 ^ 31) (harr : (Cond.arrayOf tm ty).before args s = true) (hlen : (Term.length tm).eval args s none [] s = some (.int (Int32.ofNat N))) (hel : ∀ j : Nat, j < N → ∃ v : Value, (Term.elem tm (.int (Int32.ofNat j))).eval args s none [] s = some v) (hA : ∀ a : Nat, a < s.heap.size → ¬ A a) : ∃ (t : Nat) (f : Nat → Value), tm.eval args s none [] s = some (.ref t) ∧ va_T ty t N f A s s.heap := by
  have h0 : ∀ j : Nat, ∃ v : Value, j < N → (Term.elem tm (.int (Int32.ofNat j))).eval args s none [] s = some v := by
    intro j
    by_cases hj : j < N
    · obtain ⟨v, hv⟩ := hel j hj
      exact ⟨v, fun _ => hv⟩
    · exact ⟨.null, fun h => absurd h hj⟩
  obtain ⟨f, hf⟩ := Classical.axiomOfChoice h0
  obtain ⟨t, h1, h2⟩ := va_Tof (f := f) hN harr hlen hf hA
  exact ⟨t, f, h1, h2⟩
/-- a String constant, by what the Statement gives of it -/
theorem xw_Sof {args : Array Value} {s : State} {tm : Term} {n : Nat} {A : Nat → Prop} (hN : n < 2 ^ 31) (hex : (Cond.exactly tm "java/lang/String").before args s = true) (hco : (Cond.eq (.field tm "java/lang/String" "coder" "B") (.int 0)).before args s = true) (har : (Cond.arrayOf (.field tm "java/lang/String" "value" "[B") .byte).before args s = true) (hle : (Cond.eq (.length (.field tm "java/lang/String" "value" "[B")) (.int (Int32.ofNat n))).before args s = true) (hel : ∀ j : Nat, j < n → ∃ v : Value, (Term.elem (.field tm "java/lang/String" "value" "[B") (.int (Int32.ofNat j))).eval args s none [] s = some v) (hA : ∀ a : Nat, a < s.heap.size → ¬ A a) : ∃ q : Nat, tm.eval args s none [] s = some (.ref q) ∧ xw_S A q n s := by
  obtain ⟨a, c, cA, kA, q1, q2, q3, q4, q5, q6, -⟩ := Cond.exactly_spec (args := args) (first := s) (o := none) (s := s) (idx := []) (t := tm) (cls := "java/lang/String") hex
  obtain ⟨t, f, ht, hT⟩ := xw_Tof (A := A) hN har (va_eqt hle) hel hA
  exact ⟨a, q1, ⟨cA, q3, q5, by rw [q6]; exact q2, hA a (Array.getElem?_eq_some_iff.mp q3).1⟩, vk_OFof q1 (va_eqt hco) hA, t, f, vk_OFof q1 ht hA, hT⟩
