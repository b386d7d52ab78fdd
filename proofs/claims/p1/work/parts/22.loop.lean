section XRC3
variable {p : Program} {l : Launch} {e : Env} {R : Room} {s : State} {m : MethodId} {args : Array Value} {below : List Frame} {meth : Method} {c : Code} {H : Heap} {locs : List Loc} {ce sl : Nat} {Q : State → Prop}
variable {cc : ByteArray} {ep : Nat → Int32} {ba : Nat} {sg : Nat → Nat} {cy : Nat → ClassId} {D : va_G} {ls : Array Slot} {nL : Nat} {own : String} {mt : List xr_M} {d : Nat}
set_option maxHeartbeats 4000000 in
/-- a call that throws -/
theorem xr_ca_thr {aux : List Nat} {st : List Value} {w : List xr_C} {b : Bool} {i : Instr} {a : Nat × List Value × List Value} {k0 : Nat} {w' : List xr_C} {b' : Bool} {dc ds pc : Nat} (hv : xr_isV i = true) (h : xr_ca mt aux st w i = some a) (hc : xr_chc mt own i aux = true) (hcon : xr_Con l D ep ba sg cy mt d a.1 a.2.1 w b (.inr k0, w', b', dc, ds)) (hx : p.tables.exec = Jvm.exec) (hb : c.code = cc) (hml : c.maxLocals = nL) (hown : s.vm.findClass own = some m.cls) (hts : ∀ w ∈ xr_tb, w.before args s = true) (hK : va_K D vwCl (xr_ty cy) s) (hX : xr_X ba sg s) (hd : decode cc pc = .ok (i, 3)) (hRf : d + 1 ≤ R.frames) (hRl : 150 * (d + 1) ≤ R.locals) (hR : ce + dc ≤ R.cells ∧ sl + ds ≤ R.slots) (hI : xr_I D ep ba sg cy s w b ce H locs) (hsz : ls.size = nL)
    (kk : ∀ (H' : Heap) (locs' : List Loc) (q : Addr) (cl : Cell), xr_I D ep ba sg cy s w' false (ce + dc) H' locs' → H'[q]? = some cl → cl.vm = .none → s.vm.findClass (xr_Ex k0) = some cl.cls → vx_W p l e R s m args below meth c H' locs' (ce + dc) (sl + ds) Q (F0 m pc ls (xr_sv ep ba sg a.2.2)) q) : W p l e R s m args below meth c H locs ce sl Q (F0 m pc ls (xr_sv ep ba sg st)) := by
  refine xr_up (fun hup => ?_)
  obtain ⟨hbb, hcon⟩ := hcon
  cases i
  case invokevirtual idx =>
    simp only [xr_ca, xr_nth_eq, xr_dr_eq] at h
    split at h
    · rename_i u ci hs
      simp only [xr_chc] at hc
      cases hM : mt[u]? with
      | none => rw [hM] at h; cases h
      | some M =>
        rw [hM] at h hc
        simp only at h hc
        split at h
        · rename_i k rest hdr
          split at h
          · rename_i cj fs hwk
            cases hg : (Nat.beq cj ci && (Nat.ble (xr_cs rest) 8 && Nat.beq (st.take M.2.2.2.2.2.1).length M.2.2.2.2.2.1)) with
            | false => rw [hg] at h; cases h
            | true =>
              rw [hg] at h
              cases h
              simp only [Bool.and_eq_true] at hg
              obtain ⟨g1, g2, g3⟩ := hg
              have g1 := Nat.eq_of_beq_eq_true g1
              subst g1
              have g2 : xr_cs rest ≤ 8 := Nat.le_of_ble_eq_true g2
              have g3 := Nat.eq_of_beq_eq_true g3
              split at hc
              · rename_i q hq
                simp only [Bool.and_eq_true, decide_eq_true_eq] at hc
                obtain ⟨c1, c2, c3, c4⟩ := hc
                obtain ⟨m1, _, c4⟩ := xr_hasAll_cons c4
                obtain ⟨m2, _, c4⟩ := xr_hasAll_cons c4
                obtain ⟨m3, _, c4⟩ := xr_hasAll_cons c4
                obtain ⟨m4, _, c4⟩ := xr_hasAll_cons c4
                obtain ⟨m5, _, c4⟩ := xr_hasAll_cons c4
                have hmet := hcon M hM
                refine xr_go_thr (a := #[]) (vx_runV (As := xr_sv ep ba sg (st.take M.2.2.2.2.2.1).reverse) (b := ba + k) (C := M.1.cls) (index := idx) (bytes := M.2.1) (maxL := M.2.2.1) (ret := M.2.2.2.1) (n := M.2.2.2.2.2.1) (Ts := xr_tb) (g := F0 m pc ls (xr_sv ep ba sg st)) ⟨hx, hb, hml, hown, hts⟩ hmet ⟨xr_callB hts c2 c3 m5 m4 m1 hRf hRl, hts _ m2, hts _ m3⟩ ⟨xr_blind, ?_, ?_⟩ rfl ?_ hsz (xr_stk hdr) ?_ hd hR) hI kk
                · rw [← c1]
                  exact va_recv hK hI.1 hq (xr_w_at hwk)
                · exact xr_pre (as := .ref k :: (st.take M.2.2.2.2.2.1).reverse) hX hK hI hup
                · rw [List.length_map, List.length_reverse]; exact g3
                · show 2 * 0 + _ ≤ 8
                  rw [xr_cs_v]; omega
              · cases hc
          · cases h
        · cases h
    · cases h
  all_goals cases hv
theorem xr_seq_suf {r r' : List xr_En} {pc len n : Nat} {lv l' : xr_L} {st st' : List Value} (h : xr_seq r pc len n lv st = some (r', l', st')) : r' = r := (xr_seq_ok h).2.2.2.2.symm
/-- where an instruction may go on: behind it, or at a place of the table -/
def xr_suf (tab r r' : List xr_En) : Prop := r' = r ∨ ∃ t, r' = tab.drop t
theorem xr_to_suf {tab r r' : List xr_En} {aux : List Nat} {pc len n : Nat} {off : Int} {lv l' : xr_L} {st st' : List Value} (h : xr_to tab aux pc len n off lv st = some (r', l', st')) : xr_suf tab r r' := Or.inr ⟨_, (xr_to_ok h).2.2.2.2⟩
theorem xr_suf_mem {tab r r' : List xr_En} (hr : ∀ e ∈ r, e ∈ tab) (h : xr_suf tab r r') : ∀ e ∈ r', e ∈ tab := by
  rcases h with rfl | ⟨t, rfl⟩
  · exact hr
  · exact fun e he => List.mem_of_mem_drop he
end XRC3
