set_option maxHeartbeats 4000000 in
set_option maxRecDepth 100000 in
theorem k_X0_reelsOff (l : Launch) (dC : Nat → ClassId) (dI : Nat → Nat → Nat) (cyI cyZ : ClassId) (H0 : Heap) (q0 q1 q2 q3 q4 q5 q6 : Nat) (wc wl sc sl cl ct : Nat → Int32) (rw co sk ss sq : Int32) (hP : va_P (dC, dI) vwCl (wX cyI cyZ q0 q1 q2 q3 q4 q5 q6 wc wl sc sl cl ct rw co sk ss sq) H0) (hD0 : va_D (fun _ => True) (wX cyI cyZ q0 q1 q2 q3 q4 q5 q6 wc wl sc sl cl ct rw co sk ss sq))   : Met l yX0_reelsOff wsX0_reelsOff ({ frames := 0, cells := 0, slots := 0, locals := 0 }) (va_Pc [.ref q0] (pK dC dI (tyW cyI cyZ) H0)) (gx_Qi (fun r : Int32 => r = nOff wl 5) H0) 0 0 (gx_new H0) := by
  refine Met.ofW (cc := cX0_reelsOff) (maxL := 3) (ret := (some .int)) (by decide) rfl ?_
  intro p e s m args below meth c s₁ B hml hv
  obtain ⟨rfl, rfl, hK⟩ := hv
  have hx := B.exec
  have hb := B.bytes
  have hr := B.returns
  have hts := atoms_spec (ws := wsX0_reelsOff) B.pre
  have hown : s.vm.findClass RX0 = some m.cls := findClass_of_methodNamed B.named
  have hlocks := B.notSynchronized
  have hD := hD0.self (sz := s.heap.size)
  generalize hAe : (gx_new s.heap) = A at ⊢
  have hA : ∀ q : Nat, s.heap.size ≤ q → A q := fun q h => by rw [← hAe]; exact h
  have hS : va_S A s.heap s.heap [] := va_S.rf
  have hl := lv_entry ([.ref q0]) (n := 3) (Nat.le_of_ble_eq_true rfl)
  rw [lg_entry_eq]
  generalize (lg_sl ([.ref q0]) ++ List.replicate (3 - (lg_sl ([.ref q0])).length) Slot.unset).toArray = ls at hl ⊢
  have hl : lv_has ls 3 [(0, .ref q0)] := hl
  have iw : ∀ w ∈ wsX00, w ∈ wsX0_reelsOff := by decide +kernel
  refine lv_iconst (v := 0) hx hb dX0_reelsOff_0 (by decide) ?_
  refine lv_istore_n (lv' := [(1, .int 0), (0, .ref q0)]) hx hb dX0_reelsOff_1 rfl hl (by decide) rfl (fun ls hl => ?_)
  refine lv_iconst (v := nI 0) hx hb dX0_reelsOff_2 (by decide) ?_
  refine lv_istore_n (lv' := [(2, .int (nI 0)), (1, .int 0), (0, .ref q0)]) hx hb dX0_reelsOff_3 rfl hl (by decide) rfl (fun ls hl => ?_)
  refine lpW (N := 5) (I := fun i H locs ls => H = s.heap ∧ va_S A s.heap H locs ∧ lv_has ls 3 [(2, .int (nI i)), (1, .int (nOff wl i)), (0, .ref q0)]) (fun i hi H locs ls hI ih => ?_) (fun H locs ls hI => ?_) 0 (Nat.zero_le _) ⟨rfl, hS, lv_sub hl [0, 1, 2] rfl⟩
  · skip
    obtain ⟨rfl, hS, hl⟩ := hI
    refine lv_iload_n hx hb dX0_reelsOff_4 rfl (lv_at hl 0 rfl) ?_
    refine lv_iconst (v := nI 5) hx hb dX0_reelsOff_5 (by decide) ?_
    refine lv_icmp_ge (tgt := 28) hx hb dX0_reelsOff_6 (by decide) (fun c_1 => ?_) (fun c_1 => ?_)
    · skip
      exact absurd c_1 (nI_ge (by omega) (by omega))
    · skip
      refine lv_aload_n hx hb dX0_reelsOff_9 rfl (lv_at hl 2 rfl) ?_
      refine va_get (D := (dC, dI)) (ci := 0) (v := .ref q2) (C := RX0) (T := TX0) (N := 11) hx hb hts iw hown hK hP 0 rfl rfl 1 (by decide) (hts (.fieldLink RX0 13 "ReelLoom" "workingLength" "[I") (by decide +kernel)) (fun _ h9 => h9) rfl dX0_reelsOff_10 ?_
      refine lv_iload_n hx hb dX0_reelsOff_13 rfl (lv_at hl 0 rfl) ?_
      refine va_iald hx hb hK hP 2 0 rfl rfl (vp_in_nI (by omega) (by omega)) dX0_reelsOff_14 ?_
      rw [nI_clamp (show i < 2 ^ 31 by omega)]
      refine lv_iconst (v := -1) hx hb dX0_reelsOff_15 (by decide) ?_
      refine lv_icmp_ne (tgt := 22) hx hb dX0_reelsOff_16 (by decide) (fun h16 => ?_) (fun h16 => ?_)
      · skip
        refine lv_iinc (v := nI (i + 1)) (lv' := [(2, .int (nI (i + 1))), (1, .int (nOff wl i)), (0, .ref q0)]) hx hb dX0_reelsOff_22 hl (k := 0) rfl (nI_1 _) (by decide) rfl (fun ls hl => ?_)
        refine lv_goto (tgt := 4) hx hb dX0_reelsOff_25 (by decide) ?_
        have e1 : nOff wl i = nOff wl (i + 1) := by show _ = (if _ then _ else _); first | rw [if_pos h16] | rw [if_neg h16]
        rw [e1] at hl
        exact ih _ _ _ ⟨rfl, hS, lv_sub hl [0, 1, 2] rfl⟩
      · skip
        refine lv_iinc (v := (nOff wl i) + 1) (lv' := [(1, .int ((nOff wl i) + 1)), (2, .int (nI i)), (0, .ref q0)]) hx hb dX0_reelsOff_19 hl (k := 1) rfl (rfl) (by decide) rfl (fun ls hl => ?_)
        refine lv_iinc (v := nI (i + 1)) (lv' := [(2, .int (nI (i + 1))), (1, .int ((nOff wl i) + 1)), (0, .ref q0)]) hx hb dX0_reelsOff_22 hl (k := 1) rfl (nI_1 _) (by decide) rfl (fun ls hl => ?_)
        refine lv_goto (tgt := 4) hx hb dX0_reelsOff_25 (by decide) ?_
        have e1 : (nOff wl i) + 1 = nOff wl (i + 1) := by show _ = (if _ then _ else _); first | rw [if_pos h16] | rw [if_neg h16]
        rw [e1] at hl
        exact ih _ _ _ ⟨rfl, hS, lv_sub hl [0, 1, 2] rfl⟩
  · skip
    obtain ⟨rfl, hS, hl⟩ := hI
    refine lv_iload_n hx hb dX0_reelsOff_4 rfl (lv_at hl 0 rfl) ?_
    refine lv_iconst (v := nI 5) hx hb dX0_reelsOff_5 (by decide) ?_
    refine lv_icmp_ge (tgt := 28) hx hb dX0_reelsOff_6 (by decide) (fun c_3 => ?_) (fun c_3 => ?_)
    · skip
      refine lv_iload_n hx hb dX0_reelsOff_28 rfl (lv_at hl 1 rfl) ?_
      exact W.iret (v := (nOff wl 5)) hx hb hr (fun t ht hW => ⟨(nOff wl 5), rfl, rfl, ht⟩) hS.2.2 dX0_reelsOff_29
    · skip
      exact absurd (nI_le (Nat.le_refl _) (by omega)) c_3
set_option maxHeartbeats 4000000 in
set_option maxRecDepth 100000 in
theorem k_X0_rowsCut (l : Launch) (dC : Nat → ClassId) (dI : Nat → Nat → Nat) (cyI cyZ : ClassId) (H0 : Heap) (q0 q1 q2 q3 q4 q5 q6 : Nat) (wc wl sc sl cl ct : Nat → Int32) (rw co sk ss sq : Int32) (hP : va_P (dC, dI) vwCl (wX cyI cyZ q0 q1 q2 q3 q4 q5 q6 wc wl sc sl cl ct rw co sk ss sq) H0) (hD0 : va_D (fun _ => True) (wX cyI cyZ q0 q1 q2 q3 q4 q5 q6 wc wl sc sl cl ct rw co sk ss sq))  (hrw : rw ≤ nI 40) : Met l yX0_rowsCut wsX0_rowsCut ({ frames := 0, cells := 0, slots := 0, locals := 0 }) (va_Pc [.ref q0] (pK dC dI (tyW cyI cyZ) H0)) (gx_Qi (fun r : Int32 => r = (if rw = -1 then -1 else nCut ct rw.toNatClampNeg)) H0) 0 0 (gx_new H0) := by
  refine Met.ofW (cc := cX0_rowsCut) (maxL := 3) (ret := (some .int)) (by decide) rfl ?_
  intro p e s m args below meth c s₁ B hml hv
  obtain ⟨rfl, rfl, hK⟩ := hv
  have hx := B.exec
  have hb := B.bytes
  have hr := B.returns
  have hts := atoms_spec (ws := wsX0_rowsCut) B.pre
  have hown : s.vm.findClass RX0 = some m.cls := findClass_of_methodNamed B.named
  have hlocks := B.notSynchronized
  have hD := hD0.self (sz := s.heap.size)
  generalize hAe : (gx_new s.heap) = A at ⊢
  have hA : ∀ q : Nat, s.heap.size ≤ q → A q := fun q h => by rw [← hAe]; exact h
  have hS : va_S A s.heap s.heap [] := va_S.rf
  have hl := lv_entry ([.ref q0]) (n := 3) (Nat.le_of_ble_eq_true rfl)
  rw [lg_entry_eq]
  generalize (lg_sl ([.ref q0]) ++ List.replicate (3 - (lg_sl ([.ref q0])).length) Slot.unset).toArray = ls at hl ⊢
  have hl : lv_has ls 3 [(0, .ref q0)] := hl
  have iw : ∀ w ∈ wsX00, w ∈ wsX0_rowsCut := by decide +kernel
  refine lv_aload_n hx hb dX0_rowsCut_0 rfl (lv_at hl 0 rfl) ?_
  refine va_get (D := (dC, dI)) (ci := 0) (v := .int rw) (C := RX0) (T := TX0) (N := 11) hx hb hts iw hown hK hP 0 rfl rfl 6 (by decide) (hts (.fieldLink RX0 35 "ReelLoom" "rows" "I") (by decide +kernel)) (fun _ h9 => h9) rfl dX0_rowsCut_1 ?_
  refine lv_iconst (v := -1) hx hb dX0_rowsCut_4 (by decide) ?_
  refine lv_icmp_ne (tgt := 10) hx hb dX0_rowsCut_5 (by decide) (fun h5 => ?_) (fun h5 => ?_)
  · skip
    refine lv_iconst (v := 0) hx hb dX0_rowsCut_10 (by decide) ?_
    refine lv_istore_n (lv' := [(1, .int 0), (0, .ref q0)]) hx hb dX0_rowsCut_11 rfl hl (by decide) rfl (fun ls hl => ?_)
    refine lv_iconst (v := nI 0) hx hb dX0_rowsCut_12 (by decide) ?_
    refine lv_istore_n (lv' := [(2, .int (nI 0)), (1, .int 0), (0, .ref q0)]) hx hb dX0_rowsCut_13 rfl hl (by decide) rfl (fun ls hl => ?_)
    refine lpW (N := rw.toNatClampNeg) (I := fun i H locs ls => H = s.heap ∧ va_S A s.heap H locs ∧ lv_has ls 3 [(2, .int (nI i)), (1, .int (nCut ct i)), (0, .ref q0)]) (fun i hi H locs ls hI ih => ?_) (fun H locs ls hI => ?_) 0 (Nat.zero_le _) ⟨rfl, hS, lv_sub hl [0, 1, 2] rfl⟩
    · skip
      obtain ⟨rfl, hS, hl⟩ := hI
      have hw9 := w_le (by decide) hrw
      refine lv_iload_n hx hb dX0_rowsCut_14 rfl (lv_at hl 0 rfl) ?_
      refine lv_aload_n hx hb dX0_rowsCut_15 rfl (lv_at hl 2 rfl) ?_
      refine va_get (D := (dC, dI)) (ci := 0) (v := .int rw) (C := RX0) (T := TX0) (N := 11) hx hb hts iw hown hK hP 0 rfl rfl 6 (by decide) (hts (.fieldLink RX0 35 "ReelLoom" "rows" "I") (by decide +kernel)) (fun _ h9 => h9) rfl dX0_rowsCut_16 ?_
      refine lv_icmp_ge (tgt := 40) hx hb dX0_rowsCut_19 (by decide) (fun h19 => ?_) (fun h19 => ?_)
      · skip
        exact absurd h19 (w_step hi)
      · skip
        refine lv_aload_n hx hb dX0_rowsCut_22 rfl (lv_at hl 2 rfl) ?_
        refine va_get (D := (dC, dI)) (ci := 0) (v := .ref q6) (C := RX0) (T := TX0) (N := 11) hx hb hts iw hown hK hP 0 rfl rfl 5 (by decide) (hts (.fieldLink RX0 31 "ReelLoom" "rowIsCut" "[Z") (by decide +kernel)) (fun _ h9 => h9) rfl dX0_rowsCut_23 ?_
        refine lv_iload_n hx hb dX0_rowsCut_26 rfl (lv_at hl 0 rfl) ?_
        refine va_zald hx hb hK hP 6 1 rfl rfl (vp_in_nI (by omega) (by omega)) dX0_rowsCut_27 ?_
        rw [nI_clamp (show i < 2 ^ 31 by omega)]
        refine lv_if_eq (tgt := 34) hx hb dX0_rowsCut_28 (by decide) (fun h28 => ?_) (fun h28 => ?_)
        · skip
          refine lv_iinc (v := nI (i + 1)) (lv' := [(2, .int (nI (i + 1))), (1, .int (nCut ct i)), (0, .ref q0)]) hx hb dX0_rowsCut_34 hl (k := 0) rfl (nI_1 _) (by decide) rfl (fun ls hl => ?_)
          refine lv_goto (tgt := 14) hx hb dX0_rowsCut_37 (by decide) ?_
          have e1 : nCut ct i = nCut ct (i + 1) := by show _ = (if _ then _ else _); first | rw [if_pos h28] | rw [if_neg h28]
          rw [e1] at hl
          exact ih _ _ _ ⟨rfl, hS, lv_sub hl [0, 1, 2] rfl⟩
        · skip
          refine lv_iinc (v := (nCut ct i) + 1) (lv' := [(1, .int ((nCut ct i) + 1)), (2, .int (nI i)), (0, .ref q0)]) hx hb dX0_rowsCut_31 hl (k := 1) rfl (rfl) (by decide) rfl (fun ls hl => ?_)
          refine lv_iinc (v := nI (i + 1)) (lv' := [(2, .int (nI (i + 1))), (1, .int ((nCut ct i) + 1)), (0, .ref q0)]) hx hb dX0_rowsCut_34 hl (k := 1) rfl (nI_1 _) (by decide) rfl (fun ls hl => ?_)
          refine lv_goto (tgt := 14) hx hb dX0_rowsCut_37 (by decide) ?_
          have e1 : (nCut ct i) + 1 = nCut ct (i + 1) := by show _ = (if _ then _ else _); first | rw [if_pos h28] | rw [if_neg h28]
          rw [e1] at hl
          exact ih _ _ _ ⟨rfl, hS, lv_sub hl [0, 1, 2] rfl⟩
    · skip
      obtain ⟨rfl, hS, hl⟩ := hI
      refine lv_iload_n hx hb dX0_rowsCut_14 rfl (lv_at hl 0 rfl) ?_
      refine lv_aload_n hx hb dX0_rowsCut_15 rfl (lv_at hl 2 rfl) ?_
      refine va_get (D := (dC, dI)) (ci := 0) (v := .int rw) (C := RX0) (T := TX0) (N := 11) hx hb hts iw hown hK hP 0 rfl rfl 6 (by decide) (hts (.fieldLink RX0 35 "ReelLoom" "rows" "I") (by decide +kernel)) (fun _ h9 => h9) rfl dX0_rowsCut_16 ?_
      refine lv_icmp_ge (tgt := 40) hx hb dX0_rowsCut_19 (by decide) (fun h19 => ?_) (fun h19 => ?_)
      · skip
        refine lv_iload_n hx hb dX0_rowsCut_40 rfl (lv_at hl 1 rfl) ?_
        exact W.iret (v := (nCut ct rw.toNatClampNeg)) hx hb hr (fun t ht hW => ⟨(nCut ct rw.toNatClampNeg), rfl, by rw [if_neg h5], ht⟩) hS.2.2 dX0_rowsCut_41
      · skip
        exact absurd (w_last _) h19
  · skip
    refine lv_iconst (v := -1) hx hb dX0_rowsCut_8 (by decide) ?_
    exact W.iret (v := (-1)) hx hb hr (fun t ht hW => ⟨(-1), rfl, by rw [if_pos h5], ht⟩) hS.2.2 dX0_rowsCut_9
set_option maxHeartbeats 4000000 in
set_option maxRecDepth 100000 in
theorem k_X0_weightedCells (l : Launch) (dC : Nat → ClassId) (dI : Nat → Nat → Nat) (cyI cyZ : ClassId) (H0 : Heap) (q0 q1 q2 q3 q4 q5 q6 : Nat) (wc wl sc sl cl ct : Nat → Int32) (rw co sk ss sq : Int32) (hP : va_P (dC, dI) vwCl (wX cyI cyZ q0 q1 q2 q3 q4 q5 q6 wc wl sc sl cl ct rw co sk ss sq) H0) (hD0 : va_D (fun _ => True) (wX cyI cyZ q0 q1 q2 q3 q4 q5 q6 wc wl sc sl cl ct rw co sk ss sq))  (hwl : ∀ k, k < 5 → wl k = -1 ∨ ∃ n : Nat, n ≤ 64 ∧ wl k = nI n) : Met l yX0_weightedCells wsX0_weightedCells ({ frames := 1, cells := 0, slots := 0, locals := 21 }) (va_Pc [.ref q0] (pK dC dI (tyW cyI cyZ) H0)) (gx_Qi (fun r : Int32 => r = wO wc wl 5) H0) 0 0 (gx_new H0) := by
  refine Met.ofW (cc := cX0_weightedCells) (maxL := 4) (ret := (some .int)) (by decide) rfl ?_
  intro p e s m args below meth c s₁ B hml hv
  obtain ⟨rfl, rfl, hK⟩ := hv
  have hx := B.exec
  have hb := B.bytes
  have hr := B.returns
  have hts := atoms_spec (ws := wsX0_weightedCells) B.pre
  have hown : s.vm.findClass RX0 = some m.cls := findClass_of_methodNamed B.named
  have hlocks := B.notSynchronized
  have hD := hD0.self (sz := s.heap.size)
  generalize hAe : (gx_new s.heap) = A at ⊢
  have hA : ∀ q : Nat, s.heap.size ≤ q → A q := fun q h => by rw [← hAe]; exact h
  have hS : va_S A s.heap s.heap [] := va_S.rf
  have hl := lv_entry ([.ref q0]) (n := 4) (Nat.le_of_ble_eq_true rfl)
  rw [lg_entry_eq]
  generalize (lg_sl ([.ref q0]) ++ List.replicate (4 - (lg_sl ([.ref q0])).length) Slot.unset).toArray = ls at hl ⊢
  have hl : lv_has ls 4 [(0, .ref q0)] := hl
  have iw : ∀ w ∈ wsX00, w ∈ wsX0_weightedCells := by decide +kernel
  refine lv_iconst (v := 0) hx hb dX0_weightedCells_0 (by decide) ?_
  refine lv_istore_n (lv' := [(1, .int 0), (0, .ref q0)]) hx hb dX0_weightedCells_1 rfl hl (by decide) rfl (fun ls hl => ?_)
  refine lv_iconst (v := nI 0) hx hb dX0_weightedCells_2 (by decide) ?_
  refine lv_istore_n (lv' := [(2, .int (nI 0)), (1, .int 0), (0, .ref q0)]) hx hb dX0_weightedCells_3 rfl hl (by decide) rfl (fun ls hl => ?_)
  refine lpW (N := 5) (I := fun so H locs ls => H = s.heap ∧ va_S A s.heap H locs ∧ lv_has ls 4 [(2, .int (nI so)), (1, .int (wO wc wl so)), (0, .ref q0)]) (fun so hi H locs ls hI ih => ?_) (fun H locs ls hI => ?_) 0 (Nat.zero_le _) ⟨rfl, hS, lv_sub hl [0, 1, 2] rfl⟩
  · skip
    obtain ⟨rfl, hS, hl⟩ := hI
    refine lv_iload_n hx hb dX0_weightedCells_4 rfl (lv_at hl 0 rfl) ?_
    refine lv_iconst (v := nI 5) hx hb dX0_weightedCells_5 (by decide) ?_
    refine lv_icmp_ge (tgt := 50) hx hb dX0_weightedCells_6 (by decide) (fun c_1 => ?_) (fun c_1 => ?_)
    · skip
      exact absurd c_1 (nI_ge (by omega) (by omega))
    · skip
      refine lv_iconst (v := nI 0) hx hb dX0_weightedCells_9 (by decide) ?_
      refine lv_istore_n (lv' := [(3, .int (nI 0)), (2, .int (nI so)), (1, .int (wO wc wl so)), (0, .ref q0)]) hx hb dX0_weightedCells_10 rfl hl (by decide) rfl (fun ls hl => ?_)
      refine lpW (N := (wl so).toNatClampNeg) (I := fun i H locs ls => H = s.heap ∧ va_S A s.heap H locs ∧ lv_has ls 4 [(3, .int (nI i)), (2, .int (nI so)), (1, .int (wI wc so (wO wc wl so) i)), (0, .ref q0)]) (fun i hi H locs ls hI ih => ?_) (fun H locs ls hI => ?_) 0 (Nat.zero_le _) ⟨rfl, hS, lv_sub hl [0, 1, 2, 3] rfl⟩
      · skip
        obtain ⟨rfl, hS, hl⟩ := hI
        have hw9 := w_le (by decide) (wlB hwl (show so < 5 by omega))
        refine lv_iload_n hx hb dX0_weightedCells_11 rfl (lv_at hl 0 rfl) ?_
        refine lv_aload_n hx hb dX0_weightedCells_12 rfl (lv_at hl 3 rfl) ?_
        refine va_get (D := (dC, dI)) (ci := 0) (v := .ref q2) (C := RX0) (T := TX0) (N := 11) hx hb hts iw hown hK hP 0 rfl rfl 1 (by decide) (hts (.fieldLink RX0 13 "ReelLoom" "workingLength" "[I") (by decide +kernel)) (fun _ h9 => h9) rfl dX0_weightedCells_13 ?_
        refine lv_iload_n hx hb dX0_weightedCells_16 rfl (lv_at hl 1 rfl) ?_
        refine va_iald hx hb hK hP 2 0 rfl rfl (vp_in_nI (by omega) (by omega)) dX0_weightedCells_17 ?_
        rw [nI_clamp (show so < 2 ^ 31 by omega)]
        refine lv_icmp_ge (tgt := 44) hx hb dX0_weightedCells_18 (by decide) (fun h18 => ?_) (fun h18 => ?_)
        · skip
          exact absurd h18 (w_step hi)
        · skip
          refine lv_iload_n hx hb dX0_weightedCells_21 rfl (lv_at hl 2 rfl) ?_
          refine lv_iload_n hx hb dX0_weightedCells_22 rfl (lv_at hl 1 rfl) ?_
          refine lv_iconst (v := 1) hx hb dX0_weightedCells_23 (by decide) ?_
          refine lv_iadd hx hb dX0_weightedCells_24 ?_
          refine lv_aload_n hx hb dX0_weightedCells_25 rfl (lv_at hl 3 rfl) ?_
          refine va_get (D := (dC, dI)) (ci := 0) (v := .ref q1) (C := RX0) (T := TX0) (N := 11) hx hb hts iw hown hK hP 0 rfl rfl 0 (by decide) (hts (.fieldLink RX0 9 "ReelLoom" "workingCells" "[I") (by decide +kernel)) (fun _ h9 => h9) rfl dX0_weightedCells_26 ?_
          refine lv_iload_n hx hb dX0_weightedCells_29 rfl (lv_at hl 1 rfl) ?_
          refine lv_iload_n hx hb dX0_weightedCells_30 rfl (lv_at hl 0 rfl) ?_
          refine gx_calli (va_runS (As := [.int (nI so), .int (nI i)]) (rest := [.ref q1, .int ((nI so) + 1), .int (wI wc so (wO wc wl so) i)]) ⟨hx, hb, hml, hown, hts⟩ (k_X0_reelIndex l dC dI  _   so i ) (va_cwS 2 hts gX0_weightedCells_X0_reelIndex rfl rfl rfl (by decide +kernel) ⟨Nat.le_of_ble_eq_true rfl, Nat.le_of_ble_eq_true rfl⟩) (pK_S (hK.sub (tys' := []) [] rfl)) rfl rfl hl.1 rfl (lv_room (Nat.le_of_ble_eq_true rfl)) dX0_weightedCells_31 ⟨Nat.le_of_ble_eq_true rfl, Nat.le_of_ble_eq_true rfl⟩) (fun r_3 hr_3 => ?_)
          subst hr_3
          refine va_iald hx hb hK hP 1 0 rfl rfl (vp_in_nI (by omega) (by omega)) dX0_weightedCells_34 ?_
          rw [nI_clamp (show (so * 64 + i) < 2 ^ 31 by omega)]
          refine lv_imul hx hb dX0_weightedCells_35 ?_
          refine lv_iadd hx hb dX0_weightedCells_36 ?_
          refine lv_istore_n (lv' := [(1, .int ((wI wc so (wO wc wl so) i) + (((nI so) + 1) * (wc ((so * 64 + i)))))), (3, .int (nI i)), (2, .int (nI so)), (0, .ref q0)]) hx hb dX0_weightedCells_37 rfl hl (by decide) rfl (fun ls hl => ?_)
          refine lv_iinc (v := nI (i + 1)) (lv' := [(3, .int (nI (i + 1))), (1, .int ((wI wc so (wO wc wl so) i) + (((nI so) + 1) * (wc ((so * 64 + i)))))), (2, .int (nI so)), (0, .ref q0)]) hx hb dX0_weightedCells_38 hl (k := 1) rfl (nI_1 _) (by decide) rfl (fun ls hl => ?_)
          refine lv_goto (tgt := 11) hx hb dX0_weightedCells_41 (by decide) ?_
          exact ih _ _ _ ⟨rfl, hS, lv_sub hl [0, 2, 1, 3] rfl⟩
      · skip
        obtain ⟨rfl, hS, hl⟩ := hI
        refine lv_iload_n hx hb dX0_weightedCells_11 rfl (lv_at hl 0 rfl) ?_
        refine lv_aload_n hx hb dX0_weightedCells_12 rfl (lv_at hl 3 rfl) ?_
        refine va_get (D := (dC, dI)) (ci := 0) (v := .ref q2) (C := RX0) (T := TX0) (N := 11) hx hb hts iw hown hK hP 0 rfl rfl 1 (by decide) (hts (.fieldLink RX0 13 "ReelLoom" "workingLength" "[I") (by decide +kernel)) (fun _ h9 => h9) rfl dX0_weightedCells_13 ?_
        refine lv_iload_n hx hb dX0_weightedCells_16 rfl (lv_at hl 1 rfl) ?_
        refine va_iald hx hb hK hP 2 0 rfl rfl (vp_in_nI (by omega) (by omega)) dX0_weightedCells_17 ?_
        rw [nI_clamp (show so < 2 ^ 31 by omega)]
        refine lv_icmp_ge (tgt := 44) hx hb dX0_weightedCells_18 (by decide) (fun h18 => ?_) (fun h18 => ?_)
        · skip
          refine lv_iinc (v := nI (so + 1)) (lv' := [(2, .int (nI (so + 1))), (3, .int (nI (((wl so).toNatClampNeg)))), (1, .int (wI wc so (wO wc wl so) (((wl so).toNatClampNeg)))), (0, .ref q0)]) hx hb dX0_weightedCells_44 hl (k := 1) rfl (nI_1 _) (by decide) rfl (fun ls hl => ?_)
          refine lv_goto (tgt := 4) hx hb dX0_weightedCells_47 (by decide) ?_
          exact ih _ _ _ ⟨rfl, hS, lv_sub hl [0, 2, 3] rfl⟩
        · skip
          exact absurd (w_last _) h18
  · skip
    obtain ⟨rfl, hS, hl⟩ := hI
    refine lv_iload_n hx hb dX0_weightedCells_4 rfl (lv_at hl 0 rfl) ?_
    refine lv_iconst (v := nI 5) hx hb dX0_weightedCells_5 (by decide) ?_
    refine lv_icmp_ge (tgt := 50) hx hb dX0_weightedCells_6 (by decide) (fun c_5 => ?_) (fun c_5 => ?_)
    · skip
      refine lv_iload_n hx hb dX0_weightedCells_50 rfl (lv_at hl 1 rfl) ?_
      exact W.iret (v := (wO wc wl 5)) hx hb hr (fun t ht hW => ⟨(wO wc wl 5), rfl, rfl, ht⟩) hS.2.2 dX0_weightedCells_51
    · skip
      exact absurd (nI_le (Nat.le_refl _) (by omega)) c_5
set_option maxHeartbeats 4000000 in
set_option maxRecDepth 100000 in
theorem k_X0_weave (l : Launch) (hst : l.stackTraces = false) (dC : Nat → ClassId) (dI : Nat → Nat → Nat) (cyI cyZ : ClassId) (H0 : Heap) (q0 q1 q2 q3 q4 q5 q6 : Nat) (wc wl sc sl cl ct : Nat → Int32) (rw co sk ss sq : Int32) (hP : va_P (dC, dI) vwCl (wX cyI cyZ q0 q1 q2 q3 q4 q5 q6 wc wl sc sl cl ct rw co sk ss sq) H0) (hD0 : va_D (fun _ => True) (wX cyI cyZ q0 q1 q2 q3 q4 q5 q6 wc wl sc sl cl ct rw co sk ss sq)) (x : Int32) (y : Int32)  : vx_Met l yX0_weave wsX0_weave ({ frames := 6, cells := 1, slots := 6, locals := 90 }) (va_Pc [.ref q0, .int x, .int y] (pZ dC dI (tyW cyI cyZ) H0 (va_A (wX cyI cyZ q0 q1 q2 q3 q4 q5 q6 wc wl sc sl cl ct rw co sk ss sq) H0.size))) (va_Qi (fun (r : Int32) (u : Nat × Nat) => match u with | (m, n) => x = nI m ∧ m ≤ 40 ∧ y = nI n ∧ n ≤ 40 ∧ r = nI (m * n)) (fun (u : Nat × Nat) (t : State) => match u with | (m, n) => va_P (dC, dI) vwCl (wX cyI cyZ q0 q1 q2 q3 q4 q5 q6 wc wl sc sl (fa cl 0 1600) (fa ct 0 m) (nI m) (nI n) sk ss sq) t.heap) (va_A (wX cyI cyZ q0 q1 q2 q3 q4 q5 q6 wc wl sc sl cl ct rw co sk ss sq) H0.size)) (gx_X (fun E : String => (E = eUO ∧ (nI 40 < x ∨ nI 40 < y)) ∨ (E = eIA ∧ ¬ (nI 40 < x ∨ nI 40 < y) ∧ (x < 0 ∨ y < 0))) H0) 1 6 (va_A (wX cyI cyZ q0 q1 q2 q3 q4 q5 q6 wc wl sc sl cl ct rw co sk ss sq) H0.size) := by
  refine vx_ofW (cc := cX0_weave) (maxL := 4) (ret := (some .int)) (by decide) rfl ?_
  intro p e s m args below meth c s₁ B hml hne hv
  obtain ⟨rfl, rfl, hK, hz⟩ := hv
  have hx := B.exec
  have hb := B.bytes
  have hr := B.returns
  have hts := atoms_spec (ws := wsX0_weave) B.pre
  have hown : s.vm.findClass RX0 = some m.cls := findClass_of_methodNamed B.named
  have hlocks := B.notSynchronized
  have hD := hD0.self (sz := s.heap.size)
  generalize hAe : (va_A (wX cyI cyZ q0 q1 q2 q3 q4 q5 q6 wc wl sc sl cl ct rw co sk ss sq) s.heap.size) = A at hD hz ⊢
  have hA : ∀ q : Nat, s.heap.size ≤ q → A q := fun q h => by rw [← hAe]; exact Or.inr h
  have hS : va_S A s.heap s.heap [] := va_S.rf
  have hl := lv_entry ([.ref q0, .int x, .int y]) (n := 4) (Nat.le_of_ble_eq_true rfl)
  rw [lg_entry_eq]
  generalize (lg_sl ([.ref q0, .int x, .int y]) ++ List.replicate (4 - (lg_sl ([.ref q0, .int x, .int y])).length) Slot.unset).toArray = ls at hl ⊢
  have hl : lv_has ls 4 [(0, .ref q0), (1, .int x), (2, .int y)] := hl
  have iw : ∀ w ∈ wsX00, w ∈ wsX0_weave := by decide +kernel
  refine lv_iload_n hx hb dX0_weave_0 rfl (lv_at hl 1 rfl) ?_
  refine lv_bipush (v := nI 40) hx hb dX0_weave_1 (by decide) ?_
  refine lv_icmp_gt (tgt := 12) hx hb dX0_weave_3 (by decide) (fun h3 => ?_) (fun h3 => ?_)
  · skip
    obtain ⟨sa, hsa⟩ := hz.2.2.2 89 "a cloth has at most 40 rows and columns" (by decide)
    exact vx_throwS hx hb hst (own := RX0) (cls := "java/lang/UnsupportedOperationException") (text := "a cloth has at most 40 rows and columns") (names := zN) (ik := 87) (is := 89) (ic := 91) (sa := sa) (A := A) hown (by decide) (by decide) (hts (.classLink RX0 87 "java/lang/UnsupportedOperationException") (by decide +kernel)) (hts (.initialized "java/lang/UnsupportedOperationException") (by decide +kernel)) hsa (zHatUO hz (fun w h => hts w (List.mem_cons_of_mem _ (List.mem_append_left _ (List.mem_append_right _ h))))) zGdUO hz.1 hz.2.1 hS (hl.1.trans hml.symm) dX0_weave_12 dX0_weave_15 dX0_weave_16 dX0_weave_18 dX0_weave_21 (fun y h => (hne y h).elim) (by decide) (by decide) (by decide) (by decide) hlocks (fun t hal hz9 hk9 => ⟨Or.inl ⟨rfl, by first | exact Or.inl h3 | exact Or.inr (Int32.not_le.mp h9)⟩, hz9, hk9⟩) hS.2.2 (by decide) (by decide)
  · skip
    refine lv_iload_n hx hb dX0_weave_6 rfl (lv_at hl 2 rfl) ?_
    refine lv_bipush (v := nI 40) hx hb dX0_weave_7 (by decide) ?_
    refine lv_icmp_le (tgt := 22) hx hb dX0_weave_9 (by decide) (fun h9 => ?_) (fun h9 => ?_)
    · skip
      refine lv_iload_n hx hb dX0_weave_22 rfl (lv_at hl 1 rfl) ?_
      refine lv_if_lt (tgt := 30) hx hb dX0_weave_23 (by decide) (fun h23 => ?_) (fun h23 => ?_)
      · skip
        obtain ⟨sa, hsa⟩ := hz.2.2.2 92 "a cloth has no less than 0 rows and columns" (by decide)
        exact vx_throwS hx hb hst (own := RX0) (cls := "java/lang/IllegalArgumentException") (text := "a cloth has no less than 0 rows and columns") (names := zN) (ik := 55) (is := 92) (ic := 59) (sa := sa) (A := A) hown (by decide) (by decide) (hts (.classLink RX0 55 "java/lang/IllegalArgumentException") (by decide +kernel)) (hts (.initialized "java/lang/IllegalArgumentException") (by decide +kernel)) hsa (zHatIA hz (fun w h => hts w (List.mem_cons_of_mem _ (List.mem_append_right _ h)))) zGdIA hz.1 hz.2.1 hS (hl.1.trans hml.symm) dX0_weave_30 dX0_weave_33 dX0_weave_34 dX0_weave_36 dX0_weave_39 (fun y h => (hne y h).elim) (by decide) (by decide) (by decide) (by decide) hlocks (fun t hal hz9 hk9 => ⟨Or.inr ⟨rfl, fun h => h.elim h3 (fun h => absurd h9 (Int32.not_le.mpr h)), by first | exact Or.inl h23 | exact Or.inr (Int32.not_le.mp h27)⟩, hz9, hk9⟩) hS.2.2 (by decide) (by decide)
      · skip
        refine lv_iload_n hx hb dX0_weave_26 rfl (lv_at hl 2 rfl) ?_
        refine lv_if_ge (tgt := 40) hx hb dX0_weave_27 (by decide) (fun h27 => ?_) (fun h27 => ?_)
        · skip
          obtain ⟨m9, hm9, rfl⟩ := in_le (n := 40) (by decide) h23 (Int32.not_lt.mp h3)
          obtain ⟨n9, hn9, rfl⟩ := in_le (n := 40) (by decide) (Int32.not_lt.mpr h27) h9
          refine lv_aload_n hx hb dX0_weave_40 rfl (lv_at hl 0 rfl) ?_
          refine lv_iload_n hx hb dX0_weave_41 rfl (lv_at hl 1 rfl) ?_
          refine va_put (D := (dC, dI)) (ci := 0) (v := .int (nI m9)) (ty := .int) (C := RX0) (T := TX0) (N := 11) hx hb hts iw tyX0 tyX0_ok nmX0 hown hK hP hD hS 0 rfl rfl 6 (by decide) (hts (.fieldLink RX0 35 "ReelLoom" "rows" "I") (by decide +kernel)) (fun _ h9 => h9) rfl (by decide +kernel) rfl rfl (Nat.le_of_ble_eq_true rfl) dX0_weave_42 (fun H locs hP hD hS => ?_)
          have hP : va_P (dC, dI) vwCl (wX cyI cyZ q0 q1 q2 q3 q4 q5 q6 wc wl sc sl cl ct (nI m9) co sk ss sq) H := hP
          have hD : va_D A (wX cyI cyZ q0 q1 q2 q3 q4 q5 q6 wc wl sc sl cl ct (nI m9) co sk ss sq) := hD
          refine lv_aload_n hx hb dX0_weave_45 rfl (lv_at hl 0 rfl) ?_
          refine lv_iload_n hx hb dX0_weave_46 rfl (lv_at hl 2 rfl) ?_
          refine va_put (D := (dC, dI)) (ci := 0) (v := .int (nI n9)) (ty := .int) (C := RX0) (T := TX0) (N := 11) hx hb hts iw tyX0 tyX0_ok nmX0 hown hK hP hD hS 0 rfl rfl 7 (by decide) (hts (.fieldLink RX0 39 "ReelLoom" "columns" "I") (by decide +kernel)) (fun _ h9 => h9) rfl (by decide +kernel) rfl rfl (Nat.le_of_ble_eq_true rfl) dX0_weave_47 (fun H locs hP hD hS => ?_)
          have hP : va_P (dC, dI) vwCl (wX cyI cyZ q0 q1 q2 q3 q4 q5 q6 wc wl sc sl cl ct (nI m9) (nI n9) sk ss sq) H := hP
          have hD : va_D A (wX cyI cyZ q0 q1 q2 q3 q4 q5 q6 wc wl sc sl cl ct (nI m9) (nI n9) sk ss sq) := hD
          refine lv_aload_n hx hb dX0_weave_50 rfl (lv_at hl 0 rfl) ?_
          refine va_get (D := (dC, dI)) (ci := 0) (v := .ref q5) (C := RX0) (T := TX0) (N := 11) hx hb hts iw hown hK hP 0 rfl rfl 4 (by decide) (hts (.fieldLink RX0 28 "ReelLoom" "clothCells" "[I") (by decide +kernel)) (fun _ h9 => h9) rfl dX0_weave_51 ?_
          refine lv_iconst (v := 0) hx hb dX0_weave_54 (by decide) ?_
          have hPc := hP.sub (ws' := [(q5, .inl (cyI, 1600, .inl cl))]) [5] rfl
          have hDc := (hD.sub (ws' := [(q5, .inl (cyI, 1600, .inl cl))]) [5] (by decide) rfl).weaken (B := fun _ => True) (fun _ _ _ _ => trivial)
          have hFc := va_free (wc := [(q5, .inl (cyI, 1600, .inl cl))]) hD hS hA [5] rfl
          refine va_callv (va_runS (As := [.ref q5, .int 0]) (rest := []) ⟨hx, hb, hml, hown, hts⟩ (k_J7_fill_53178 l dC dI cyI _ q5 1600 cl hPc hDc 0 (by decide)) (va_cwS 2 hts gX0_weave_J7_fill_53178 rfl rfl rfl (by decide +kernel) ⟨Nat.le_of_ble_eq_true rfl, Nat.le_of_ble_eq_true rfl⟩) (pK_S (hK.sub (tys' := [(cyI, .int)]) [0] rfl)) rfl rfl hl.1 rfl (lv_room (Nat.le_of_ble_eq_true rfl)) dX0_weave_55 ⟨Nat.le_of_ble_eq_true rfl, Nat.le_of_ble_eq_true rfl⟩) hS (fun q _ h => hFc q h) hFc (fun u t H1 locs ht hvm hw hB hz1 hk1 hS => ?_)
          have hB : va_P (dC, dI) vwCl [(q5, .inl (cyI, 1600, .inl (fa cl 0 1600)))] t.heap := hB
          rw [ht] at hB
          obtain ⟨hP, hD⟩ := va_join (wr := (wX cyI cyZ q0 q1 q2 q3 q4 q5 q6 wc wl sc sl (fa cl 0 1600) ct (nI m9) (nI n9) sk ss sq).eraseIdx 5) hP hD [5] [0, 1, 2, 3, 4, 6] rfl rfl (by decide) (by decide) hk1 hFc hB ((hDc.self (sz := _)).addr rfl)
          have hP := hP.sub (ws' := wX cyI cyZ q0 q1 q2 q3 q4 q5 q6 wc wl sc sl (fa cl 0 1600) ct (nI m9) (nI n9) sk ss sq) [0, 1, 2, 3, 4, 6, 5] rfl
          have hD := hD.sub (ws' := wX cyI cyZ q0 q1 q2 q3 q4 q5 q6 wc wl sc sl (fa cl 0 1600) ct (nI m9) (nI n9) sk ss sq) [0, 1, 2, 3, 4, 6, 5] (by decide) rfl
          generalize H1 = H at hP hS ⊢
          refine lv_iconst (v := nI 0) hx hb dX0_weave_58 (by decide) ?_
          refine lv_istore_n (lv' := [(3, .int (nI 0)), (0, .ref q0), (1, .int (nI m9)), (2, .int (nI n9))]) hx hb dX0_weave_59 rfl hl (by decide) rfl (fun ls hl => ?_)
          refine lpW (N := m9) (I := fun i H locs ls => va_P (dC, dI) vwCl (wX cyI cyZ q0 q1 q2 q3 q4 q5 q6 wc wl sc sl (fa cl 0 1600) (fa ct 0 i) (nI m9) (nI n9) sk ss sq) H ∧ va_D A (wX cyI cyZ q0 q1 q2 q3 q4 q5 q6 wc wl sc sl (fa cl 0 1600) (fa ct 0 i) (nI m9) (nI n9) sk ss sq) ∧ va_S A s.heap H locs ∧ lv_has ls 4 [(3, .int (nI i)), (0, .ref q0), (1, .int (nI m9)), (2, .int (nI n9))]) (fun i hi H locs ls hI ih => ?_) (fun H locs ls hI => ?_) 0 (Nat.zero_le _) ⟨hP, hD, hS, lv_sub hl [0, 1, 2, 3] rfl⟩
          · skip
            obtain ⟨hP, hD, hS, hl⟩ := hI
            refine lv_iload_n hx hb dX0_weave_60 rfl (lv_at hl 0 rfl) ?_
            refine lv_iload_n hx hb dX0_weave_61 rfl (lv_at hl 2 rfl) ?_
            refine lv_icmp_ge (tgt := 78) hx hb dX0_weave_62 (by decide) (fun c_6 => ?_) (fun c_6 => ?_)
            · skip
              exact absurd c_6 (nI_ge (by omega) (by omega))
            · skip
              refine lv_aload_n hx hb dX0_weave_65 rfl (lv_at hl 1 rfl) ?_
              refine va_get (D := (dC, dI)) (ci := 0) (v := .ref q6) (C := RX0) (T := TX0) (N := 11) hx hb hts iw hown hK hP 0 rfl rfl 5 (by decide) (hts (.fieldLink RX0 31 "ReelLoom" "rowIsCut" "[Z") (by decide +kernel)) (fun _ h9 => h9) rfl dX0_weave_66 ?_
              refine lv_iload_n hx hb dX0_weave_69 rfl (lv_at hl 0 rfl) ?_
              refine lv_iconst (v := 0) hx hb dX0_weave_70 (by decide) ?_
              refine va_zast hx hb hK hP hD hS 6 1 rfl rfl (vp_in_nI (by omega) (by omega)) dX0_weave_71 (fun H locs hP hD hS => ?_)
              rw [nI_clamp (show i < 2 ^ 31 by omega)] at hP hD
              have hP : va_P (dC, dI) vwCl (wX cyI cyZ q0 q1 q2 q3 q4 q5 q6 wc wl sc sl (fa cl 0 1600) (fa ct 0 (i + 1)) (nI m9) (nI n9) sk ss sq) H := hP
              have hD : va_D A (wX cyI cyZ q0 q1 q2 q3 q4 q5 q6 wc wl sc sl (fa cl 0 1600) (fa ct 0 (i + 1)) (nI m9) (nI n9) sk ss sq) := hD
              refine lv_iinc (v := nI (i + 1)) (lv' := [(3, .int (nI (i + 1))), (0, .ref q0), (1, .int (nI m9)), (2, .int (nI n9))]) hx hb dX0_weave_72 hl (k := 0) rfl (nI_1 _) (by decide) rfl (fun ls hl => ?_)
              refine lv_goto (tgt := 60) hx hb dX0_weave_75 (by decide) ?_
              exact ih _ _ _ ⟨hP, hD, hS, lv_sub hl [0, 1, 2, 3] rfl⟩
          · skip
            obtain ⟨hP, hD, hS, hl⟩ := hI
            refine lv_iload_n hx hb dX0_weave_60 rfl (lv_at hl 0 rfl) ?_
            refine lv_iload_n hx hb dX0_weave_61 rfl (lv_at hl 2 rfl) ?_
            refine lv_icmp_ge (tgt := 78) hx hb dX0_weave_62 (by decide) (fun c_7 => ?_) (fun c_7 => ?_)
            · skip
              refine lv_iload_n hx hb dX0_weave_78 rfl (lv_at hl 2 rfl) ?_
              refine lv_iload_n hx hb dX0_weave_79 rfl (lv_at hl 3 rfl) ?_
              refine lv_imul hx hb dX0_weave_80 ?_
              refine vx_ret ?_
              refine W.widen (k := 1) (n := 6) (by decide) (by decide) ?_
              exact W.iret (v := ((nI m9) * (nI n9))) hx hb hr (fun t ht hW => ⟨⟨((nI m9) * (nI n9)), (m9, n9), rfl, ⟨rfl, hm9, rfl, hn9, pk_mul _ _⟩, by show va_P (dC, dI) vwCl (wX cyI cyZ q0 q1 q2 q3 q4 q5 q6 wc wl sc sl (fa cl 0 1600) (fa ct 0 m9) (nI m9) (nI n9) sk ss sq) t.heap; rw [ht]; exact hP⟩, hS.F ht⟩) hS.2.2 dX0_weave_81
            · skip
              exact absurd (nI_le (Nat.le_refl _) (by omega)) c_7
        · skip
          obtain ⟨sa, hsa⟩ := hz.2.2.2 92 "a cloth has no less than 0 rows and columns" (by decide)
          exact vx_throwS hx hb hst (own := RX0) (cls := "java/lang/IllegalArgumentException") (text := "a cloth has no less than 0 rows and columns") (names := zN) (ik := 55) (is := 92) (ic := 59) (sa := sa) (A := A) hown (by decide) (by decide) (hts (.classLink RX0 55 "java/lang/IllegalArgumentException") (by decide +kernel)) (hts (.initialized "java/lang/IllegalArgumentException") (by decide +kernel)) hsa (zHatIA hz (fun w h => hts w (List.mem_cons_of_mem _ (List.mem_append_right _ h)))) zGdIA hz.1 hz.2.1 hS (hl.1.trans hml.symm) dX0_weave_30 dX0_weave_33 dX0_weave_34 dX0_weave_36 dX0_weave_39 (fun y h => (hne y h).elim) (by decide) (by decide) (by decide) (by decide) hlocks (fun t hal hz9 hk9 => ⟨Or.inr ⟨rfl, fun h => h.elim h3 (fun h => absurd h9 (Int32.not_le.mpr h)), by first | exact Or.inl h23 | exact Or.inr (Int32.not_le.mp h27)⟩, hz9, hk9⟩) hS.2.2 (by decide) (by decide)
    · skip
      obtain ⟨sa, hsa⟩ := hz.2.2.2 89 "a cloth has at most 40 rows and columns" (by decide)
      exact vx_throwS hx hb hst (own := RX0) (cls := "java/lang/UnsupportedOperationException") (text := "a cloth has at most 40 rows and columns") (names := zN) (ik := 87) (is := 89) (ic := 91) (sa := sa) (A := A) hown (by decide) (by decide) (hts (.classLink RX0 87 "java/lang/UnsupportedOperationException") (by decide +kernel)) (hts (.initialized "java/lang/UnsupportedOperationException") (by decide +kernel)) hsa (zHatUO hz (fun w h => hts w (List.mem_cons_of_mem _ (List.mem_append_left _ (List.mem_append_right _ h))))) zGdUO hz.1 hz.2.1 hS (hl.1.trans hml.symm) dX0_weave_12 dX0_weave_15 dX0_weave_16 dX0_weave_18 dX0_weave_21 (fun y h => (hne y h).elim) (by decide) (by decide) (by decide) (by decide) hlocks (fun t hal hz9 hk9 => ⟨Or.inl ⟨rfl, by first | exact Or.inl h3 | exact Or.inr (Int32.not_le.mp h9)⟩, hz9, hk9⟩) hS.2.2 (by decide) (by decide)
set_option maxHeartbeats 4000000 in
set_option maxRecDepth 100000 in
theorem k_X0_stop (l : Launch) (hst : l.stackTraces = false) (dC : Nat → ClassId) (dI : Nat → Nat → Nat) (cyI cyZ : ClassId) (H0 : Heap) (q0 q1 q2 q3 q4 q5 q6 : Nat) (wc wl sc sl cl ct : Nat → Int32) (rw co sk ss sq : Int32) (hP : va_P (dC, dI) vwCl (wX cyI cyZ q0 q1 q2 q3 q4 q5 q6 wc wl sc sl cl ct rw co sk ss sq) H0) (hD0 : va_D (fun _ => True) (wX cyI cyZ q0 q1 q2 q3 q4 q5 q6 wc wl sc sl cl ct rw co sk ss sq)) (x : Int32)  : vx_Met l yX0_stop wsX0_stop ({ frames := 6, cells := 1, slots := 6, locals := 90 }) (va_Pc [.ref q0, .int x] (pZ dC dI (tyW cyI cyZ) H0 (va_A (wX cyI cyZ q0 q1 q2 q3 q4 q5 q6 wc wl sc sl cl ct rw co sk ss sq) H0.size))) (va_Qi (fun (r : Int32) (_ : Unit) => (x = 0 ∧ r = sk) ∨ (x = 1 ∧ r = ss) ∨ (x = 2 ∧ r = sq)) (fun (_ : Unit) (t : State) => va_P (dC, dI) vwCl (wX cyI cyZ q0 q1 q2 q3 q4 q5 q6 wc wl sc sl cl ct rw co sk ss sq) t.heap) (va_A (wX cyI cyZ q0 q1 q2 q3 q4 q5 q6 wc wl sc sl cl ct rw co sk ss sq) H0.size)) (gx_X (fun E : String => E = eIA ∧ (x.toInt < 0 ∨ 2 < x.toInt)) H0) 1 6 (va_A (wX cyI cyZ q0 q1 q2 q3 q4 q5 q6 wc wl sc sl cl ct rw co sk ss sq) H0.size) := by
  refine vx_ofW (cc := cX0_stop) (maxL := 2) (ret := (some .int)) (by decide) rfl ?_
  intro p e s m args below meth c s₁ B hml hne hv
  obtain ⟨rfl, rfl, hK, hz⟩ := hv
  have hx := B.exec
  have hb := B.bytes
  have hr := B.returns
  have hts := atoms_spec (ws := wsX0_stop) B.pre
  have hown : s.vm.findClass RX0 = some m.cls := findClass_of_methodNamed B.named
  have hlocks := B.notSynchronized
  have hD := hD0.self (sz := s.heap.size)
  generalize hAe : (va_A (wX cyI cyZ q0 q1 q2 q3 q4 q5 q6 wc wl sc sl cl ct rw co sk ss sq) s.heap.size) = A at hD hz ⊢
  have hA : ∀ q : Nat, s.heap.size ≤ q → A q := fun q h => by rw [← hAe]; exact Or.inr h
  have hS : va_S A s.heap s.heap [] := va_S.rf
  have hl := lv_entry ([.ref q0, .int x]) (n := 2) (Nat.le_of_ble_eq_true rfl)
  rw [lg_entry_eq]
  generalize (lg_sl ([.ref q0, .int x]) ++ List.replicate (2 - (lg_sl ([.ref q0, .int x])).length) Slot.unset).toArray = ls at hl ⊢
  have hl : lv_has ls 2 [(0, .ref q0), (1, .int x)] := hl
  have iw : ∀ w ∈ wsX00, w ∈ wsX0_stop := by decide +kernel
  refine lv_iload_n hx hb dX0_stop_0 rfl (lv_at hl 1 rfl) ?_
  rcases sw3 x with rfl | rfl | rfl | hout
  · skip
    refine lv_tableIn (off := 27) (tgt := 28) hx hb dX0_stop_1 (by decide +kernel) (by decide +kernel) (by decide +kernel) (by decide) ?_
    refine lv_aload_n hx hb dX0_stop_28 rfl (lv_at hl 0 rfl) ?_
    refine va_get (D := (dC, dI)) (ci := 0) (v := .int sk) (C := RX0) (T := TX0) (N := 11) hx hb hts iw hown hK hP 0 rfl rfl 8 (by decide) (hts (.fieldLink RX0 42 "ReelLoom" "stopKind" "I") (by decide +kernel)) (fun _ h9 => h9) rfl dX0_stop_29 ?_
    refine vx_ret ?_
    refine W.widen (k := 1) (n := 6) (by decide) (by decide) ?_
    exact W.iret (v := sk) hx hb hr (fun t ht hW => ⟨⟨sk, (), rfl, Or.inl ⟨rfl, rfl⟩, by show va_P (dC, dI) vwCl (wX cyI cyZ q0 q1 q2 q3 q4 q5 q6 wc wl sc sl cl ct rw co sk ss sq) t.heap; rw [ht]; exact hP⟩, hS.F ht⟩) hS.2.2 dX0_stop_32
  · skip
    refine lv_tableIn (off := 32) (tgt := 33) hx hb dX0_stop_1 (by decide +kernel) (by decide +kernel) (by decide +kernel) (by decide) ?_
    refine lv_aload_n hx hb dX0_stop_33 rfl (lv_at hl 0 rfl) ?_
    refine va_get (D := (dC, dI)) (ci := 0) (v := .int ss) (C := RX0) (T := TX0) (N := 11) hx hb hts iw hown hK hP 0 rfl rfl 9 (by decide) (hts (.fieldLink RX0 45 "ReelLoom" "stopSort" "I") (by decide +kernel)) (fun _ h9 => h9) rfl dX0_stop_34 ?_
    refine vx_ret ?_
    refine W.widen (k := 1) (n := 6) (by decide) (by decide) ?_
    exact W.iret (v := ss) hx hb hr (fun t ht hW => ⟨⟨ss, (), rfl, Or.inr (Or.inl ⟨rfl, rfl⟩), by show va_P (dC, dI) vwCl (wX cyI cyZ q0 q1 q2 q3 q4 q5 q6 wc wl sc sl cl ct rw co sk ss sq) t.heap; rw [ht]; exact hP⟩, hS.F ht⟩) hS.2.2 dX0_stop_37
  · skip
    refine lv_tableIn (off := 37) (tgt := 38) hx hb dX0_stop_1 (by decide +kernel) (by decide +kernel) (by decide +kernel) (by decide) ?_
    refine lv_aload_n hx hb dX0_stop_38 rfl (lv_at hl 0 rfl) ?_
    refine va_get (D := (dC, dI)) (ci := 0) (v := .int sq) (C := RX0) (T := TX0) (N := 11) hx hb hts iw hown hK hP 0 rfl rfl 10 (by decide) (hts (.fieldLink RX0 48 "ReelLoom" "stopColumn" "I") (by decide +kernel)) (fun _ h9 => h9) rfl dX0_stop_39 ?_
    refine vx_ret ?_
    refine W.widen (k := 1) (n := 6) (by decide) (by decide) ?_
    exact W.iret (v := sq) hx hb hr (fun t ht hW => ⟨⟨sq, (), rfl, Or.inr (Or.inr ⟨rfl, rfl⟩), by show va_P (dC, dI) vwCl (wX cyI cyZ q0 q1 q2 q3 q4 q5 q6 wc wl sc sl cl ct rw co sk ss sq) t.heap; rw [ht]; exact hP⟩, hS.F ht⟩) hS.2.2 dX0_stop_42
  · skip
    refine lv_tableOut (tgt := 43) hx hb dX0_stop_1 hout (by decide) ?_
    obtain ⟨sa, hsa⟩ := hz.2.2.2 107 "a stop is asked for 0 to 2" (by decide)
    exact vx_throwS hx hb hst (own := RX0) (cls := "java/lang/IllegalArgumentException") (text := "a stop is asked for 0 to 2") (names := zN) (ik := 55) (is := 107) (ic := 59) (sa := sa) (A := A) hown (by decide) (by decide) (hts (.classLink RX0 55 "java/lang/IllegalArgumentException") (by decide +kernel)) (hts (.initialized "java/lang/IllegalArgumentException") (by decide +kernel)) hsa (zHatIA hz (fun w h => hts w (List.mem_cons_of_mem _ (List.mem_append_right _ h)))) zGdIA hz.1 hz.2.1 hS (hl.1.trans hml.symm) dX0_stop_43 dX0_stop_46 dX0_stop_47 dX0_stop_49 dX0_stop_52 (fun y h => (hne y h).elim) (by decide) (by decide) (by decide) (by decide) hlocks (fun t hal hz9 hk9 => ⟨⟨rfl, hout⟩, hz9, hk9⟩) hS.2.2 (by decide) (by decide)
set_option maxHeartbeats 4000000 in
set_option maxRecDepth 100000 in
theorem k_X0_cut (l : Launch) (hst : l.stackTraces = false) (dC : Nat → ClassId) (dI : Nat → Nat → Nat) (cyI cyZ : ClassId) (H0 : Heap) (q0 q1 q2 q3 q4 q5 q6 : Nat) (wc wl sc sl cl ct : Nat → Int32) (rw co sk ss sq : Int32) (hP : va_P (dC, dI) vwCl (wX cyI cyZ q0 q1 q2 q3 q4 q5 q6 wc wl sc sl cl ct rw co sk ss sq) H0) (hD0 : va_D (fun _ => True) (wX cyI cyZ q0 q1 q2 q3 q4 q5 q6 wc wl sc sl cl ct rw co sk ss sq)) (x : Int32) (hrw : rw ≤ nI 40) : vx_Met l yX0_cut wsX0_cut ({ frames := 7, cells := 1, slots := 6, locals := 111 }) (va_Pc [.ref q0, .int x] (pZ dC dI (tyW cyI cyZ) H0 (va_A (wX cyI cyZ q0 q1 q2 q3 q4 q5 q6 wc wl sc sl cl ct rw co sk ss sq) H0.size))) (va_Qi (fun (r : Int32) (u : Nat) => match u with | ro => x = nI ro ∧ ro < 40 ∧ lkR rw ct x = 0 ∧ r = co) (fun (u : Nat) (t : State) => match u with | ro => va_P (dC, dI) vwCl (wX cyI cyZ q0 q1 q2 q3 q4 q5 q6 wc wl sc sl cl (upd ct ro 1) rw co sk ss sq) t.heap) (va_A (wX cyI cyZ q0 q1 q2 q3 q4 q5 q6 wc wl sc sl cl ct rw co sk ss sq) H0.size)) (gx_X (fun E : String => (E = eIS ∧ lkR rw ct x = 1) ∨ (E = eIO ∧ lkR rw ct x = 2)) H0) 1 6 (va_A (wX cyI cyZ q0 q1 q2 q3 q4 q5 q6 wc wl sc sl cl ct rw co sk ss sq) H0.size) := by
  refine vx_ofW (cc := cX0_cut) (maxL := 2) (ret := (some .int)) (by decide) rfl ?_
  intro p e s m args below meth c s₁ B hml hne hv
  obtain ⟨rfl, rfl, hK, hz⟩ := hv
  have hx := B.exec
  have hb := B.bytes
  have hr := B.returns
  have hts := atoms_spec (ws := wsX0_cut) B.pre
  have hown : s.vm.findClass RX0 = some m.cls := findClass_of_methodNamed B.named
  have hlocks := B.notSynchronized
  have hD := hD0.self (sz := s.heap.size)
  generalize hAe : (va_A (wX cyI cyZ q0 q1 q2 q3 q4 q5 q6 wc wl sc sl cl ct rw co sk ss sq) s.heap.size) = A at hD hz ⊢
  have hA : ∀ q : Nat, s.heap.size ≤ q → A q := fun q h => by rw [← hAe]; exact Or.inr h
  have hS : va_S A s.heap s.heap [] := va_S.rf
  have hl := lv_entry ([.ref q0, .int x]) (n := 2) (Nat.le_of_ble_eq_true rfl)
  rw [lg_entry_eq]
  generalize (lg_sl ([.ref q0, .int x]) ++ List.replicate (2 - (lg_sl ([.ref q0, .int x])).length) Slot.unset).toArray = ls at hl ⊢
  have hl : lv_has ls 2 [(0, .ref q0), (1, .int x)] := hl
  have iw : ∀ w ∈ wsX00, w ∈ wsX0_cut := by decide +kernel
  refine lv_aload_n hx hb dX0_cut_0 rfl (lv_at hl 0 rfl) ?_
  refine gx_callv (vx_runV (As := []) (rest := []) ⟨hx, hb, hml, hown, hts⟩ (k_X0_requireCloth l hst dC dI cyI cyZ _ q0 q1 q2 q3 q4 q5 q6 wc wl sc sl cl ct rw co sk ss sq hP (hD.weaken (fun _ _ _ _ => trivial))  ) (cwV 0 hts gX0_cut_X0_requireCloth rfl rfl rfl (by decide +kernel) ⟨Nat.le_of_ble_eq_true rfl, Nat.le_of_ble_eq_true rfl⟩) (pZ_V hK hz hS (fun q h => hA q (Nat.le_trans hS.1 h)) (va_recv hK hP (ci := 0) (q0 := 0) rfl rfl)) rfl rfl hl.1 rfl (lv_room (Nat.le_of_ble_eq_true rfl)) dX0_cut_1 ⟨Nat.le_of_ble_eq_true rfl, Nat.le_of_ble_eq_true rfl⟩) hS (fun q h => hA q (Nat.le_trans hS.1 h)) (fun E ce q9 H1 locs1 hbad hz9 hk9 hS9 hce hcv hcl => ?_) (fun hok => ?_)
  · skip
    exact vx_out (fun y h => (hne y h).elim) hlocks hce hcv hcl (fun t ht _ => ⟨Or.inl ⟨hbad.1, by unfold lkR; rw [if_pos hbad.2]⟩, by rw [ht]; exact hz9, fun q hq => by rw [ht]; exact hk9 q hq⟩) hS9.2.2 (by decide) (by decide)
  · skip
    have k1 := hok
    refine lv_aload_n hx hb dX0_cut_4 rfl (lv_at hl 0 rfl) ?_
    refine lv_iload_n hx hb dX0_cut_5 rfl (lv_at hl 1 rfl) ?_
    refine gx_callv (vx_runV (As := [.int x]) (rest := []) ⟨hx, hb, hml, hown, hts⟩ (k_X0_requireRow l hst dC dI cyI cyZ _ q0 q1 q2 q3 q4 q5 q6 wc wl sc sl cl ct rw co sk ss sq hP (hD.weaken (fun _ _ _ _ => trivial)) x ) (cwV 1 hts gX0_cut_X0_requireRow rfl rfl rfl (by decide +kernel) ⟨Nat.le_of_ble_eq_true rfl, Nat.le_of_ble_eq_true rfl⟩) (pZ_V hK hz hS (fun q h => hA q (Nat.le_trans hS.1 h)) (va_recv hK hP (ci := 0) (q0 := 0) rfl rfl)) rfl rfl hl.1 rfl (lv_room (Nat.le_of_ble_eq_true rfl)) dX0_cut_6 ⟨Nat.le_of_ble_eq_true rfl, Nat.le_of_ble_eq_true rfl⟩) hS (fun q h => hA q (Nat.le_trans hS.1 h)) (fun E ce q9 H1 locs1 hbad hz9 hk9 hS9 hce hcv hcl => ?_) (fun hok => ?_)
    · skip
      exact vx_out (fun y h => (hne y h).elim) hlocks hce hcv hcl (fun t ht _ => ⟨Or.inr ⟨hbad.1, by unfold lkR rlk; rw [if_neg k1, if_pos hbad.2]⟩, by rw [ht]; exact hz9, fun q hq => by rw [ht]; exact hk9 q hq⟩) hS9.2.2 (by decide) (by decide)
    · skip
      have k2 := hok
      obtain ⟨ro, hro, rfl⟩ := in_of (n := 40) (by decide) hok.1 (i_lt hok.2 hrw)
      have e9 : (nI ro).toNatClampNeg = ro := nI_clamp (by omega)
      refine lv_aload_n hx hb dX0_cut_9 rfl (lv_at hl 0 rfl) ?_
      refine lv_iload_n hx hb dX0_cut_10 rfl (lv_at hl 1 rfl) ?_
      refine gx_callv (vx_runV (As := [.int (nI ro)]) (rest := []) ⟨hx, hb, hml, hown, hts⟩ (k_X0_requireUncut l hst dC dI cyI cyZ _ q0 q1 q2 q3 q4 q5 q6 wc wl sc sl cl ct rw co sk ss sq hP (hD.weaken (fun _ _ _ _ => trivial)) ro (by omega)) (cwV 1 hts gX0_cut_X0_requireUncut rfl rfl rfl (by decide +kernel) ⟨Nat.le_of_ble_eq_true rfl, Nat.le_of_ble_eq_true rfl⟩) (pZ_V hK hz hS (fun q h => hA q (Nat.le_trans hS.1 h)) (va_recv hK hP (ci := 0) (q0 := 0) rfl rfl)) rfl rfl hl.1 rfl (lv_room (Nat.le_of_ble_eq_true rfl)) dX0_cut_11 ⟨Nat.le_of_ble_eq_true rfl, Nat.le_of_ble_eq_true rfl⟩) hS (fun q h => hA q (Nat.le_trans hS.1 h)) (fun E ce q9 H1 locs1 hbad hz9 hk9 hS9 hce hcv hcl => ?_) (fun hok => ?_)
      · skip
        exact vx_out (fun y h => (hne y h).elim) hlocks hce hcv hcl (fun t ht _ => ⟨Or.inl ⟨hbad.1, by unfold lkR rlk; rw [if_neg k1, if_neg (not_not_intro k2), e9, if_pos hbad.2]⟩, by rw [ht]; exact hz9, fun q hq => by rw [ht]; exact hk9 q hq⟩) hS9.2.2 (by decide) (by decide)
      · skip
        have k3 := hok
        refine lv_aload_n hx hb dX0_cut_14 rfl (lv_at hl 0 rfl) ?_
        refine va_get (D := (dC, dI)) (ci := 0) (v := .ref q6) (C := RX0) (T := TX0) (N := 11) hx hb hts iw hown hK hP 0 rfl rfl 5 (by decide) (hts (.fieldLink RX0 31 "ReelLoom" "rowIsCut" "[Z") (by decide +kernel)) (fun _ h9 => h9) rfl dX0_cut_15 ?_
        refine lv_iload_n hx hb dX0_cut_18 rfl (lv_at hl 1 rfl) ?_
        refine lv_iconst (v := 1) hx hb dX0_cut_19 (by decide) ?_
        refine va_zast hx hb hK hP hD hS 6 1 rfl rfl (vp_in_nI (by omega) (by omega)) dX0_cut_20 (fun H locs hP hD hS => ?_)
        rw [nI_clamp (show ro < 2 ^ 31 by omega)] at hP hD
        have hP : va_P (dC, dI) vwCl (wX cyI cyZ q0 q1 q2 q3 q4 q5 q6 wc wl sc sl cl (upd ct ro 1) rw co sk ss sq) H := hP
        have hD : va_D A (wX cyI cyZ q0 q1 q2 q3 q4 q5 q6 wc wl sc sl cl (upd ct ro 1) rw co sk ss sq) := hD
        refine lv_aload_n hx hb dX0_cut_21 rfl (lv_at hl 0 rfl) ?_
        refine va_get (D := (dC, dI)) (ci := 0) (v := .int co) (C := RX0) (T := TX0) (N := 11) hx hb hts iw hown hK hP 0 rfl rfl 7 (by decide) (hts (.fieldLink RX0 39 "ReelLoom" "columns" "I") (by decide +kernel)) (fun _ h9 => h9) rfl dX0_cut_22 ?_
        refine vx_ret ?_
        refine W.widen (k := 1) (n := 6) (by decide) (by decide) ?_
        exact W.iret (v := co) hx hb hr (fun t ht hW => ⟨⟨co, ro, rfl, ⟨rfl, hro, by unfold lkR rlk; rw [if_neg k1, if_neg (not_not_intro k2), e9, if_neg (not_not_intro k3)], rfl⟩, by show va_P (dC, dI) vwCl (wX cyI cyZ q0 q1 q2 q3 q4 q5 q6 wc wl sc sl cl (upd ct ro 1) rw co sk ss sq) t.heap; rw [ht]; exact hP⟩, hS.F ht⟩) hS.2.2 dX0_cut_25
set_option maxHeartbeats 4000000 in
set_option maxRecDepth 100000 in
theorem k_X0_cell (l : Launch) (hst : l.stackTraces = false) (dC : Nat → ClassId) (dI : Nat → Nat → Nat) (cyI cyZ : ClassId) (H0 : Heap) (q0 q1 q2 q3 q4 q5 q6 : Nat) (wc wl sc sl cl ct : Nat → Int32) (rw co sk ss sq : Int32) (hP : va_P (dC, dI) vwCl (wX cyI cyZ q0 q1 q2 q3 q4 q5 q6 wc wl sc sl cl ct rw co sk ss sq) H0) (hD0 : va_D (fun _ => True) (wX cyI cyZ q0 q1 q2 q3 q4 q5 q6 wc wl sc sl cl ct rw co sk ss sq)) (x : Int32) (y : Int32) (hrw : rw ≤ nI 40) (hco : co ≤ nI 40) : vx_Met l yX0_cell wsX0_cell ({ frames := 8, cells := 1, slots := 6, locals := 133 }) (va_Pc [.ref q0, .int x, .int y] (pZ dC dI (tyW cyI cyZ) H0 (va_A (wX cyI cyZ q0 q1 q2 q3 q4 q5 q6 wc wl sc sl cl ct rw co sk ss sq) H0.size))) (va_Qi (fun (r : Int32) (u : Nat × Nat) => match u with | (ro, j) => x = nI ro ∧ ro < 40 ∧ y = nI j ∧ j < 40 ∧ lkC rw co ct x y = 0 ∧ r = cl (ro * 40 + j)) (fun (u : Nat × Nat) (t : State) => match u with | (ro, j) => va_P (dC, dI) vwCl (wX cyI cyZ q0 q1 q2 q3 q4 q5 q6 wc wl sc sl cl ct rw co sk ss sq) t.heap) (va_A (wX cyI cyZ q0 q1 q2 q3 q4 q5 q6 wc wl sc sl cl ct rw co sk ss sq) H0.size)) (gx_X (fun E : String => (E = eIS ∧ lkC rw co ct x y = 1) ∨ (E = eIO ∧ lkC rw co ct x y = 2)) H0) 1 6 (va_A (wX cyI cyZ q0 q1 q2 q3 q4 q5 q6 wc wl sc sl cl ct rw co sk ss sq) H0.size) := by
  refine vx_ofW (cc := cX0_cell) (maxL := 3) (ret := (some .int)) (by decide) rfl ?_
  intro p e s m args below meth c s₁ B hml hne hv
  obtain ⟨rfl, rfl, hK, hz⟩ := hv
  have hx := B.exec
  have hb := B.bytes
  have hr := B.returns
  have hts := atoms_spec (ws := wsX0_cell) B.pre
  have hown : s.vm.findClass RX0 = some m.cls := findClass_of_methodNamed B.named
  have hlocks := B.notSynchronized
  have hD := hD0.self (sz := s.heap.size)
  generalize hAe : (va_A (wX cyI cyZ q0 q1 q2 q3 q4 q5 q6 wc wl sc sl cl ct rw co sk ss sq) s.heap.size) = A at hD hz ⊢
  have hA : ∀ q : Nat, s.heap.size ≤ q → A q := fun q h => by rw [← hAe]; exact Or.inr h
  have hS : va_S A s.heap s.heap [] := va_S.rf
  have hl := lv_entry ([.ref q0, .int x, .int y]) (n := 3) (Nat.le_of_ble_eq_true rfl)
  rw [lg_entry_eq]
  generalize (lg_sl ([.ref q0, .int x, .int y]) ++ List.replicate (3 - (lg_sl ([.ref q0, .int x, .int y])).length) Slot.unset).toArray = ls at hl ⊢
  have hl : lv_has ls 3 [(0, .ref q0), (1, .int x), (2, .int y)] := hl
  have iw : ∀ w ∈ wsX00, w ∈ wsX0_cell := by decide +kernel
  refine lv_aload_n hx hb dX0_cell_0 rfl (lv_at hl 0 rfl) ?_
  refine lv_iload_n hx hb dX0_cell_1 rfl (lv_at hl 1 rfl) ?_
  refine lv_iload_n hx hb dX0_cell_2 rfl (lv_at hl 2 rfl) ?_
  refine gx_callv (vx_runV (As := [.int x, .int y]) (rest := []) ⟨hx, hb, hml, hown, hts⟩ (k_X0_requireClothCell l hst dC dI cyI cyZ _ q0 q1 q2 q3 q4 q5 q6 wc wl sc sl cl ct rw co sk ss sq hP (hD.weaken (fun _ _ _ _ => trivial)) x y hrw) (cwV 2 hts gX0_cell_X0_requireClothCell rfl rfl rfl (by decide +kernel) ⟨Nat.le_of_ble_eq_true rfl, Nat.le_of_ble_eq_true rfl⟩) (pZ_V hK hz hS (fun q h => hA q (Nat.le_trans hS.1 h)) (va_recv hK hP (ci := 0) (q0 := 0) rfl rfl)) rfl rfl hl.1 rfl (lv_room (Nat.le_of_ble_eq_true rfl)) dX0_cell_3 ⟨Nat.le_of_ble_eq_true rfl, Nat.le_of_ble_eq_true rfl⟩) hS (fun q h => hA q (Nat.le_trans hS.1 h)) (fun E ce q9 H1 locs1 hbad hz9 hk9 hS9 hce hcv hcl => ?_) (fun hok => ?_)
  · skip
    exact vx_out (fun y h => (hne y h).elim) hlocks hce hcv hcl (fun t ht _ => ⟨hbad, by rw [ht]; exact hz9, fun q hq => by rw [ht]; exact hk9 q hq⟩) hS9.2.2 (by decide) (by decide)
  · skip
    have hlk := hok
    obtain ⟨k1, k2, k3, k4⟩ := lkC_0 hok
    obtain ⟨ro, hro, rfl⟩ := in_of (n := 40) (by decide) k2.1 (i_lt k2.2 hrw)
    obtain ⟨j, hj, rfl⟩ := in_of (n := 40) (by decide) k4.1 (i_lt k4.2 hco)
    refine lv_aload_n hx hb dX0_cell_6 rfl (lv_at hl 0 rfl) ?_
    refine va_get (D := (dC, dI)) (ci := 0) (v := .ref q5) (C := RX0) (T := TX0) (N := 11) hx hb hts iw hown hK hP 0 rfl rfl 4 (by decide) (hts (.fieldLink RX0 28 "ReelLoom" "clothCells" "[I") (by decide +kernel)) (fun _ h9 => h9) rfl dX0_cell_7 ?_
    refine lv_iload_n hx hb dX0_cell_10 rfl (lv_at hl 1 rfl) ?_
    refine lv_iload_n hx hb dX0_cell_11 rfl (lv_at hl 2 rfl) ?_
    refine gx_calli (va_runS (As := [.int (nI ro), .int (nI j)]) (rest := [.ref q5]) ⟨hx, hb, hml, hown, hts⟩ (k_X0_clothIndex l dC dI  _   ro j ) (va_cwS 2 hts gX0_cell_X0_clothIndex rfl rfl rfl (by decide +kernel) ⟨Nat.le_of_ble_eq_true rfl, Nat.le_of_ble_eq_true rfl⟩) (pK_S (hK.sub (tys' := []) [] rfl)) rfl rfl hl.1 rfl (lv_room (Nat.le_of_ble_eq_true rfl)) dX0_cell_12 ⟨Nat.le_of_ble_eq_true rfl, Nat.le_of_ble_eq_true rfl⟩) (fun r_1 hr_1 => ?_)
    subst hr_1
    refine va_iald hx hb hK hP 5 0 rfl rfl (vp_in_nI (by omega) (by omega)) dX0_cell_15 ?_
    rw [nI_clamp (show (ro * 40 + j) < 2 ^ 31 by omega)]
    refine vx_ret ?_
    refine W.widen (k := 1) (n := 6) (by decide) (by decide) ?_
    exact W.iret (v := (cl ((ro * 40 + j)))) hx hb hr (fun t ht hW => ⟨⟨(cl ((ro * 40 + j))), (ro, j), rfl, ⟨rfl, hro, rfl, hj, hlk, rfl⟩, by show va_P (dC, dI) vwCl (wX cyI cyZ q0 q1 q2 q3 q4 q5 q6 wc wl sc sl cl ct rw co sk ss sq) t.heap; rw [ht]; exact hP⟩, hS.F ht⟩) hS.2.2 dX0_cell_16
set_option maxHeartbeats 4000000 in
set_option maxRecDepth 100000 in
theorem k_X0_dye (l : Launch) (hst : l.stackTraces = false) (dC : Nat → ClassId) (dI : Nat → Nat → Nat) (cyI cyZ : ClassId) (H0 : Heap) (q0 q1 q2 q3 q4 q5 q6 : Nat) (wc wl sc sl cl ct : Nat → Int32) (rw co sk ss sq : Int32) (hP : va_P (dC, dI) vwCl (wX cyI cyZ q0 q1 q2 q3 q4 q5 q6 wc wl sc sl cl ct rw co sk ss sq) H0) (hD0 : va_D (fun _ => True) (wX cyI cyZ q0 q1 q2 q3 q4 q5 q6 wc wl sc sl cl ct rw co sk ss sq)) (x : Int32) (y : Int32) (h : Int32) (v : Int32) (hrw : rw ≤ nI 40) (hco : co ≤ nI 40) : vx_Met l yX0_dye wsX0_dye ({ frames := 8, cells := 1, slots := 6, locals := 133 }) (va_Pc [.ref q0, .int x, .int y, .int h, .int v] (pZ dC dI (tyW cyI cyZ) H0 (va_A (wX cyI cyZ q0 q1 q2 q3 q4 q5 q6 wc wl sc sl cl ct rw co sk ss sq) H0.size))) (va_Qi (fun (r : Int32) (u : Nat × Nat) => match u with | (ro, j) => x = nI ro ∧ ro < 40 ∧ y = nI j ∧ j < 40 ∧ (¬ h < 0 ∧ h ≤ nI 8) ∧ lkC rw co ct x y = 0 ∧ r = cb (cl (ro * 40 + j)) h v) (fun (u : Nat × Nat) (t : State) => match u with | (ro, j) => va_P (dC, dI) vwCl (wX cyI cyZ q0 q1 q2 q3 q4 q5 q6 wc wl sc sl (upd cl (ro * 40 + j) (cb (cl (ro * 40 + j)) h v)) ct rw co sk ss sq) t.heap) (va_A (wX cyI cyZ q0 q1 q2 q3 q4 q5 q6 wc wl sc sl cl ct rw co sk ss sq) H0.size)) (gx_X (fun E : String => (E = eIA ∧ ¬ (¬ h < 0 ∧ h ≤ nI 8)) ∨ (E = eIS ∧ (¬ h < 0 ∧ h ≤ nI 8) ∧ lkC rw co ct x y = 1) ∨ (E = eIO ∧ (¬ h < 0 ∧ h ≤ nI 8) ∧ lkC rw co ct x y = 2)) H0) 1 6 (va_A (wX cyI cyZ q0 q1 q2 q3 q4 q5 q6 wc wl sc sl cl ct rw co sk ss sq) H0.size) := by
  refine vx_ofW (cc := cX0_dye) (maxL := 6) (ret := (some .int)) (by decide) rfl ?_
  intro p e s m args below meth c s₁ B hml hne hv
  obtain ⟨rfl, rfl, hK, hz⟩ := hv
  have hx := B.exec
  have hb := B.bytes
  have hr := B.returns
  have hts := atoms_spec (ws := wsX0_dye) B.pre
  have hown : s.vm.findClass RX0 = some m.cls := findClass_of_methodNamed B.named
  have hlocks := B.notSynchronized
  have hD := hD0.self (sz := s.heap.size)
  generalize hAe : (va_A (wX cyI cyZ q0 q1 q2 q3 q4 q5 q6 wc wl sc sl cl ct rw co sk ss sq) s.heap.size) = A at hD hz ⊢
  have hA : ∀ q : Nat, s.heap.size ≤ q → A q := fun q h => by rw [← hAe]; exact Or.inr h
  have hS : va_S A s.heap s.heap [] := va_S.rf
  have hl := lv_entry ([.ref q0, .int x, .int y, .int h, .int v]) (n := 6) (Nat.le_of_ble_eq_true rfl)
  rw [lg_entry_eq]
  generalize (lg_sl ([.ref q0, .int x, .int y, .int h, .int v]) ++ List.replicate (6 - (lg_sl ([.ref q0, .int x, .int y, .int h, .int v])).length) Slot.unset).toArray = ls at hl ⊢
  have hl : lv_has ls 6 [(0, .ref q0), (1, .int x), (2, .int y), (3, .int h), (4, .int v)] := hl
  have iw : ∀ w ∈ wsX00, w ∈ wsX0_dye := by decide +kernel
  refine lv_iload_n hx hb dX0_dye_0 rfl (lv_at hl 3 rfl) ?_
  refine gx_callv (vx_runS (As := [.int h]) (rest := []) ⟨hx, hb, hml, hown, hts⟩ (k_X0_requireHow l hst dC dI  _   h ) (va_cwS 1 hts gX0_dye_X0_requireHow rfl rfl rfl (by decide +kernel) ⟨Nat.le_of_ble_eq_true rfl, Nat.le_of_ble_eq_true rfl⟩) (pZ_S (hK.sub (tys' := []) [] rfl) hz hS (fun q h => hA q (Nat.le_trans hS.1 h))) rfl rfl hl.1 rfl (lv_room (Nat.le_of_ble_eq_true rfl)) dX0_dye_1 ⟨Nat.le_of_ble_eq_true rfl, Nat.le_of_ble_eq_true rfl⟩) hS (fun q h => hA q (Nat.le_trans hS.1 h)) (fun E ce q9 H1 locs1 hbad hz9 hk9 hS9 hce hcv hcl => ?_) (fun hok => ?_)
  · skip
    exact vx_out (fun y h => (hne y h).elim) hlocks hce hcv hcl (fun t ht _ => ⟨Or.inl hbad, by rw [ht]; exact hz9, fun q hq => by rw [ht]; exact hk9 q hq⟩) hS9.2.2 (by decide) (by decide)
  · skip
    have hh := hok
    refine lv_aload_n hx hb dX0_dye_4 rfl (lv_at hl 0 rfl) ?_
    refine lv_iload_n hx hb dX0_dye_5 rfl (lv_at hl 1 rfl) ?_
    refine lv_iload_n hx hb dX0_dye_6 rfl (lv_at hl 2 rfl) ?_
    refine gx_callv (vx_runV (As := [.int x, .int y]) (rest := []) ⟨hx, hb, hml, hown, hts⟩ (k_X0_requireClothCell l hst dC dI cyI cyZ _ q0 q1 q2 q3 q4 q5 q6 wc wl sc sl cl ct rw co sk ss sq hP (hD.weaken (fun _ _ _ _ => trivial)) x y hrw) (cwV 2 hts gX0_dye_X0_requireClothCell rfl rfl rfl (by decide +kernel) ⟨Nat.le_of_ble_eq_true rfl, Nat.le_of_ble_eq_true rfl⟩) (pZ_V hK hz hS (fun q h => hA q (Nat.le_trans hS.1 h)) (va_recv hK hP (ci := 0) (q0 := 0) rfl rfl)) rfl rfl hl.1 rfl (lv_room (Nat.le_of_ble_eq_true rfl)) dX0_dye_7 ⟨Nat.le_of_ble_eq_true rfl, Nat.le_of_ble_eq_true rfl⟩) hS (fun q h => hA q (Nat.le_trans hS.1 h)) (fun E ce q9 H1 locs1 hbad hz9 hk9 hS9 hce hcv hcl => ?_) (fun hok => ?_)
    · skip
      exact vx_out (fun y h => (hne y h).elim) hlocks hce hcv hcl (fun t ht _ => ⟨Or.inr (hbad.elim (fun h => Or.inl ⟨h.1, hh, h.2⟩) (fun h => Or.inr ⟨h.1, hh, h.2⟩)), by rw [ht]; exact hz9, fun q hq => by rw [ht]; exact hk9 q hq⟩) hS9.2.2 (by decide) (by decide)
    · skip
      have hlk := hok
      obtain ⟨k1, k2, k3, k4⟩ := lkC_0 hok
      obtain ⟨ro, hro, rfl⟩ := in_of (n := 40) (by decide) k2.1 (i_lt k2.2 hrw)
      obtain ⟨j, hj, rfl⟩ := in_of (n := 40) (by decide) k4.1 (i_lt k4.2 hco)
      refine lv_iload_n hx hb dX0_dye_10 rfl (lv_at hl 1 rfl) ?_
      refine lv_iload_n hx hb dX0_dye_11 rfl (lv_at hl 2 rfl) ?_
      refine gx_calli (va_runS (As := [.int (nI ro), .int (nI j)]) (rest := []) ⟨hx, hb, hml, hown, hts⟩ (k_X0_clothIndex l dC dI  _   ro j ) (va_cwS 2 hts gX0_dye_X0_clothIndex rfl rfl rfl (by decide +kernel) ⟨Nat.le_of_ble_eq_true rfl, Nat.le_of_ble_eq_true rfl⟩) (pK_S (hK.sub (tys' := []) [] rfl)) rfl rfl hl.1 rfl (lv_room (Nat.le_of_ble_eq_true rfl)) dX0_dye_12 ⟨Nat.le_of_ble_eq_true rfl, Nat.le_of_ble_eq_true rfl⟩) (fun r_1 hr_1 => ?_)
      subst hr_1
      refine lv_istore (lv' := [(5, .int (nI (ro * 40 + j))), (0, .ref q0), (1, .int (nI ro)), (2, .int (nI j)), (3, .int h), (4, .int v)]) hx hb dX0_dye_15 hl (by decide) rfl (fun ls hl => ?_)
      refine lv_aload_n hx hb dX0_dye_17 rfl (lv_at hl 1 rfl) ?_
      refine va_get (D := (dC, dI)) (ci := 0) (v := .ref q5) (C := RX0) (T := TX0) (N := 11) hx hb hts iw hown hK hP 0 rfl rfl 4 (by decide) (hts (.fieldLink RX0 28 "ReelLoom" "clothCells" "[I") (by decide +kernel)) (fun _ h9 => h9) rfl dX0_dye_18 ?_
      refine lv_iload hx hb dX0_dye_21 (lv_at hl 0 rfl) ?_
      refine lv_aload_n hx hb dX0_dye_23 rfl (lv_at hl 1 rfl) ?_
      refine va_get (D := (dC, dI)) (ci := 0) (v := .ref q5) (C := RX0) (T := TX0) (N := 11) hx hb hts iw hown hK hP 0 rfl rfl 4 (by decide) (hts (.fieldLink RX0 28 "ReelLoom" "clothCells" "[I") (by decide +kernel)) (fun _ h9 => h9) rfl dX0_dye_24 ?_
      refine lv_iload hx hb dX0_dye_27 (lv_at hl 0 rfl) ?_
      refine va_iald hx hb hK hP 5 0 rfl rfl (vp_in_nI (by omega) (by omega)) dX0_dye_29 ?_
      rw [nI_clamp (show (ro * 40 + j) < 2 ^ 31 by omega)]
      refine lv_iload_n hx hb dX0_dye_30 rfl (lv_at hl 4 rfl) ?_
      refine lv_iload hx hb dX0_dye_31 (lv_at hl 5 rfl) ?_
      refine gx_calli (va_runS (As := [.int (cl ((ro * 40 + j))), .int h, .int v]) (rest := [.int (nI (ro * 40 + j)), .ref q5]) ⟨hx, hb, hml, hown, hts⟩ (k_X0_combined l dC dI  _   (cl ((ro * 40 + j))) h v ) (va_cwS 3 hts gX0_dye_X0_combined rfl rfl rfl (by decide +kernel) ⟨Nat.le_of_ble_eq_true rfl, Nat.le_of_ble_eq_true rfl⟩) (pK_S (hK.sub (tys' := []) [] rfl)) rfl rfl hl.1 rfl (lv_room (Nat.le_of_ble_eq_true rfl)) dX0_dye_33 ⟨Nat.le_of_ble_eq_true rfl, Nat.le_of_ble_eq_true rfl⟩) (fun r_2 hr_2 => ?_)
      subst hr_2
      refine va_iast hx hb hK hP hD hS 5 0 rfl rfl (vp_in_nI (by omega) (by omega)) dX0_dye_36 (fun H locs hP hD hS => ?_)
      rw [nI_clamp (show (ro * 40 + j) < 2 ^ 31 by omega)] at hP hD
      have hP : va_P (dC, dI) vwCl (wX cyI cyZ q0 q1 q2 q3 q4 q5 q6 wc wl sc sl (upd cl ((ro * 40 + j)) (cb ((cl ((ro * 40 + j)))) h v)) ct rw co sk ss sq) H := hP
      have hD : va_D A (wX cyI cyZ q0 q1 q2 q3 q4 q5 q6 wc wl sc sl (upd cl ((ro * 40 + j)) (cb ((cl ((ro * 40 + j)))) h v)) ct rw co sk ss sq) := hD
      refine lv_aload_n hx hb dX0_dye_37 rfl (lv_at hl 1 rfl) ?_
      refine va_get (D := (dC, dI)) (ci := 0) (v := .ref q5) (C := RX0) (T := TX0) (N := 11) hx hb hts iw hown hK hP 0 rfl rfl 4 (by decide) (hts (.fieldLink RX0 28 "ReelLoom" "clothCells" "[I") (by decide +kernel)) (fun _ h9 => h9) rfl dX0_dye_38 ?_
      refine lv_iload hx hb dX0_dye_41 (lv_at hl 0 rfl) ?_
      refine va_iald hx hb hK hP 5 0 rfl rfl (vp_in_nI (by omega) (by omega)) dX0_dye_43 ?_
      rw [nI_clamp (show (ro * 40 + j) < 2 ^ 31 by omega)]
      refine vx_ret ?_
      refine W.widen (k := 1) (n := 6) (by decide) (by decide) ?_
      exact W.iret (v := ((upd cl ((ro * 40 + j)) (cb ((cl ((ro * 40 + j)))) h v)) ((ro * 40 + j)))) hx hb hr (fun t ht hW => ⟨⟨((upd cl ((ro * 40 + j)) (cb ((cl ((ro * 40 + j)))) h v)) ((ro * 40 + j))), (ro, j), rfl, ⟨rfl, hro, rfl, hj, hh, hlk, pk_us⟩, by show va_P (dC, dI) vwCl (wX cyI cyZ q0 q1 q2 q3 q4 q5 q6 wc wl sc sl (upd cl ((ro * 40 + j)) (cb ((cl ((ro * 40 + j)))) h v)) ct rw co sk ss sq) t.heap; rw [ht]; exact hP⟩, hS.F ht⟩) hS.2.2 dX0_dye_44
set_option maxHeartbeats 4000000 in
set_option maxRecDepth 100000 in
theorem k_X0_seam (l : Launch) (hst : l.stackTraces = false) (dC : Nat → ClassId) (dI : Nat → Nat → Nat) (cyI cyZ : ClassId) (H0 : Heap) (q0 q1 q2 q3 q4 q5 q6 : Nat) (wc wl sc sl cl ct : Nat → Int32) (rw co sk ss sq : Int32) (hP : va_P (dC, dI) vwCl (wX cyI cyZ q0 q1 q2 q3 q4 q5 q6 wc wl sc sl cl ct rw co sk ss sq) H0) (hD0 : va_D (fun _ => True) (wX cyI cyZ q0 q1 q2 q3 q4 q5 q6 wc wl sc sl cl ct rw co sk ss sq)) (x : Int32) (y : Int32) (hrw : rw ≤ nI 40) (hco : co ≤ nI 40) : vx_Met l yX0_seam wsX0_seam ({ frames := 7, cells := 1, slots := 6, locals := 111 }) (va_Pc [.ref q0, .int x, .int y] (pZ dC dI (tyW cyI cyZ) H0 (va_A (wX cyI cyZ q0 q1 q2 q3 q4 q5 q6 wc wl sc sl cl ct rw co sk ss sq) H0.size))) (va_Qi (fun (r : Int32) (u : Nat × Nat) => match u with | (ra, rb) => x = nI ra ∧ ra < 40 ∧ y = nI rb ∧ rb < 40 ∧ lkS rw ct x y = 0 ∧ r = nSame cl ra rb co.toNatClampNeg) (fun (u : Nat × Nat) (t : State) => match u with | (ra, rb) => va_P (dC, dI) vwCl (wX cyI cyZ q0 q1 q2 q3 q4 q5 q6 wc wl sc sl cl ct rw co sk ss sq) t.heap) (va_A (wX cyI cyZ q0 q1 q2 q3 q4 q5 q6 wc wl sc sl cl ct rw co sk ss sq) H0.size)) (gx_X (fun E : String => (E = eIS ∧ lkS rw ct x y = 1) ∨ (E = eIO ∧ lkS rw ct x y = 2)) H0) 1 6 (va_A (wX cyI cyZ q0 q1 q2 q3 q4 q5 q6 wc wl sc sl cl ct rw co sk ss sq) H0.size) := by
  refine vx_ofW (cc := cX0_seam) (maxL := 5) (ret := (some .int)) (by decide) rfl ?_
  intro p e s m args below meth c s₁ B hml hne hv
  obtain ⟨rfl, rfl, hK, hz⟩ := hv
  have hx := B.exec
  have hb := B.bytes
  have hr := B.returns
  have hts := atoms_spec (ws := wsX0_seam) B.pre
  have hown : s.vm.findClass RX0 = some m.cls := findClass_of_methodNamed B.named
  have hlocks := B.notSynchronized
  have hD := hD0.self (sz := s.heap.size)
  generalize hAe : (va_A (wX cyI cyZ q0 q1 q2 q3 q4 q5 q6 wc wl sc sl cl ct rw co sk ss sq) s.heap.size) = A at hD hz ⊢
  have hA : ∀ q : Nat, s.heap.size ≤ q → A q := fun q h => by rw [← hAe]; exact Or.inr h
  have hS : va_S A s.heap s.heap [] := va_S.rf
  have hl := lv_entry ([.ref q0, .int x, .int y]) (n := 5) (Nat.le_of_ble_eq_true rfl)
  rw [lg_entry_eq]
  generalize (lg_sl ([.ref q0, .int x, .int y]) ++ List.replicate (5 - (lg_sl ([.ref q0, .int x, .int y])).length) Slot.unset).toArray = ls at hl ⊢
  have hl : lv_has ls 5 [(0, .ref q0), (1, .int x), (2, .int y)] := hl
  have iw : ∀ w ∈ wsX00, w ∈ wsX0_seam := by decide +kernel
  refine lv_aload_n hx hb dX0_seam_0 rfl (lv_at hl 0 rfl) ?_
  refine gx_callv (vx_runV (As := []) (rest := []) ⟨hx, hb, hml, hown, hts⟩ (k_X0_requireCloth l hst dC dI cyI cyZ _ q0 q1 q2 q3 q4 q5 q6 wc wl sc sl cl ct rw co sk ss sq hP (hD.weaken (fun _ _ _ _ => trivial))  ) (cwV 0 hts gX0_seam_X0_requireCloth rfl rfl rfl (by decide +kernel) ⟨Nat.le_of_ble_eq_true rfl, Nat.le_of_ble_eq_true rfl⟩) (pZ_V hK hz hS (fun q h => hA q (Nat.le_trans hS.1 h)) (va_recv hK hP (ci := 0) (q0 := 0) rfl rfl)) rfl rfl hl.1 rfl (lv_room (Nat.le_of_ble_eq_true rfl)) dX0_seam_1 ⟨Nat.le_of_ble_eq_true rfl, Nat.le_of_ble_eq_true rfl⟩) hS (fun q h => hA q (Nat.le_trans hS.1 h)) (fun E ce q9 H1 locs1 hbad hz9 hk9 hS9 hce hcv hcl => ?_) (fun hok => ?_)
  · skip
    exact vx_out (fun y h => (hne y h).elim) hlocks hce hcv hcl (fun t ht _ => ⟨Or.inl ⟨hbad.1, by unfold lkS; rw [if_pos hbad.2]⟩, by rw [ht]; exact hz9, fun q hq => by rw [ht]; exact hk9 q hq⟩) hS9.2.2 (by decide) (by decide)
  · skip
    have k1 := hok
    refine lv_aload_n hx hb dX0_seam_4 rfl (lv_at hl 0 rfl) ?_
    refine lv_iload_n hx hb dX0_seam_5 rfl (lv_at hl 1 rfl) ?_
    refine gx_callv (vx_runV (As := [.int x]) (rest := []) ⟨hx, hb, hml, hown, hts⟩ (k_X0_requireRow l hst dC dI cyI cyZ _ q0 q1 q2 q3 q4 q5 q6 wc wl sc sl cl ct rw co sk ss sq hP (hD.weaken (fun _ _ _ _ => trivial)) x ) (cwV 1 hts gX0_seam_X0_requireRow rfl rfl rfl (by decide +kernel) ⟨Nat.le_of_ble_eq_true rfl, Nat.le_of_ble_eq_true rfl⟩) (pZ_V hK hz hS (fun q h => hA q (Nat.le_trans hS.1 h)) (va_recv hK hP (ci := 0) (q0 := 0) rfl rfl)) rfl rfl hl.1 rfl (lv_room (Nat.le_of_ble_eq_true rfl)) dX0_seam_6 ⟨Nat.le_of_ble_eq_true rfl, Nat.le_of_ble_eq_true rfl⟩) hS (fun q h => hA q (Nat.le_trans hS.1 h)) (fun E ce q9 H1 locs1 hbad hz9 hk9 hS9 hce hcv hcl => ?_) (fun hok => ?_)
    · skip
      exact vx_out (fun y h => (hne y h).elim) hlocks hce hcv hcl (fun t ht _ => ⟨Or.inr ⟨hbad.1, by have z : rlk rw ct x = 2 := (by unfold rlk; rw [if_pos hbad.2]); unfold lkS; rw [if_neg k1, z, if_pos (by decide)]⟩, by rw [ht]; exact hz9, fun q hq => by rw [ht]; exact hk9 q hq⟩) hS9.2.2 (by decide) (by decide)
    · skip
      have k2 := hok
      obtain ⟨ra, hra, rfl⟩ := in_of (n := 40) (by decide) hok.1 (i_lt hok.2 hrw)
      have era : (nI ra).toNatClampNeg = ra := nI_clamp (by omega)
      refine lv_aload_n hx hb dX0_seam_9 rfl (lv_at hl 0 rfl) ?_
      refine lv_iload_n hx hb dX0_seam_10 rfl (lv_at hl 1 rfl) ?_
      refine gx_callv (vx_runV (As := [.int (nI ra)]) (rest := []) ⟨hx, hb, hml, hown, hts⟩ (k_X0_requireUncut l hst dC dI cyI cyZ _ q0 q1 q2 q3 q4 q5 q6 wc wl sc sl cl ct rw co sk ss sq hP (hD.weaken (fun _ _ _ _ => trivial)) ra (by omega)) (cwV 1 hts gX0_seam_X0_requireUncut rfl rfl rfl (by decide +kernel) ⟨Nat.le_of_ble_eq_true rfl, Nat.le_of_ble_eq_true rfl⟩) (pZ_V hK hz hS (fun q h => hA q (Nat.le_trans hS.1 h)) (va_recv hK hP (ci := 0) (q0 := 0) rfl rfl)) rfl rfl hl.1 rfl (lv_room (Nat.le_of_ble_eq_true rfl)) dX0_seam_11 ⟨Nat.le_of_ble_eq_true rfl, Nat.le_of_ble_eq_true rfl⟩) hS (fun q h => hA q (Nat.le_trans hS.1 h)) (fun E ce q9 H1 locs1 hbad hz9 hk9 hS9 hce hcv hcl => ?_) (fun hok => ?_)
      · skip
        exact vx_out (fun y h => (hne y h).elim) hlocks hce hcv hcl (fun t ht _ => ⟨Or.inl ⟨hbad.1, by have z : rlk rw ct (nI ra) = 1 := (by unfold rlk; rw [if_neg (not_not_intro k2), era, if_pos hbad.2]); unfold lkS; rw [if_neg k1, z, if_pos (by decide)]⟩, by rw [ht]; exact hz9, fun q hq => by rw [ht]; exact hk9 q hq⟩) hS9.2.2 (by decide) (by decide)
      · skip
        have k3 := hok
        have za : rlk rw ct (nI ra) = 0 := (by unfold rlk; rw [if_neg (not_not_intro k2), era, if_neg (not_not_intro k3)])
        refine lv_aload_n hx hb dX0_seam_14 rfl (lv_at hl 0 rfl) ?_
        refine lv_iload_n hx hb dX0_seam_15 rfl (lv_at hl 2 rfl) ?_
        refine gx_callv (vx_runV (As := [.int y]) (rest := []) ⟨hx, hb, hml, hown, hts⟩ (k_X0_requireRow l hst dC dI cyI cyZ _ q0 q1 q2 q3 q4 q5 q6 wc wl sc sl cl ct rw co sk ss sq hP (hD.weaken (fun _ _ _ _ => trivial)) y ) (cwV 1 hts gX0_seam_X0_requireRow rfl rfl rfl (by decide +kernel) ⟨Nat.le_of_ble_eq_true rfl, Nat.le_of_ble_eq_true rfl⟩) (pZ_V hK hz hS (fun q h => hA q (Nat.le_trans hS.1 h)) (va_recv hK hP (ci := 0) (q0 := 0) rfl rfl)) rfl rfl hl.1 rfl (lv_room (Nat.le_of_ble_eq_true rfl)) dX0_seam_16 ⟨Nat.le_of_ble_eq_true rfl, Nat.le_of_ble_eq_true rfl⟩) hS (fun q h => hA q (Nat.le_trans hS.1 h)) (fun E ce q9 H1 locs1 hbad hz9 hk9 hS9 hce hcv hcl => ?_) (fun hok => ?_)
        · skip
          exact vx_out (fun y h => (hne y h).elim) hlocks hce hcv hcl (fun t ht _ => ⟨Or.inr ⟨hbad.1, by unfold lkS; rw [if_neg k1, if_neg (not_not_intro za)]; unfold rlk; rw [if_pos hbad.2]⟩, by rw [ht]; exact hz9, fun q hq => by rw [ht]; exact hk9 q hq⟩) hS9.2.2 (by decide) (by decide)
        · skip
          have k4 := hok
          obtain ⟨rb, hrb, rfl⟩ := in_of (n := 40) (by decide) hok.1 (i_lt hok.2 hrw)
          have erb : (nI rb).toNatClampNeg = rb := nI_clamp (by omega)
          refine lv_aload_n hx hb dX0_seam_19 rfl (lv_at hl 0 rfl) ?_
          refine lv_iload_n hx hb dX0_seam_20 rfl (lv_at hl 2 rfl) ?_
          refine gx_callv (vx_runV (As := [.int (nI rb)]) (rest := []) ⟨hx, hb, hml, hown, hts⟩ (k_X0_requireUncut l hst dC dI cyI cyZ _ q0 q1 q2 q3 q4 q5 q6 wc wl sc sl cl ct rw co sk ss sq hP (hD.weaken (fun _ _ _ _ => trivial)) rb (by omega)) (cwV 1 hts gX0_seam_X0_requireUncut rfl rfl rfl (by decide +kernel) ⟨Nat.le_of_ble_eq_true rfl, Nat.le_of_ble_eq_true rfl⟩) (pZ_V hK hz hS (fun q h => hA q (Nat.le_trans hS.1 h)) (va_recv hK hP (ci := 0) (q0 := 0) rfl rfl)) rfl rfl hl.1 rfl (lv_room (Nat.le_of_ble_eq_true rfl)) dX0_seam_21 ⟨Nat.le_of_ble_eq_true rfl, Nat.le_of_ble_eq_true rfl⟩) hS (fun q h => hA q (Nat.le_trans hS.1 h)) (fun E ce q9 H1 locs1 hbad hz9 hk9 hS9 hce hcv hcl => ?_) (fun hok => ?_)
          · skip
            exact vx_out (fun y h => (hne y h).elim) hlocks hce hcv hcl (fun t ht _ => ⟨Or.inl ⟨hbad.1, by unfold lkS; rw [if_neg k1, if_neg (not_not_intro za)]; unfold rlk; rw [if_neg (not_not_intro k4), erb, if_pos hbad.2]⟩, by rw [ht]; exact hz9, fun q hq => by rw [ht]; exact hk9 q hq⟩) hS9.2.2 (by decide) (by decide)
          · skip
            have k5 := hok
            refine lv_iconst (v := 0) hx hb dX0_seam_24 (by decide) ?_
            refine lv_istore_n (lv' := [(3, .int 0), (0, .ref q0), (1, .int (nI ra)), (2, .int (nI rb))]) hx hb dX0_seam_25 rfl hl (by decide) rfl (fun ls hl => ?_)
            refine lv_iconst (v := nI 0) hx hb dX0_seam_26 (by decide) ?_
            refine lv_istore (lv' := [(4, .int (nI 0)), (3, .int 0), (0, .ref q0), (1, .int (nI ra)), (2, .int (nI rb))]) hx hb dX0_seam_27 hl (by decide) rfl (fun ls hl => ?_)
            refine lpW (N := co.toNatClampNeg) (I := fun i H locs ls => va_P (dC, dI) vwCl (wX cyI cyZ q0 q1 q2 q3 q4 q5 q6 wc wl sc sl cl ct rw co sk ss sq) H ∧ va_D A (wX cyI cyZ q0 q1 q2 q3 q4 q5 q6 wc wl sc sl cl ct rw co sk ss sq) ∧ va_S A s.heap H locs ∧ lv_has ls 5 [(4, .int (nI i)), (3, .int (nSame cl ra rb i)), (0, .ref q0), (1, .int (nI ra)), (2, .int (nI rb))]) (fun i hi H locs ls hI ih => ?_) (fun H locs ls hI => ?_) 0 (Nat.zero_le _) ⟨hP, hD, hS, lv_sub hl [0, 1, 2, 3, 4] rfl⟩
            · skip
              obtain ⟨hP, hD, hS, hl⟩ := hI
              have hw9 := w_le (by decide) hco
              refine lv_iload hx hb dX0_seam_29 (lv_at hl 0 rfl) ?_
              refine lv_aload_n hx hb dX0_seam_31 rfl (lv_at hl 2 rfl) ?_
              refine va_get (D := (dC, dI)) (ci := 0) (v := .int co) (C := RX0) (T := TX0) (N := 11) hx hb hts iw hown hK hP 0 rfl rfl 7 (by decide) (hts (.fieldLink RX0 39 "ReelLoom" "columns" "I") (by decide +kernel)) (fun _ h9 => h9) rfl dX0_seam_32 ?_
              refine lv_icmp_ge (tgt := 72) hx hb dX0_seam_35 (by decide) (fun h35 => ?_) (fun h35 => ?_)
              · skip
                exact absurd h35 (w_step hi)
              · skip
                refine lv_aload_n hx hb dX0_seam_38 rfl (lv_at hl 2 rfl) ?_
                refine va_get (D := (dC, dI)) (ci := 0) (v := .ref q5) (C := RX0) (T := TX0) (N := 11) hx hb hts iw hown hK hP 0 rfl rfl 4 (by decide) (hts (.fieldLink RX0 28 "ReelLoom" "clothCells" "[I") (by decide +kernel)) (fun _ h9 => h9) rfl dX0_seam_39 ?_
                refine lv_iload_n hx hb dX0_seam_42 rfl (lv_at hl 3 rfl) ?_
                refine lv_iload hx hb dX0_seam_43 (lv_at hl 0 rfl) ?_
                refine gx_calli (va_runS (As := [.int (nI ra), .int (nI i)]) (rest := [.ref q5]) ⟨hx, hb, hml, hown, hts⟩ (k_X0_clothIndex l dC dI  _   ra i ) (va_cwS 2 hts gX0_seam_X0_clothIndex rfl rfl rfl (by decide +kernel) ⟨Nat.le_of_ble_eq_true rfl, Nat.le_of_ble_eq_true rfl⟩) (pK_S (hK.sub (tys' := []) [] rfl)) rfl rfl hl.1 rfl (lv_room (Nat.le_of_ble_eq_true rfl)) dX0_seam_45 ⟨Nat.le_of_ble_eq_true rfl, Nat.le_of_ble_eq_true rfl⟩) (fun r_2 hr_2 => ?_)
                subst hr_2
                refine va_iald hx hb hK hP 5 0 rfl rfl (vp_in_nI (by omega) (by omega)) dX0_seam_48 ?_
                rw [nI_clamp (show (ra * 40 + i) < 2 ^ 31 by omega)]
                refine lv_aload_n hx hb dX0_seam_49 rfl (lv_at hl 2 rfl) ?_
                refine va_get (D := (dC, dI)) (ci := 0) (v := .ref q5) (C := RX0) (T := TX0) (N := 11) hx hb hts iw hown hK hP 0 rfl rfl 4 (by decide) (hts (.fieldLink RX0 28 "ReelLoom" "clothCells" "[I") (by decide +kernel)) (fun _ h9 => h9) rfl dX0_seam_50 ?_
                refine lv_iload_n hx hb dX0_seam_53 rfl (lv_at hl 4 rfl) ?_
                refine lv_iload hx hb dX0_seam_54 (lv_at hl 0 rfl) ?_
                refine gx_calli (va_runS (As := [.int (nI rb), .int (nI i)]) (rest := [.ref q5, .int (cl ((ra * 40 + i)))]) ⟨hx, hb, hml, hown, hts⟩ (k_X0_clothIndex l dC dI  _   rb i ) (va_cwS 2 hts gX0_seam_X0_clothIndex rfl rfl rfl (by decide +kernel) ⟨Nat.le_of_ble_eq_true rfl, Nat.le_of_ble_eq_true rfl⟩) (pK_S (hK.sub (tys' := []) [] rfl)) rfl rfl hl.1 rfl (lv_room (Nat.le_of_ble_eq_true rfl)) dX0_seam_56 ⟨Nat.le_of_ble_eq_true rfl, Nat.le_of_ble_eq_true rfl⟩) (fun r_3 hr_3 => ?_)
                subst hr_3
                refine va_iald hx hb hK hP 5 0 rfl rfl (vp_in_nI (by omega) (by omega)) dX0_seam_59 ?_
                rw [nI_clamp (show (rb * 40 + i) < 2 ^ 31 by omega)]
                refine lv_icmp_ne (tgt := 66) hx hb dX0_seam_60 (by decide) (fun h60 => ?_) (fun h60 => ?_)
                · skip
                  refine lv_iinc (v := nI (i + 1)) (lv' := [(4, .int (nI (i + 1))), (3, .int (nSame cl ra rb i)), (0, .ref q0), (1, .int (nI ra)), (2, .int (nI rb))]) hx hb dX0_seam_66 hl (k := 0) rfl (nI_1 _) (by decide) rfl (fun ls hl => ?_)
                  refine lv_goto (tgt := 29) hx hb dX0_seam_69 (by decide) ?_
                  have e1 : nSame cl ra rb i = nSame cl ra rb (i + 1) := by show _ = (if _ then _ else _); first | rw [if_pos h60] | rw [if_neg h60]
                  rw [e1] at hl
                  exact ih _ _ _ ⟨hP, hD, hS, lv_sub hl [0, 1, 2, 3, 4] rfl⟩
                · skip
                  refine lv_iinc (v := (nSame cl ra rb i) + 1) (lv' := [(3, .int ((nSame cl ra rb i) + 1)), (4, .int (nI i)), (0, .ref q0), (1, .int (nI ra)), (2, .int (nI rb))]) hx hb dX0_seam_63 hl (k := 1) rfl (rfl) (by decide) rfl (fun ls hl => ?_)
                  refine lv_iinc (v := nI (i + 1)) (lv' := [(4, .int (nI (i + 1))), (3, .int ((nSame cl ra rb i) + 1)), (0, .ref q0), (1, .int (nI ra)), (2, .int (nI rb))]) hx hb dX0_seam_66 hl (k := 1) rfl (nI_1 _) (by decide) rfl (fun ls hl => ?_)
                  refine lv_goto (tgt := 29) hx hb dX0_seam_69 (by decide) ?_
                  have e1 : (nSame cl ra rb i) + 1 = nSame cl ra rb (i + 1) := by show _ = (if _ then _ else _); first | rw [if_pos h60] | rw [if_neg h60]
                  rw [e1] at hl
                  exact ih _ _ _ ⟨hP, hD, hS, lv_sub hl [0, 1, 2, 3, 4] rfl⟩
            · skip
              obtain ⟨hP, hD, hS, hl⟩ := hI
              refine lv_iload hx hb dX0_seam_29 (lv_at hl 0 rfl) ?_
              refine lv_aload_n hx hb dX0_seam_31 rfl (lv_at hl 2 rfl) ?_
              refine va_get (D := (dC, dI)) (ci := 0) (v := .int co) (C := RX0) (T := TX0) (N := 11) hx hb hts iw hown hK hP 0 rfl rfl 7 (by decide) (hts (.fieldLink RX0 39 "ReelLoom" "columns" "I") (by decide +kernel)) (fun _ h9 => h9) rfl dX0_seam_32 ?_
              refine lv_icmp_ge (tgt := 72) hx hb dX0_seam_35 (by decide) (fun h35 => ?_) (fun h35 => ?_)
              · skip
                refine lv_iload_n hx hb dX0_seam_72 rfl (lv_at hl 1 rfl) ?_
                refine vx_ret ?_
                refine W.widen (k := 1) (n := 6) (by decide) (by decide) ?_
                exact W.iret (v := (nSame cl ra rb co.toNatClampNeg)) hx hb hr (fun t ht hW => ⟨⟨(nSame cl ra rb co.toNatClampNeg), (ra, rb), rfl, ⟨rfl, hra, rfl, hrb, by unfold lkS; rw [if_neg k1, if_neg (not_not_intro za)]; unfold rlk; rw [if_neg (not_not_intro k4), erb, if_neg (not_not_intro k5)], rfl⟩, by show va_P (dC, dI) vwCl (wX cyI cyZ q0 q1 q2 q3 q4 q5 q6 wc wl sc sl cl ct rw co sk ss sq) t.heap; rw [ht]; exact hP⟩, hS.F ht⟩) hS.2.2 dX0_seam_73
              · skip
                exact absurd (w_last _) h35
set_option maxHeartbeats 4000000 in
set_option maxRecDepth 100000 in
theorem k_X0_sum (l : Launch) (hst : l.stackTraces = false) (dC : Nat → ClassId) (dI : Nat → Nat → Nat) (cyI cyZ : ClassId) (H0 : Heap) (q0 q1 q2 q3 q4 q5 q6 : Nat) (wc wl sc sl cl ct : Nat → Int32) (rw co sk ss sq : Int32) (hP : va_P (dC, dI) vwCl (wX cyI cyZ q0 q1 q2 q3 q4 q5 q6 wc wl sc sl cl ct rw co sk ss sq) H0) (hD0 : va_D (fun _ => True) (wX cyI cyZ q0 q1 q2 q3 q4 q5 q6 wc wl sc sl cl ct rw co sk ss sq)) (x : Int32) (hwl : ∀ k, k < 5 → wl k = -1 ∨ ∃ n : Nat, n ≤ 64 ∧ wl k = nI n) (hrw : rw ≤ nI 40) : vx_Met l yX0_sum wsX0_sum ({ frames := 6, cells := 1, slots := 6, locals := 90 }) (va_Pc [.ref q0, .int x] (pZ dC dI (tyW cyI cyZ) H0 (va_A (wX cyI cyZ q0 q1 q2 q3 q4 q5 q6 wc wl sc sl cl ct rw co sk ss sq) H0.size))) (va_Qi (fun (r : Int32) (_ : Unit) => (x = 0 ∧ r = wO wc wl 5) ∨ (x = 1 ∧ r = nOff wl 5) ∨ (x = 2 ∧ r = rw) ∨ (x = 3 ∧ r = co) ∨ (x = 4 ∧ r = (if rw = -1 then -1 else nCut ct rw.toNatClampNeg))) (fun (_ : Unit) (t : State) => va_P (dC, dI) vwCl (wX cyI cyZ q0 q1 q2 q3 q4 q5 q6 wc wl sc sl cl ct rw co sk ss sq) t.heap) (va_A (wX cyI cyZ q0 q1 q2 q3 q4 q5 q6 wc wl sc sl cl ct rw co sk ss sq) H0.size)) (gx_X (fun E : String => E = eIA ∧ (x.toInt < 0 ∨ 4 < x.toInt)) H0) 1 6 (va_A (wX cyI cyZ q0 q1 q2 q3 q4 q5 q6 wc wl sc sl cl ct rw co sk ss sq) H0.size) := by
  refine vx_ofW (cc := cX0_sum) (maxL := 2) (ret := (some .int)) (by decide) rfl ?_
  intro p e s m args below meth c s₁ B hml hne hv
  obtain ⟨rfl, rfl, hK, hz⟩ := hv
  have hx := B.exec
  have hb := B.bytes
  have hr := B.returns
  have hts := atoms_spec (ws := wsX0_sum) B.pre
  have hown : s.vm.findClass RX0 = some m.cls := findClass_of_methodNamed B.named
  have hlocks := B.notSynchronized
  have hD := hD0.self (sz := s.heap.size)
  generalize hAe : (va_A (wX cyI cyZ q0 q1 q2 q3 q4 q5 q6 wc wl sc sl cl ct rw co sk ss sq) s.heap.size) = A at hD hz ⊢
  have hA : ∀ q : Nat, s.heap.size ≤ q → A q := fun q h => by rw [← hAe]; exact Or.inr h
  have hS : va_S A s.heap s.heap [] := va_S.rf
  have hl := lv_entry ([.ref q0, .int x]) (n := 2) (Nat.le_of_ble_eq_true rfl)
  rw [lg_entry_eq]
  generalize (lg_sl ([.ref q0, .int x]) ++ List.replicate (2 - (lg_sl ([.ref q0, .int x])).length) Slot.unset).toArray = ls at hl ⊢
  have hl : lv_has ls 2 [(0, .ref q0), (1, .int x)] := hl
  have iw : ∀ w ∈ wsX00, w ∈ wsX0_sum := by decide +kernel
  refine lv_iload_n hx hb dX0_sum_0 rfl (lv_at hl 1 rfl) ?_
  rcases sw5 x with rfl | rfl | rfl | rfl | rfl | hout
  · skip
    refine lv_tableIn (off := 35) (tgt := 36) hx hb dX0_sum_1 (by decide +kernel) (by decide +kernel) (by decide +kernel) (by decide) ?_
    refine lv_aload_n hx hb dX0_sum_36 rfl (lv_at hl 0 rfl) ?_
    refine gx_calli (va_runV (As := []) (rest := []) ⟨hx, hb, hml, hown, hts⟩ (k_X0_weightedCells l dC dI cyI cyZ _ q0 q1 q2 q3 q4 q5 q6 wc wl sc sl cl ct rw co sk ss sq hP (hD.weaken (fun _ _ _ _ => trivial))  hwl) (cwV 0 hts gX0_sum_X0_weightedCells rfl rfl rfl (by decide +kernel) ⟨Nat.le_of_ble_eq_true rfl, Nat.le_of_ble_eq_true rfl⟩) (pK_V hK (va_recv hK hP (ci := 0) (q0 := 0) rfl rfl)) rfl rfl hl.1 rfl (lv_room (Nat.le_of_ble_eq_true rfl)) dX0_sum_37 ⟨Nat.le_of_ble_eq_true rfl, Nat.le_of_ble_eq_true rfl⟩) (fun r_1 hr_1 => ?_)
    subst hr_1
    refine vx_ret ?_
    refine W.widen (k := 1) (n := 6) (by decide) (by decide) ?_
    exact W.iret (v := (wO wc wl 5)) hx hb hr (fun t ht hW => ⟨⟨(wO wc wl 5), (), rfl, Or.inl ⟨rfl, rfl⟩, by show va_P (dC, dI) vwCl (wX cyI cyZ q0 q1 q2 q3 q4 q5 q6 wc wl sc sl cl ct rw co sk ss sq) t.heap; rw [ht]; exact hP⟩, hS.F ht⟩) hS.2.2 dX0_sum_40
  · skip
    refine lv_tableIn (off := 40) (tgt := 41) hx hb dX0_sum_1 (by decide +kernel) (by decide +kernel) (by decide +kernel) (by decide) ?_
    refine lv_aload_n hx hb dX0_sum_41 rfl (lv_at hl 0 rfl) ?_
    refine gx_calli (va_runV (As := []) (rest := []) ⟨hx, hb, hml, hown, hts⟩ (k_X0_reelsOff l dC dI cyI cyZ _ q0 q1 q2 q3 q4 q5 q6 wc wl sc sl cl ct rw co sk ss sq hP (hD.weaken (fun _ _ _ _ => trivial))  ) (cwV 0 hts gX0_sum_X0_reelsOff rfl rfl rfl (by decide +kernel) ⟨Nat.le_of_ble_eq_true rfl, Nat.le_of_ble_eq_true rfl⟩) (pK_V hK (va_recv hK hP (ci := 0) (q0 := 0) rfl rfl)) rfl rfl hl.1 rfl (lv_room (Nat.le_of_ble_eq_true rfl)) dX0_sum_42 ⟨Nat.le_of_ble_eq_true rfl, Nat.le_of_ble_eq_true rfl⟩) (fun r_2 hr_2 => ?_)
    subst hr_2
    refine vx_ret ?_
    refine W.widen (k := 1) (n := 6) (by decide) (by decide) ?_
    exact W.iret (v := (nOff wl 5)) hx hb hr (fun t ht hW => ⟨⟨(nOff wl 5), (), rfl, Or.inr (Or.inl ⟨rfl, rfl⟩), by show va_P (dC, dI) vwCl (wX cyI cyZ q0 q1 q2 q3 q4 q5 q6 wc wl sc sl cl ct rw co sk ss sq) t.heap; rw [ht]; exact hP⟩, hS.F ht⟩) hS.2.2 dX0_sum_45
  · skip
    refine lv_tableIn (off := 45) (tgt := 46) hx hb dX0_sum_1 (by decide +kernel) (by decide +kernel) (by decide +kernel) (by decide) ?_
    refine lv_aload_n hx hb dX0_sum_46 rfl (lv_at hl 0 rfl) ?_
    refine va_get (D := (dC, dI)) (ci := 0) (v := .int rw) (C := RX0) (T := TX0) (N := 11) hx hb hts iw hown hK hP 0 rfl rfl 6 (by decide) (hts (.fieldLink RX0 35 "ReelLoom" "rows" "I") (by decide +kernel)) (fun _ h9 => h9) rfl dX0_sum_47 ?_
    refine vx_ret ?_
    refine W.widen (k := 1) (n := 6) (by decide) (by decide) ?_
    exact W.iret (v := rw) hx hb hr (fun t ht hW => ⟨⟨rw, (), rfl, Or.inr (Or.inr (Or.inl ⟨rfl, rfl⟩)), by show va_P (dC, dI) vwCl (wX cyI cyZ q0 q1 q2 q3 q4 q5 q6 wc wl sc sl cl ct rw co sk ss sq) t.heap; rw [ht]; exact hP⟩, hS.F ht⟩) hS.2.2 dX0_sum_50
  · skip
    refine lv_tableIn (off := 50) (tgt := 51) hx hb dX0_sum_1 (by decide +kernel) (by decide +kernel) (by decide +kernel) (by decide) ?_
    refine lv_aload_n hx hb dX0_sum_51 rfl (lv_at hl 0 rfl) ?_
    refine va_get (D := (dC, dI)) (ci := 0) (v := .int co) (C := RX0) (T := TX0) (N := 11) hx hb hts iw hown hK hP 0 rfl rfl 7 (by decide) (hts (.fieldLink RX0 39 "ReelLoom" "columns" "I") (by decide +kernel)) (fun _ h9 => h9) rfl dX0_sum_52 ?_
    refine vx_ret ?_
    refine W.widen (k := 1) (n := 6) (by decide) (by decide) ?_
    exact W.iret (v := co) hx hb hr (fun t ht hW => ⟨⟨co, (), rfl, Or.inr (Or.inr (Or.inr (Or.inl ⟨rfl, rfl⟩))), by show va_P (dC, dI) vwCl (wX cyI cyZ q0 q1 q2 q3 q4 q5 q6 wc wl sc sl cl ct rw co sk ss sq) t.heap; rw [ht]; exact hP⟩, hS.F ht⟩) hS.2.2 dX0_sum_55
  · skip
    refine lv_tableIn (off := 55) (tgt := 56) hx hb dX0_sum_1 (by decide +kernel) (by decide +kernel) (by decide +kernel) (by decide) ?_
    refine lv_aload_n hx hb dX0_sum_56 rfl (lv_at hl 0 rfl) ?_
    refine gx_calli (va_runV (As := []) (rest := []) ⟨hx, hb, hml, hown, hts⟩ (k_X0_rowsCut l dC dI cyI cyZ _ q0 q1 q2 q3 q4 q5 q6 wc wl sc sl cl ct rw co sk ss sq hP (hD.weaken (fun _ _ _ _ => trivial))  hrw) (cwV 0 hts gX0_sum_X0_rowsCut rfl rfl rfl (by decide +kernel) ⟨Nat.le_of_ble_eq_true rfl, Nat.le_of_ble_eq_true rfl⟩) (pK_V hK (va_recv hK hP (ci := 0) (q0 := 0) rfl rfl)) rfl rfl hl.1 rfl (lv_room (Nat.le_of_ble_eq_true rfl)) dX0_sum_57 ⟨Nat.le_of_ble_eq_true rfl, Nat.le_of_ble_eq_true rfl⟩) (fun r57 hr57 => ?_)
    refine vx_ret ?_
    refine W.widen (k := 1) (n := 6) (by decide) (by decide) ?_
    exact W.iret (v := r57) hx hb hr (fun t ht hW => ⟨⟨r57, (), rfl, Or.inr (Or.inr (Or.inr (Or.inr ⟨rfl, hr57⟩))), by show va_P (dC, dI) vwCl (wX cyI cyZ q0 q1 q2 q3 q4 q5 q6 wc wl sc sl cl ct rw co sk ss sq) t.heap; rw [ht]; exact hP⟩, hS.F ht⟩) hS.2.2 dX0_sum_60
  · skip
    refine lv_tableOut (tgt := 61) hx hb dX0_sum_1 hout (by decide) ?_
    obtain ⟨sa, hsa⟩ := hz.2.2.2 131 "a sum is asked for 0 to 4" (by decide)
    exact vx_throwS hx hb hst (own := RX0) (cls := "java/lang/IllegalArgumentException") (text := "a sum is asked for 0 to 4") (names := zN) (ik := 55) (is := 131) (ic := 59) (sa := sa) (A := A) hown (by decide) (by decide) (hts (.classLink RX0 55 "java/lang/IllegalArgumentException") (by decide +kernel)) (hts (.initialized "java/lang/IllegalArgumentException") (by decide +kernel)) hsa (zHatIA hz (fun w h => hts w (List.mem_cons_of_mem _ (List.mem_append_right _ h)))) zGdIA hz.1 hz.2.1 hS (hl.1.trans hml.symm) dX0_sum_61 dX0_sum_64 dX0_sum_65 dX0_sum_67 dX0_sum_70 (fun y h => (hne y h).elim) (by decide) (by decide) (by decide) (by decide) hlocks (fun t hal hz9 hk9 => ⟨⟨rfl, hout⟩, hz9, hk9⟩) hS.2.2 (by decide) (by decide)
