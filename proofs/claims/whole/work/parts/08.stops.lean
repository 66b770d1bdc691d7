/-- one column of a pass -/
def pcol (wc wl cl ct : Nat → Int32) (sk ss : Int32) (ro j : Nat) (v : Int32) : Bool × (Nat → Int32) × (Nat → Int32) × Int32 × Int32 :=
  if ¬ nI j < wl 3 then (false, wc, cl, stK wl 3, nI 3) else
  if wc (3 * 64 + j) = 1 ∧ ¬ nI j < wl 0 then (false, wc, cl, stK wl 0, nI 0) else
  if ¬ ct ro = 0 then (false, wc, cl, 1, 5) else
  if ¬ nI j < wl 1 then (false, wc, upd cl (ro * 40 + j) (if wc (3 * 64 + j) = 1 then wc (0 * 64 + j) else v), stK wl 1, nI 1) else
  if ¬ nI j < wl 2 then (false, upd wc (1 * 64 + j) (ft 1 (wc (1 * 64 + j) + 1)), upd cl (ro * 40 + j) (if wc (3 * 64 + j) = 1 then wc (0 * 64 + j) else v), stK wl 2, nI 2) else
  if wc (3 * 64 + j) = 1 ∧ ¬ nI j < wl 4 then (false, upd (upd wc (1 * 64 + j) (ft 1 (wc (1 * 64 + j) + 1))) (2 * 64 + j) (ft 2 (upd wc (1 * 64 + j) (ft 1 (wc (1 * 64 + j) + 1)) (2 * 64 + j) + 2)), upd cl (ro * 40 + j) (wc (0 * 64 + j)), stK wl 4, nI 4) else
  if wc (3 * 64 + j) = 1 then (true, upd (upd (upd wc (1 * 64 + j) (ft 1 (wc (1 * 64 + j) + 1))) (2 * 64 + j) (ft 2 (upd wc (1 * 64 + j) (ft 1 (wc (1 * 64 + j) + 1)) (2 * 64 + j) + 2))) (4 * 64 + j) (ft 4 (upd (upd wc (1 * 64 + j) (ft 1 (wc (1 * 64 + j) + 1))) (2 * 64 + j) (ft 2 (upd wc (1 * 64 + j) (ft 1 (wc (1 * 64 + j) + 1)) (2 * 64 + j) + 2)) (4 * 64 + j) + 1)), upd cl (ro * 40 + j) (wc (0 * 64 + j)), sk, ss) else
  (true, upd (upd wc (1 * 64 + j) (ft 1 (wc (1 * 64 + j) + 1))) (2 * 64 + j) (ft 2 (upd wc (1 * 64 + j) (ft 1 (wc (1 * 64 + j) + 1)) (2 * 64 + j) + -1)), upd cl (ro * 40 + j) v, sk, ss)
set_option maxHeartbeats 4000000 in
set_option maxRecDepth 100000 in
theorem k_X0_put (l : Launch) (dC : Nat → ClassId) (dI : Nat → Nat → Nat) (cyI cyZ : ClassId) (H0 : Heap) (q0 q1 q2 q3 q4 q5 q6 : Nat) (wc wl sc sl cl ct : Nat → Int32) (rw co sk ss sq : Int32) (hP : va_P (dC, dI) vwCl (wX cyI cyZ q0 q1 q2 q3 q4 q5 q6 wc wl sc sl cl ct rw co sk ss sq) H0) (hD0 : va_D (fun _ => True) (wX cyI cyZ q0 q1 q2 q3 q4 q5 q6 wc wl sc sl cl ct rw co sk ss sq)) (so : Nat) (i : Nat) (v : Int32) (hso : so < 5) (hi : i < 64) : Met l yX0_put wsX0_put ({ frames := 2, cells := 0, slots := 0, locals := 45 }) (va_Pc [.ref q0, .int (nI so), .int (nI i), .int v] (pK dC dI (tyW cyI cyZ) H0)) (va_Qi (fun (r : Int32) (_ : Unit) => r = ft so v) (fun (_ : Unit) (t : State) => va_P (dC, dI) vwCl (wX cyI cyZ q0 q1 q2 q3 q4 q5 q6 (upd wc (so * 64 + i) (ft so v)) wl sc sl cl ct rw co sk ss sq) t.heap) (va_A (wX cyI cyZ q0 q1 q2 q3 q4 q5 q6 wc wl sc sl cl ct rw co sk ss sq) H0.size)) 0 0 (va_A (wX cyI cyZ q0 q1 q2 q3 q4 q5 q6 wc wl sc sl cl ct rw co sk ss sq) H0.size) := by
  refine Met.ofW (cc := cX0_put) (maxL := 5) (ret := (some .int)) (by decide) rfl ?_
  intro p e s m args below meth c s₁ B hml hv
  obtain ⟨rfl, rfl, hK⟩ := hv
  have hx := B.exec
  have hb := B.bytes
  have hr := B.returns
  have hts := atoms_spec (ws := wsX0_put) B.pre
  have hown : s.vm.findClass RX0 = some m.cls := findClass_of_methodNamed B.named
  have hlocks := B.notSynchronized
  have hD := hD0.self (sz := s.heap.size)
  generalize hAe : (va_A (wX cyI cyZ q0 q1 q2 q3 q4 q5 q6 wc wl sc sl cl ct rw co sk ss sq) s.heap.size) = A at hD ⊢
  have hA : ∀ q : Nat, s.heap.size ≤ q → A q := fun q h => by rw [← hAe]; exact Or.inr h
  have hS : va_S A s.heap s.heap [] := va_S.rf
  have hl := lv_entry ([.ref q0, .int (nI so), .int (nI i), .int v]) (n := 5) (Nat.le_of_ble_eq_true rfl)
  rw [lg_entry_eq]
  generalize (lg_sl ([.ref q0, .int (nI so), .int (nI i), .int v]) ++ List.replicate (5 - (lg_sl ([.ref q0, .int (nI so), .int (nI i), .int v])).length) Slot.unset).toArray = ls at hl ⊢
  have hl : lv_has ls 5 [(0, .ref q0), (1, .int (nI so)), (2, .int (nI i)), (3, .int v)] := hl
  have iw : ∀ w ∈ wsX00, w ∈ wsX0_put := by decide +kernel
  refine lv_iload_n hx hb dX0_put_0 rfl (lv_at hl 1 rfl) ?_
  refine lv_iload_n hx hb dX0_put_1 rfl (lv_at hl 3 rfl) ?_
  refine gx_calli (va_runS (As := [.int (nI so), .int v]) (rest := []) ⟨hx, hb, hml, hown, hts⟩ (k_X0_fitted l dC dI  _   so v (by omega)) (va_cwS 2 hts gX0_put_X0_fitted rfl rfl rfl (by decide +kernel) ⟨Nat.le_of_ble_eq_true rfl, Nat.le_of_ble_eq_true rfl⟩) (pK_S (hK.sub (tys' := []) [] rfl)) rfl rfl hl.1 rfl (lv_room (Nat.le_of_ble_eq_true rfl)) dX0_put_2 ⟨Nat.le_of_ble_eq_true rfl, Nat.le_of_ble_eq_true rfl⟩) (fun r_1 hr_1 => ?_)
  subst hr_1
  refine lv_istore (lv' := [(4, .int (ft so v)), (0, .ref q0), (1, .int (nI so)), (2, .int (nI i)), (3, .int v)]) hx hb dX0_put_5 hl (by decide) rfl (fun ls hl => ?_)
  refine lv_aload_n hx hb dX0_put_7 rfl (lv_at hl 1 rfl) ?_
  refine va_get (D := (dC, dI)) (ci := 0) (v := .ref q1) (C := RX0) (T := TX0) (N := 11) hx hb hts iw hown hK hP 0 rfl rfl 0 (by decide) (hts (.fieldLink RX0 9 "ReelLoom" "workingCells" "[I") (by decide +kernel)) (fun _ h9 => h9) rfl dX0_put_8 ?_
  refine lv_iload_n hx hb dX0_put_11 rfl (lv_at hl 2 rfl) ?_
  refine lv_iload_n hx hb dX0_put_12 rfl (lv_at hl 3 rfl) ?_
  refine gx_calli (va_runS (As := [.int (nI so), .int (nI i)]) (rest := [.ref q1]) ⟨hx, hb, hml, hown, hts⟩ (k_X0_reelIndex l dC dI  _   so i ) (va_cwS 2 hts gX0_put_X0_reelIndex rfl rfl rfl (by decide +kernel) ⟨Nat.le_of_ble_eq_true rfl, Nat.le_of_ble_eq_true rfl⟩) (pK_S (hK.sub (tys' := []) [] rfl)) rfl rfl hl.1 rfl (lv_room (Nat.le_of_ble_eq_true rfl)) dX0_put_13 ⟨Nat.le_of_ble_eq_true rfl, Nat.le_of_ble_eq_true rfl⟩) (fun r_2 hr_2 => ?_)
  subst hr_2
  refine lv_iload hx hb dX0_put_16 (lv_at hl 0 rfl) ?_
  refine va_iast hx hb hK hP hD hS 1 0 rfl rfl (vp_in_nI (by omega) (by omega)) dX0_put_18 (fun H locs hP hD hS => ?_)
  rw [nI_clamp (show (so * 64 + i) < 2 ^ 31 by omega)] at hP hD
  have hP : va_P (dC, dI) vwCl (wX cyI cyZ q0 q1 q2 q3 q4 q5 q6 (upd wc ((so * 64 + i)) (ft so v)) wl sc sl cl ct rw co sk ss sq) H := hP
  have hD : va_D A (wX cyI cyZ q0 q1 q2 q3 q4 q5 q6 (upd wc ((so * 64 + i)) (ft so v)) wl sc sl cl ct rw co sk ss sq) := hD
  refine lv_iload hx hb dX0_put_19 (lv_at hl 0 rfl) ?_
  exact W.iret (v := (ft so v)) hx hb hr (fun t ht hW => ⟨⟨(ft so v), (), rfl, rfl, by show va_P (dC, dI) vwCl (wX cyI cyZ q0 q1 q2 q3 q4 q5 q6 (upd wc ((so * 64 + i)) (ft so v)) wl sc sl cl ct rw co sk ss sq) t.heap; rw [ht]; exact hP⟩, hS.F ht⟩) hS.2.2 dX0_put_21
set_option maxHeartbeats 4000000 in
set_option maxRecDepth 100000 in
theorem k_X0_stopsAtReel (l : Launch) (dC : Nat → ClassId) (dI : Nat → Nat → Nat) (cyI cyZ : ClassId) (H0 : Heap) (q0 q1 q2 q3 q4 q5 q6 : Nat) (wc wl sc sl cl ct : Nat → Int32) (rw co sk ss sq : Int32) (hP : va_P (dC, dI) vwCl (wX cyI cyZ q0 q1 q2 q3 q4 q5 q6 wc wl sc sl cl ct rw co sk ss sq) H0) (hD0 : va_D (fun _ => True) (wX cyI cyZ q0 q1 q2 q3 q4 q5 q6 wc wl sc sl cl ct rw co sk ss sq)) (so : Nat) (j : Nat) (hso : so < 5) : Met l yX0_stopsAtReel wsX0_stopsAtReel ({ frames := 0, cells := 0, slots := 0, locals := 0 }) (va_Pc [.ref q0, .int (nI so), .int (nI j)] (pK dC dI (tyW cyI cyZ) H0)) (va_Qi (fun (r : Int32) (u : Int32 × Int32) => match u with | (sk2, ss2) => (nI j < wl so ∧ r = 0 ∧ sk2 = sk ∧ ss2 = ss) ∨ (¬ nI j < wl so ∧ r = 1 ∧ sk2 = stK wl so ∧ ss2 = nI so)) (fun (u : Int32 × Int32) (t : State) => match u with | (sk2, ss2) => va_P (dC, dI) vwCl (wX cyI cyZ q0 q1 q2 q3 q4 q5 q6 wc wl sc sl cl ct rw co sk2 ss2 sq) t.heap) (va_A (wX cyI cyZ q0 q1 q2 q3 q4 q5 q6 wc wl sc sl cl ct rw co sk ss sq) H0.size)) 0 0 (va_A (wX cyI cyZ q0 q1 q2 q3 q4 q5 q6 wc wl sc sl cl ct rw co sk ss sq) H0.size) := by
  refine Met.ofW (cc := cX0_stopsAtReel) (maxL := 3) (ret := (some .boolean)) (by decide) rfl ?_
  intro p e s m args below meth c s₁ B hml hv
  obtain ⟨rfl, rfl, hK⟩ := hv
  have hx := B.exec
  have hb := B.bytes
  have hr := B.returns
  have hts := atoms_spec (ws := wsX0_stopsAtReel) B.pre
  have hown : s.vm.findClass RX0 = some m.cls := findClass_of_methodNamed B.named
  have hlocks := B.notSynchronized
  have hD := hD0.self (sz := s.heap.size)
  generalize hAe : (va_A (wX cyI cyZ q0 q1 q2 q3 q4 q5 q6 wc wl sc sl cl ct rw co sk ss sq) s.heap.size) = A at hD ⊢
  have hA : ∀ q : Nat, s.heap.size ≤ q → A q := fun q h => by rw [← hAe]; exact Or.inr h
  have hS : va_S A s.heap s.heap [] := va_S.rf
  have hl := lv_entry ([.ref q0, .int (nI so), .int (nI j)]) (n := 3) (Nat.le_of_ble_eq_true rfl)
  rw [lg_entry_eq]
  generalize (lg_sl ([.ref q0, .int (nI so), .int (nI j)]) ++ List.replicate (3 - (lg_sl ([.ref q0, .int (nI so), .int (nI j)])).length) Slot.unset).toArray = ls at hl ⊢
  have hl : lv_has ls 3 [(0, .ref q0), (1, .int (nI so)), (2, .int (nI j))] := hl
  have iw : ∀ w ∈ wsX00, w ∈ wsX0_stopsAtReel := by decide +kernel
  refine lv_iload_n hx hb dX0_stopsAtReel_0 rfl (lv_at hl 2 rfl) ?_
  refine lv_aload_n hx hb dX0_stopsAtReel_1 rfl (lv_at hl 0 rfl) ?_
  refine va_get (D := (dC, dI)) (ci := 0) (v := .ref q2) (C := RX0) (T := TX0) (N := 11) hx hb hts iw hown hK hP 0 rfl rfl 1 (by decide) (hts (.fieldLink RX0 13 "ReelLoom" "workingLength" "[I") (by decide +kernel)) (fun _ h9 => h9) rfl dX0_stopsAtReel_2 ?_
  refine lv_iload_n hx hb dX0_stopsAtReel_5 rfl (lv_at hl 1 rfl) ?_
  refine va_iald hx hb hK hP 2 0 rfl rfl (vp_in_nI (by omega) (by omega)) dX0_stopsAtReel_6 ?_
  rw [nI_clamp (show so < 2 ^ 31 by omega)]
  refine lv_icmp_ge (tgt := 12) hx hb dX0_stopsAtReel_7 (by decide) (fun h7 => ?_) (fun h7 => ?_)
  · skip
    refine lv_aload_n hx hb dX0_stopsAtReel_12 rfl (lv_at hl 0 rfl) ?_
    refine lv_aload_n hx hb dX0_stopsAtReel_13 rfl (lv_at hl 0 rfl) ?_
    refine va_get (D := (dC, dI)) (ci := 0) (v := .ref q2) (C := RX0) (T := TX0) (N := 11) hx hb hts iw hown hK hP 0 rfl rfl 1 (by decide) (hts (.fieldLink RX0 13 "ReelLoom" "workingLength" "[I") (by decide +kernel)) (fun _ h9 => h9) rfl dX0_stopsAtReel_14 ?_
    refine lv_iload_n hx hb dX0_stopsAtReel_17 rfl (lv_at hl 1 rfl) ?_
    refine va_iald hx hb hK hP 2 0 rfl rfl (vp_in_nI (by omega) (by omega)) dX0_stopsAtReel_18 ?_
    rw [nI_clamp (show so < 2 ^ 31 by omega)]
    refine lv_iconst (v := -1) hx hb dX0_stopsAtReel_19 (by decide) ?_
    refine lv_icmp_ne (tgt := 27) hx hb dX0_stopsAtReel_20 (by decide) (fun h20 => ?_) (fun h20 => ?_)
    · skip
      refine lv_iconst (v := 2) hx hb dX0_stopsAtReel_27 (by decide) ?_
      refine va_put (D := (dC, dI)) (ci := 0) (v := .int 2) (ty := .int) (C := RX0) (T := TX0) (N := 11) hx hb hts iw tyX0 tyX0_ok nmX0 hown hK hP hD hS 0 rfl rfl 8 (by decide) (hts (.fieldLink RX0 42 "ReelLoom" "stopKind" "I") (by decide +kernel)) (fun _ h9 => h9) rfl (by decide +kernel) rfl rfl (Nat.le_of_ble_eq_true rfl) dX0_stopsAtReel_28 (fun H locs hP hD hS => ?_)
      have hP : va_P (dC, dI) vwCl (wX cyI cyZ q0 q1 q2 q3 q4 q5 q6 wc wl sc sl cl ct rw co 2 ss sq) H := hP
      have hD : va_D A (wX cyI cyZ q0 q1 q2 q3 q4 q5 q6 wc wl sc sl cl ct rw co 2 ss sq) := hD
      refine lv_aload_n hx hb dX0_stopsAtReel_31 rfl (lv_at hl 0 rfl) ?_
      refine lv_iload_n hx hb dX0_stopsAtReel_32 rfl (lv_at hl 1 rfl) ?_
      refine va_put (D := (dC, dI)) (ci := 0) (v := .int (nI so)) (ty := .int) (C := RX0) (T := TX0) (N := 11) hx hb hts iw tyX0 tyX0_ok nmX0 hown hK hP hD hS 0 rfl rfl 9 (by decide) (hts (.fieldLink RX0 45 "ReelLoom" "stopSort" "I") (by decide +kernel)) (fun _ h9 => h9) rfl (by decide +kernel) rfl rfl (Nat.le_of_ble_eq_true rfl) dX0_stopsAtReel_33 (fun H locs hP hD hS => ?_)
      have hP : va_P (dC, dI) vwCl (wX cyI cyZ q0 q1 q2 q3 q4 q5 q6 wc wl sc sl cl ct rw co 2 (nI so) sq) H := hP
      have hD : va_D A (wX cyI cyZ q0 q1 q2 q3 q4 q5 q6 wc wl sc sl cl ct rw co 2 (nI so) sq) := hD
      refine lv_iconst (v := 1) hx hb dX0_stopsAtReel_36 (by decide) ?_
      exact W.zret (v := 1) (ty := .boolean) hx hb hr rfl (fun t ht hW => ⟨⟨1, (2, nI so), rfl, Or.inr ⟨Int32.not_lt.mpr h7, rfl, by unfold stK; first | rw [if_pos h20] | rw [if_neg h20], rfl⟩, by show va_P (dC, dI) vwCl (wX cyI cyZ q0 q1 q2 q3 q4 q5 q6 wc wl sc sl cl ct rw co 2 (nI so) sq) t.heap; rw [ht]; exact hP⟩, hS.F ht⟩) hS.2.2 dX0_stopsAtReel_37
    · skip
      refine lv_iconst (v := 1) hx hb dX0_stopsAtReel_23 (by decide) ?_
      refine lv_goto (tgt := 28) hx hb dX0_stopsAtReel_24 (by decide) ?_
      refine va_put (D := (dC, dI)) (ci := 0) (v := .int 1) (ty := .int) (C := RX0) (T := TX0) (N := 11) hx hb hts iw tyX0 tyX0_ok nmX0 hown hK hP hD hS 0 rfl rfl 8 (by decide) (hts (.fieldLink RX0 42 "ReelLoom" "stopKind" "I") (by decide +kernel)) (fun _ h9 => h9) rfl (by decide +kernel) rfl rfl (Nat.le_of_ble_eq_true rfl) dX0_stopsAtReel_28 (fun H locs hP hD hS => ?_)
      have hP : va_P (dC, dI) vwCl (wX cyI cyZ q0 q1 q2 q3 q4 q5 q6 wc wl sc sl cl ct rw co 1 ss sq) H := hP
      have hD : va_D A (wX cyI cyZ q0 q1 q2 q3 q4 q5 q6 wc wl sc sl cl ct rw co 1 ss sq) := hD
      refine lv_aload_n hx hb dX0_stopsAtReel_31 rfl (lv_at hl 0 rfl) ?_
      refine lv_iload_n hx hb dX0_stopsAtReel_32 rfl (lv_at hl 1 rfl) ?_
      refine va_put (D := (dC, dI)) (ci := 0) (v := .int (nI so)) (ty := .int) (C := RX0) (T := TX0) (N := 11) hx hb hts iw tyX0 tyX0_ok nmX0 hown hK hP hD hS 0 rfl rfl 9 (by decide) (hts (.fieldLink RX0 45 "ReelLoom" "stopSort" "I") (by decide +kernel)) (fun _ h9 => h9) rfl (by decide +kernel) rfl rfl (Nat.le_of_ble_eq_true rfl) dX0_stopsAtReel_33 (fun H locs hP hD hS => ?_)
      have hP : va_P (dC, dI) vwCl (wX cyI cyZ q0 q1 q2 q3 q4 q5 q6 wc wl sc sl cl ct rw co 1 (nI so) sq) H := hP
      have hD : va_D A (wX cyI cyZ q0 q1 q2 q3 q4 q5 q6 wc wl sc sl cl ct rw co 1 (nI so) sq) := hD
      refine lv_iconst (v := 1) hx hb dX0_stopsAtReel_36 (by decide) ?_
      exact W.zret (v := 1) (ty := .boolean) hx hb hr rfl (fun t ht hW => ⟨⟨1, (1, nI so), rfl, Or.inr ⟨Int32.not_lt.mpr h7, rfl, by unfold stK; first | rw [if_pos h20] | rw [if_neg h20], rfl⟩, by show va_P (dC, dI) vwCl (wX cyI cyZ q0 q1 q2 q3 q4 q5 q6 wc wl sc sl cl ct rw co 1 (nI so) sq) t.heap; rw [ht]; exact hP⟩, hS.F ht⟩) hS.2.2 dX0_stopsAtReel_37
  · skip
    refine lv_iconst (v := 0) hx hb dX0_stopsAtReel_10 (by decide) ?_
    exact W.zret (v := 0) (ty := .boolean) hx hb hr rfl (fun t ht hW => ⟨⟨0, (sk, ss), rfl, Or.inl ⟨Int32.not_le.mp h7, rfl, rfl, rfl⟩, by show va_P (dC, dI) vwCl (wX cyI cyZ q0 q1 q2 q3 q4 q5 q6 wc wl sc sl cl ct rw co sk ss sq) t.heap; rw [ht]; exact hP⟩, hS.F ht⟩) hS.2.2 dX0_stopsAtReel_11
set_option maxHeartbeats 4000000 in
set_option maxRecDepth 100000 in
theorem k_X0_stopsAtRow (l : Launch) (dC : Nat → ClassId) (dI : Nat → Nat → Nat) (cyI cyZ : ClassId) (H0 : Heap) (q0 q1 q2 q3 q4 q5 q6 : Nat) (wc wl sc sl cl ct : Nat → Int32) (rw co sk ss sq : Int32) (hP : va_P (dC, dI) vwCl (wX cyI cyZ q0 q1 q2 q3 q4 q5 q6 wc wl sc sl cl ct rw co sk ss sq) H0) (hD0 : va_D (fun _ => True) (wX cyI cyZ q0 q1 q2 q3 q4 q5 q6 wc wl sc sl cl ct rw co sk ss sq)) (ro : Nat) (hro : ro < 40) : Met l yX0_stopsAtRow wsX0_stopsAtRow ({ frames := 0, cells := 0, slots := 0, locals := 0 }) (va_Pc [.ref q0, .int (nI ro)] (pK dC dI (tyW cyI cyZ) H0)) (va_Qi (fun (r : Int32) (u : Int32 × Int32) => match u with | (sk2, ss2) => (ct ro = 0 ∧ r = 0 ∧ sk2 = sk ∧ ss2 = ss) ∨ (¬ ct ro = 0 ∧ r = 1 ∧ sk2 = 1 ∧ ss2 = 5)) (fun (u : Int32 × Int32) (t : State) => match u with | (sk2, ss2) => va_P (dC, dI) vwCl (wX cyI cyZ q0 q1 q2 q3 q4 q5 q6 wc wl sc sl cl ct rw co sk2 ss2 sq) t.heap) (va_A (wX cyI cyZ q0 q1 q2 q3 q4 q5 q6 wc wl sc sl cl ct rw co sk ss sq) H0.size)) 0 0 (va_A (wX cyI cyZ q0 q1 q2 q3 q4 q5 q6 wc wl sc sl cl ct rw co sk ss sq) H0.size) := by
  refine Met.ofW (cc := cX0_stopsAtRow) (maxL := 2) (ret := (some .boolean)) (by decide) rfl ?_
  intro p e s m args below meth c s₁ B hml hv
  obtain ⟨rfl, rfl, hK⟩ := hv
  have hx := B.exec
  have hb := B.bytes
  have hr := B.returns
  have hts := atoms_spec (ws := wsX0_stopsAtRow) B.pre
  have hown : s.vm.findClass RX0 = some m.cls := findClass_of_methodNamed B.named
  have hlocks := B.notSynchronized
  have hD := hD0.self (sz := s.heap.size)
  generalize hAe : (va_A (wX cyI cyZ q0 q1 q2 q3 q4 q5 q6 wc wl sc sl cl ct rw co sk ss sq) s.heap.size) = A at hD ⊢
  have hA : ∀ q : Nat, s.heap.size ≤ q → A q := fun q h => by rw [← hAe]; exact Or.inr h
  have hS : va_S A s.heap s.heap [] := va_S.rf
  have hl := lv_entry ([.ref q0, .int (nI ro)]) (n := 2) (Nat.le_of_ble_eq_true rfl)
  rw [lg_entry_eq]
  generalize (lg_sl ([.ref q0, .int (nI ro)]) ++ List.replicate (2 - (lg_sl ([.ref q0, .int (nI ro)])).length) Slot.unset).toArray = ls at hl ⊢
  have hl : lv_has ls 2 [(0, .ref q0), (1, .int (nI ro))] := hl
  have iw : ∀ w ∈ wsX00, w ∈ wsX0_stopsAtRow := by decide +kernel
  refine lv_aload_n hx hb dX0_stopsAtRow_0 rfl (lv_at hl 0 rfl) ?_
  refine va_get (D := (dC, dI)) (ci := 0) (v := .ref q6) (C := RX0) (T := TX0) (N := 11) hx hb hts iw hown hK hP 0 rfl rfl 5 (by decide) (hts (.fieldLink RX0 31 "ReelLoom" "rowIsCut" "[Z") (by decide +kernel)) (fun _ h9 => h9) rfl dX0_stopsAtRow_1 ?_
  refine lv_iload_n hx hb dX0_stopsAtRow_4 rfl (lv_at hl 1 rfl) ?_
  refine va_zald hx hb hK hP 6 1 rfl rfl (vp_in_nI (by omega) (by omega)) dX0_stopsAtRow_5 ?_
  rw [nI_clamp (show ro < 2 ^ 31 by omega)]
  refine lv_if_ne (tgt := 11) hx hb dX0_stopsAtRow_6 (by decide) (fun h6 => ?_) (fun h6 => ?_)
  · skip
    refine lv_aload_n hx hb dX0_stopsAtRow_11 rfl (lv_at hl 0 rfl) ?_
    refine lv_iconst (v := 1) hx hb dX0_stopsAtRow_12 (by decide) ?_
    refine va_put (D := (dC, dI)) (ci := 0) (v := .int 1) (ty := .int) (C := RX0) (T := TX0) (N := 11) hx hb hts iw tyX0 tyX0_ok nmX0 hown hK hP hD hS 0 rfl rfl 8 (by decide) (hts (.fieldLink RX0 42 "ReelLoom" "stopKind" "I") (by decide +kernel)) (fun _ h9 => h9) rfl (by decide +kernel) rfl rfl (Nat.le_of_ble_eq_true rfl) dX0_stopsAtRow_13 (fun H locs hP hD hS => ?_)
    have hP : va_P (dC, dI) vwCl (wX cyI cyZ q0 q1 q2 q3 q4 q5 q6 wc wl sc sl cl ct rw co 1 ss sq) H := hP
    have hD : va_D A (wX cyI cyZ q0 q1 q2 q3 q4 q5 q6 wc wl sc sl cl ct rw co 1 ss sq) := hD
    refine lv_aload_n hx hb dX0_stopsAtRow_16 rfl (lv_at hl 0 rfl) ?_
    refine lv_iconst (v := 5) hx hb dX0_stopsAtRow_17 (by decide) ?_
    refine va_put (D := (dC, dI)) (ci := 0) (v := .int 5) (ty := .int) (C := RX0) (T := TX0) (N := 11) hx hb hts iw tyX0 tyX0_ok nmX0 hown hK hP hD hS 0 rfl rfl 9 (by decide) (hts (.fieldLink RX0 45 "ReelLoom" "stopSort" "I") (by decide +kernel)) (fun _ h9 => h9) rfl (by decide +kernel) rfl rfl (Nat.le_of_ble_eq_true rfl) dX0_stopsAtRow_18 (fun H locs hP hD hS => ?_)
    have hP : va_P (dC, dI) vwCl (wX cyI cyZ q0 q1 q2 q3 q4 q5 q6 wc wl sc sl cl ct rw co 1 5 sq) H := hP
    have hD : va_D A (wX cyI cyZ q0 q1 q2 q3 q4 q5 q6 wc wl sc sl cl ct rw co 1 5 sq) := hD
    refine lv_iconst (v := 1) hx hb dX0_stopsAtRow_21 (by decide) ?_
    exact W.zret (v := 1) (ty := .boolean) hx hb hr rfl (fun t ht hW => ⟨⟨1, (1, 5), rfl, Or.inr ⟨h6, rfl, rfl, rfl⟩, by show va_P (dC, dI) vwCl (wX cyI cyZ q0 q1 q2 q3 q4 q5 q6 wc wl sc sl cl ct rw co 1 5 sq) t.heap; rw [ht]; exact hP⟩, hS.F ht⟩) hS.2.2 dX0_stopsAtRow_22
  · skip
    refine lv_iconst (v := 0) hx hb dX0_stopsAtRow_9 (by decide) ?_
    exact W.zret (v := 0) (ty := .boolean) hx hb hr rfl (fun t ht hW => ⟨⟨0, (sk, ss), rfl, Or.inl ⟨h6, rfl, rfl, rfl⟩, by show va_P (dC, dI) vwCl (wX cyI cyZ q0 q1 q2 q3 q4 q5 q6 wc wl sc sl cl ct rw co sk ss sq) t.heap; rw [ht]; exact hP⟩, hS.F ht⟩) hS.2.2 dX0_stopsAtRow_10
set_option maxHeartbeats 4000000 in
set_option maxRecDepth 100000 in
theorem k_X0_addsInPass (l : Launch) (dC : Nat → ClassId) (dI : Nat → Nat → Nat) (cyI cyZ : ClassId) (H0 : Heap) (q0 q1 q2 q3 q4 q5 q6 : Nat) (wc wl sc sl cl ct : Nat → Int32) (rw co sk ss sq : Int32) (hP : va_P (dC, dI) vwCl (wX cyI cyZ q0 q1 q2 q3 q4 q5 q6 wc wl sc sl cl ct rw co sk ss sq) H0) (hD0 : va_D (fun _ => True) (wX cyI cyZ q0 q1 q2 q3 q4 q5 q6 wc wl sc sl cl ct rw co sk ss sq)) (so : Nat) (j : Nat) (v : Int32) (hso : so < 5) (hj : j < 64) : Met l yX0_addsInPass wsX0_addsInPass ({ frames := 3, cells := 0, slots := 0, locals := 69 }) (va_Pc [.ref q0, .int (nI so), .int (nI j), .int v] (pK dC dI (tyW cyI cyZ) H0)) (va_Qi (fun (r : Int32) (u : (Nat → Int32) × Int32 × Int32) => match u with | (wc2, sk2, ss2) => (nI j < wl so ∧ r = 1 ∧ wc2 = upd wc (so * 64 + j) (ft so (wc (so * 64 + j) + v)) ∧ sk2 = sk ∧ ss2 = ss) ∨ (¬ nI j < wl so ∧ r = 0 ∧ wc2 = wc ∧ sk2 = stK wl so ∧ ss2 = nI so)) (fun (u : (Nat → Int32) × Int32 × Int32) (t : State) => match u with | (wc2, sk2, ss2) => va_P (dC, dI) vwCl (wX cyI cyZ q0 q1 q2 q3 q4 q5 q6 wc2 wl sc sl cl ct rw co sk2 ss2 sq) t.heap) (va_A (wX cyI cyZ q0 q1 q2 q3 q4 q5 q6 wc wl sc sl cl ct rw co sk ss sq) H0.size)) 0 0 (va_A (wX cyI cyZ q0 q1 q2 q3 q4 q5 q6 wc wl sc sl cl ct rw co sk ss sq) H0.size) := by
  refine Met.ofW (cc := cX0_addsInPass) (maxL := 4) (ret := (some .boolean)) (by decide) rfl ?_
  intro p e s m args below meth c s₁ B hml hv
  obtain ⟨rfl, rfl, hK⟩ := hv
  have hx := B.exec
  have hb := B.bytes
  have hr := B.returns
  have hts := atoms_spec (ws := wsX0_addsInPass) B.pre
  have hown : s.vm.findClass RX0 = some m.cls := findClass_of_methodNamed B.named
  have hlocks := B.notSynchronized
  have hD := hD0.self (sz := s.heap.size)
  generalize hAe : (va_A (wX cyI cyZ q0 q1 q2 q3 q4 q5 q6 wc wl sc sl cl ct rw co sk ss sq) s.heap.size) = A at hD ⊢
  have hA : ∀ q : Nat, s.heap.size ≤ q → A q := fun q h => by rw [← hAe]; exact Or.inr h
  have hS : va_S A s.heap s.heap [] := va_S.rf
  have hl := lv_entry ([.ref q0, .int (nI so), .int (nI j), .int v]) (n := 4) (Nat.le_of_ble_eq_true rfl)
  rw [lg_entry_eq]
  generalize (lg_sl ([.ref q0, .int (nI so), .int (nI j), .int v]) ++ List.replicate (4 - (lg_sl ([.ref q0, .int (nI so), .int (nI j), .int v])).length) Slot.unset).toArray = ls at hl ⊢
  have hl : lv_has ls 4 [(0, .ref q0), (1, .int (nI so)), (2, .int (nI j)), (3, .int v)] := hl
  have iw : ∀ w ∈ wsX00, w ∈ wsX0_addsInPass := by decide +kernel
  refine lv_aload_n hx hb dX0_addsInPass_0 rfl (lv_at hl 0 rfl) ?_
  refine lv_iload_n hx hb dX0_addsInPass_1 rfl (lv_at hl 1 rfl) ?_
  refine lv_iload_n hx hb dX0_addsInPass_2 rfl (lv_at hl 2 rfl) ?_
  have hFc := va_free (wc := wX cyI cyZ q0 q1 q2 q3 q4 q5 q6 wc wl sc sl cl ct rw co sk ss sq) hD hS hA [0, 1, 2, 3, 4, 5, 6] rfl
  refine va_calli (va_runV (As := [.int (nI so), .int (nI j)]) (rest := []) ⟨hx, hb, hml, hown, hts⟩ (k_X0_stopsAtReel l dC dI cyI cyZ _ q0 q1 q2 q3 q4 q5 q6 wc wl sc sl cl ct rw co sk ss sq hP (hD.weaken (fun _ _ _ _ => trivial)) so j (by omega)) (cwV 2 hts gX0_addsInPass_X0_stopsAtReel rfl rfl rfl (by decide +kernel) ⟨Nat.le_of_ble_eq_true rfl, Nat.le_of_ble_eq_true rfl⟩) (pK_V hK (va_recv hK hP (ci := 0) (q0 := 0) rfl rfl)) rfl rfl hl.1 rfl (lv_room (Nat.le_of_ble_eq_true rfl)) dX0_addsInPass_3 ⟨Nat.le_of_ble_eq_true rfl, Nat.le_of_ble_eq_true rfl⟩) hS (fun q _ h => hFc q h) hFc (fun r3 u t H1 locs ht hvm hw hB hz1 hk1 hS => ?_)
  obtain ⟨sk3, ss3⟩ := u
  dsimp only at hw
  have hP : va_P (dC, dI) vwCl (wX cyI cyZ q0 q1 q2 q3 q4 q5 q6 wc wl sc sl cl ct rw co sk3 ss3 sq) t.heap := hB
  rw [ht] at hP
  have hD : va_D A (wX cyI cyZ q0 q1 q2 q3 q4 q5 q6 wc wl sc sl cl ct rw co sk3 ss3 sq) := wX_D hD
  clear hB
  generalize H1 = H at hP hS ⊢
  refine lv_if_eq (tgt := 11) hx hb dX0_addsInPass_6 (by decide) (fun h6 => ?_) (fun h6 => ?_)
  · skip
    have hc3 : nI j < wl so ∧ sk3 = sk ∧ ss3 = ss := by rcases hw with ⟨a1, a2, a3, a4⟩ | ⟨a1, a2, a3, a4⟩; exact ⟨a1, a3, a4⟩; exact absurd (a2.symm.trans h6) (by decide)
    refine lv_aload_n hx hb dX0_addsInPass_11 rfl (lv_at hl 0 rfl) ?_
    refine lv_iload_n hx hb dX0_addsInPass_12 rfl (lv_at hl 1 rfl) ?_
    refine lv_iload_n hx hb dX0_addsInPass_13 rfl (lv_at hl 2 rfl) ?_
    refine lv_aload_n hx hb dX0_addsInPass_14 rfl (lv_at hl 0 rfl) ?_
    refine va_get (D := (dC, dI)) (ci := 0) (v := .ref q1) (C := RX0) (T := TX0) (N := 11) hx hb hts iw hown hK hP 0 rfl rfl 0 (by decide) (hts (.fieldLink RX0 9 "ReelLoom" "workingCells" "[I") (by decide +kernel)) (fun _ h9 => h9) rfl dX0_addsInPass_15 ?_
    refine lv_iload_n hx hb dX0_addsInPass_18 rfl (lv_at hl 1 rfl) ?_
    refine lv_iload_n hx hb dX0_addsInPass_19 rfl (lv_at hl 2 rfl) ?_
    refine gx_calli (va_runS (As := [.int (nI so), .int (nI j)]) (rest := [.ref q1, .int (nI j), .int (nI so), .ref q0]) ⟨hx, hb, hml, hown, hts⟩ (k_X0_reelIndex l dC dI  _   so j ) (va_cwS 2 hts gX0_addsInPass_X0_reelIndex rfl rfl rfl (by decide +kernel) ⟨Nat.le_of_ble_eq_true rfl, Nat.le_of_ble_eq_true rfl⟩) (pK_S (hK.sub (tys' := []) [] rfl)) rfl rfl hl.1 rfl (lv_room (Nat.le_of_ble_eq_true rfl)) dX0_addsInPass_20 ⟨Nat.le_of_ble_eq_true rfl, Nat.le_of_ble_eq_true rfl⟩) (fun r_3 hr_3 => ?_)
    subst hr_3
    refine va_iald hx hb hK hP 1 0 rfl rfl (vp_in_nI (by omega) (by omega)) dX0_addsInPass_23 ?_
    rw [nI_clamp (show (so * 64 + j) < 2 ^ 31 by omega)]
    refine lv_iload_n hx hb dX0_addsInPass_24 rfl (lv_at hl 3 rfl) ?_
    refine lv_iadd hx hb dX0_addsInPass_25 ?_
    have hFc := va_free (wc := wX cyI cyZ q0 q1 q2 q3 q4 q5 q6 wc wl sc sl cl ct rw co sk3 ss3 sq) hD hS hA [0, 1, 2, 3, 4, 5, 6] rfl
    refine va_calli (va_runV (As := [.int (nI so), .int (nI j), .int ((wc ((so * 64 + j))) + v)]) (rest := []) ⟨hx, hb, hml, hown, hts⟩ (k_X0_put l dC dI cyI cyZ _ q0 q1 q2 q3 q4 q5 q6 wc wl sc sl cl ct rw co sk3 ss3 sq hP (hD.weaken (fun _ _ _ _ => trivial)) so j ((wc ((so * 64 + j))) + v) (by omega) (by omega)) (cwV 3 hts gX0_addsInPass_X0_put rfl rfl rfl (by decide +kernel) ⟨Nat.le_of_ble_eq_true rfl, Nat.le_of_ble_eq_true rfl⟩) (pK_V hK (va_recv hK hP (ci := 0) (q0 := 0) rfl rfl)) rfl rfl hl.1 rfl (lv_room (Nat.le_of_ble_eq_true rfl)) dX0_addsInPass_26 ⟨Nat.le_of_ble_eq_true rfl, Nat.le_of_ble_eq_true rfl⟩) hS (fun q _ h => hFc q h) hFc (fun r_4 u t H1 locs ht hvm hw hB hz1 hk1 hS => ?_)
    have hP : va_P (dC, dI) vwCl (wX cyI cyZ q0 q1 q2 q3 q4 q5 q6 (upd wc (so * 64 + j) (ft so (((wc ((so * 64 + j))) + v)))) wl sc sl cl ct rw co sk3 ss3 sq) t.heap := hB
    rw [ht] at hP
    have hD : va_D A (wX cyI cyZ q0 q1 q2 q3 q4 q5 q6 (upd wc (so * 64 + j) (ft so (((wc ((so * 64 + j))) + v)))) wl sc sl cl ct rw co sk3 ss3 sq) := wX_D hD
    clear hB
    generalize H1 = H at hP hS ⊢
    refine lv_pop hx hb dX0_addsInPass_29 rfl ?_
    refine lv_iconst (v := 1) hx hb dX0_addsInPass_30 (by decide) ?_
    exact W.zret (v := 1) (ty := .boolean) hx hb hr rfl (fun t ht hW => ⟨⟨1, (upd wc (so * 64 + j) (ft so (((wc ((so * 64 + j))) + v))), sk3, ss3), rfl, Or.inl ⟨hc3.1, rfl, rfl, hc3.2.1, hc3.2.2⟩, by show va_P (dC, dI) vwCl (wX cyI cyZ q0 q1 q2 q3 q4 q5 q6 (upd wc (so * 64 + j) (ft so (((wc ((so * 64 + j))) + v)))) wl sc sl cl ct rw co sk3 ss3 sq) t.heap; rw [ht]; exact hP⟩, hS.F ht⟩) hS.2.2 dX0_addsInPass_31
  · skip
    have hc3 : ¬ nI j < wl so ∧ sk3 = stK wl so ∧ ss3 = nI so := by rcases hw with ⟨a1, a2, a3, a4⟩ | ⟨a1, a2, a3, a4⟩; exact absurd a2 h6; exact ⟨a1, a3, a4⟩
    refine lv_iconst (v := 0) hx hb dX0_addsInPass_9 (by decide) ?_
    exact W.zret (v := 0) (ty := .boolean) hx hb hr rfl (fun t ht hW => ⟨⟨0, (wc, sk3, ss3), rfl, Or.inr ⟨hc3.1, rfl, rfl, hc3.2.1, hc3.2.2⟩, by show va_P (dC, dI) vwCl (wX cyI cyZ q0 q1 q2 q3 q4 q5 q6 wc wl sc sl cl ct rw co sk3 ss3 sq) t.heap; rw [ht]; exact hP⟩, hS.F ht⟩) hS.2.2 dX0_addsInPass_10
