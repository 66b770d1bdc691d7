set_option maxHeartbeats 4000000 in
set_option maxRecDepth 100000 in
theorem k_X0_init (l : Launch) (dC : Nat → ClassId) (dI : Nat → Nat → Nat) (cyI cyZ : ClassId) (H0 : Heap) (q0 : Nat) (hP : va_P (dC, dI) vwCl [(q0, .inr (0, [.null, .null, .null, .null, .null, .null, .int 0, .int 0, .int 0, .int 0, .int 0]))] H0) (hD0 : va_D (fun _ => True) [(q0, .inr (0, [.null, .null, .null, .null, .null, .null, .int 0, .int 0, .int 0, .int 0, .int 0]))]) : Met l yX0_init wsX0_init ({ frames := 1, cells := 6, slots := 2290, locals := 23 }) (va_Pc [.ref q0] (pK dC dI (tyW cyI cyZ) H0)) (va_Qv (fun _ : Nat × Nat × Nat × Nat × Nat × Nat => True) (fun (u : Nat × Nat × Nat × Nat × Nat × Nat) (t : State) => match u with | (q1, q2, q3, q4, q5, q6) => va_P (dC, dI) vwCl (wX cyI cyZ q0 q1 q2 q3 q4 q5 q6 (fun _ => 0) (fa (fun _ => 0) (-1) 5) (fun _ => 0) (fa (fun _ => 0) (-1) 5) (fun _ => 0) (fun _ => 0) (-1) (-1) 0 0 0) t.heap ∧ va_D (va_A ([(q0, .inr (0, [.null, .null, .null, .null, .null, .null, .int 0, .int 0, .int 0, .int 0, .int 0]))]) H0.size) (wX cyI cyZ q0 q1 q2 q3 q4 q5 q6 (fun _ => 0) (fa (fun _ => 0) (-1) 5) (fun _ => 0) (fa (fun _ => 0) (-1) 5) (fun _ => 0) (fun _ => 0) (-1) (-1) 0 0 0)) (va_A ([(q0, .inr (0, [.null, .null, .null, .null, .null, .null, .int 0, .int 0, .int 0, .int 0, .int 0]))]) H0.size)) 6 2290 (va_A ([(q0, .inr (0, [.null, .null, .null, .null, .null, .null, .int 0, .int 0, .int 0, .int 0, .int 0]))]) H0.size) := by
  refine Met.ofW (cc := cX0_init) (maxL := 1) (ret := none) (by decide) rfl ?_
  intro p e s m args below meth c s₁ B hml hv
  obtain ⟨rfl, rfl, hK⟩ := hv
  have hx := B.exec
  have hb := B.bytes
  have hr := B.returns
  have hts := atoms_spec (ws := wsX0_init) B.pre
  have hown : s.vm.findClass RX0 = some m.cls := findClass_of_methodNamed B.named
  have hin : meth.name = "<init>" := (name_of_methodNamed B.named B.method).1
  have hD := hD0.self (sz := s.heap.size)
  generalize hAe : (va_A ([(q0, .inr (0, [.null, .null, .null, .null, .null, .null, .int 0, .int 0, .int 0, .int 0, .int 0]))]) s.heap.size) = A at hD ⊢
  have hA : ∀ q : Nat, s.heap.size ≤ q → A q := fun q h => by rw [← hAe]; exact Or.inr h
  have hS : va_S A s.heap s.heap [] := va_S.rf
  have hl := lv_entry ([.ref q0]) (n := 1) (Nat.le_of_ble_eq_true rfl)
  rw [lg_entry_eq]
  generalize (lg_sl ([.ref q0]) ++ List.replicate (1 - (lg_sl ([.ref q0])).length) Slot.unset).toArray = ls at hl ⊢
  have hl : lv_has ls 1 [(0, .ref q0)] := hl
  have iw : ∀ w ∈ wsX00, w ∈ wsX0_init := by decide +kernel
  refine lv_aload_n hx hb dX0_init_0 rfl (lv_at hl 0 rfl) ?_
  refine W.objInit hx hb hown (hts (.methodLink RX0 1 Lib.objectInit) (by decide +kernel)) (hts (.instanceMethod Lib.objectInit) (by decide +kernel)) (hts (.code Lib.objectInit ⟨#[0xb1]⟩ 1 none) (by decide +kernel)) rfl (by rw [hml]; exact hl.1) rfl dX0_init_1 (Nat.le_of_ble_eq_true rfl) (Nat.le_of_ble_eq_true rfl) ?_
  show W _ _ _ _ _ _ _ _ _ _ _ _ _ _ _ (F0 m 4 ls [])
  refine lv_aload_n hx hb dX0_init_4 rfl (lv_at hl 0 rfl) ?_
  refine lv_sipush (v := 320) hx hb dX0_init_5 (by decide) ?_
  refine va_newa (D := (dC, dI)) (a0 := (320, .inl (fun _ => 0))) (N' := 320) (ty := .int) (atype := .int) hx hb (hts (.arrayClass .int) (by decide +kernel)) rfl hK hP hD hS hA (fun _ => rfl) (by decide) (by decide) (by decide) (Nat.le_of_ble_eq_true rfl) (Nat.le_of_ble_eq_true rfl) dX0_init_8 (fun q1 cA H hK1 hP hD hS => ?_)
  obtain rfl : cyI = cA := Option.some.inj ((show s.vm.findClass ("[" ++ FieldType.int.toString) = some cyI from (hK1.2 0 _ rfl).2).symm.trans (hK1.2 2 _ rfl).2)
  clear hK1
  have hP : va_P (dC, dI) vwCl ([(q0, .inr (0, [.null, .null, .null, .null, .null, .null, .int 0, .int 0, .int 0, .int 0, .int 0])), (q1, .inl (cyI, 320, .inl (fun _ => 0)))]) H := hP
  have hD : va_D A ([(q0, .inr (0, [.null, .null, .null, .null, .null, .null, .int 0, .int 0, .int 0, .int 0, .int 0])), (q1, .inl (cyI, 320, .inl (fun _ => 0)))]) := hD
  refine va_putF (D := (dC, dI)) (ci := 0) (v := .ref q1) (ty := tyX0 0) (C := RX0) (T := TX0) (N := 11) hx hb hts iw tyX0 tyX0_ok nmX0 hown hK hP hD hS 0 rfl rfl 0 (by decide) (hts (.fieldLink RX0 9 "ReelLoom" "workingCells" "[I") (by decide +kernel)) (fun _ h9 => h9) rfl hin rfl (tyX0_ok 0 (by decide)) rfl rfl (Nat.le_of_ble_eq_true rfl) dX0_init_10 (fun H locs hP hD hS => ?_)
  have hP : va_P (dC, dI) vwCl ([(q0, .inr (0, [.ref q1, .null, .null, .null, .null, .null, .int 0, .int 0, .int 0, .int 0, .int 0])), (q1, .inl (cyI, 320, .inl (fun _ => 0)))]) H := hP
  have hD : va_D A ([(q0, .inr (0, [.ref q1, .null, .null, .null, .null, .null, .int 0, .int 0, .int 0, .int 0, .int 0])), (q1, .inl (cyI, 320, .inl (fun _ => 0)))]) := hD
  refine lv_aload_n hx hb dX0_init_13 rfl (lv_at hl 0 rfl) ?_
  refine lv_iconst (v := 5) hx hb dX0_init_14 (by decide) ?_
  refine va_newa (D := (dC, dI)) (a0 := (5, .inl (fun _ => 0))) (N' := 5) (ty := .int) (atype := .int) hx hb (hts (.arrayClass .int) (by decide +kernel)) rfl hK hP hD hS hA (fun _ => rfl) (by decide) (by decide) (by decide) (Nat.le_of_ble_eq_true rfl) (Nat.le_of_ble_eq_true rfl) dX0_init_15 (fun q2 cA H hK1 hP hD hS => ?_)
  obtain rfl : cyI = cA := Option.some.inj ((show s.vm.findClass ("[" ++ FieldType.int.toString) = some cyI from (hK1.2 0 _ rfl).2).symm.trans (hK1.2 2 _ rfl).2)
  clear hK1
  have hP : va_P (dC, dI) vwCl ([(q0, .inr (0, [.ref q1, .null, .null, .null, .null, .null, .int 0, .int 0, .int 0, .int 0, .int 0])), (q1, .inl (cyI, 320, .inl (fun _ => 0))), (q2, .inl (cyI, 5, .inl (fun _ => 0)))]) H := hP
  have hD : va_D A ([(q0, .inr (0, [.ref q1, .null, .null, .null, .null, .null, .int 0, .int 0, .int 0, .int 0, .int 0])), (q1, .inl (cyI, 320, .inl (fun _ => 0))), (q2, .inl (cyI, 5, .inl (fun _ => 0)))]) := hD
  refine va_putF (D := (dC, dI)) (ci := 0) (v := .ref q2) (ty := tyX0 1) (C := RX0) (T := TX0) (N := 11) hx hb hts iw tyX0 tyX0_ok nmX0 hown hK hP hD hS 0 rfl rfl 1 (by decide) (hts (.fieldLink RX0 13 "ReelLoom" "workingLength" "[I") (by decide +kernel)) (fun _ h9 => h9) rfl hin rfl (tyX0_ok 1 (by decide)) rfl rfl (Nat.le_of_ble_eq_true rfl) dX0_init_17 (fun H locs hP hD hS => ?_)
  have hP : va_P (dC, dI) vwCl ([(q0, .inr (0, [.ref q1, .ref q2, .null, .null, .null, .null, .int 0, .int 0, .int 0, .int 0, .int 0])), (q1, .inl (cyI, 320, .inl (fun _ => 0))), (q2, .inl (cyI, 5, .inl (fun _ => 0)))]) H := hP
  have hD : va_D A ([(q0, .inr (0, [.ref q1, .ref q2, .null, .null, .null, .null, .int 0, .int 0, .int 0, .int 0, .int 0])), (q1, .inl (cyI, 320, .inl (fun _ => 0))), (q2, .inl (cyI, 5, .inl (fun _ => 0)))]) := hD
  refine lv_aload_n hx hb dX0_init_20 rfl (lv_at hl 0 rfl) ?_
  refine lv_sipush (v := 320) hx hb dX0_init_21 (by decide) ?_
  refine va_newa (D := (dC, dI)) (a0 := (320, .inl (fun _ => 0))) (N' := 320) (ty := .int) (atype := .int) hx hb (hts (.arrayClass .int) (by decide +kernel)) rfl hK hP hD hS hA (fun _ => rfl) (by decide) (by decide) (by decide) (Nat.le_of_ble_eq_true rfl) (Nat.le_of_ble_eq_true rfl) dX0_init_24 (fun q3 cA H hK1 hP hD hS => ?_)
  obtain rfl : cyI = cA := Option.some.inj ((show s.vm.findClass ("[" ++ FieldType.int.toString) = some cyI from (hK1.2 0 _ rfl).2).symm.trans (hK1.2 2 _ rfl).2)
  clear hK1
  have hP : va_P (dC, dI) vwCl ([(q0, .inr (0, [.ref q1, .ref q2, .null, .null, .null, .null, .int 0, .int 0, .int 0, .int 0, .int 0])), (q1, .inl (cyI, 320, .inl (fun _ => 0))), (q2, .inl (cyI, 5, .inl (fun _ => 0))), (q3, .inl (cyI, 320, .inl (fun _ => 0)))]) H := hP
  have hD : va_D A ([(q0, .inr (0, [.ref q1, .ref q2, .null, .null, .null, .null, .int 0, .int 0, .int 0, .int 0, .int 0])), (q1, .inl (cyI, 320, .inl (fun _ => 0))), (q2, .inl (cyI, 5, .inl (fun _ => 0))), (q3, .inl (cyI, 320, .inl (fun _ => 0)))]) := hD
  refine va_putF (D := (dC, dI)) (ci := 0) (v := .ref q3) (ty := tyX0 2) (C := RX0) (T := TX0) (N := 11) hx hb hts iw tyX0 tyX0_ok nmX0 hown hK hP hD hS 0 rfl rfl 2 (by decide) (hts (.fieldLink RX0 16 "ReelLoom" "spareCells" "[I") (by decide +kernel)) (fun _ h9 => h9) rfl hin rfl (tyX0_ok 2 (by decide)) rfl rfl (Nat.le_of_ble_eq_true rfl) dX0_init_26 (fun H locs hP hD hS => ?_)
  have hP : va_P (dC, dI) vwCl ([(q0, .inr (0, [.ref q1, .ref q2, .ref q3, .null, .null, .null, .int 0, .int 0, .int 0, .int 0, .int 0])), (q1, .inl (cyI, 320, .inl (fun _ => 0))), (q2, .inl (cyI, 5, .inl (fun _ => 0))), (q3, .inl (cyI, 320, .inl (fun _ => 0)))]) H := hP
  have hD : va_D A ([(q0, .inr (0, [.ref q1, .ref q2, .ref q3, .null, .null, .null, .int 0, .int 0, .int 0, .int 0, .int 0])), (q1, .inl (cyI, 320, .inl (fun _ => 0))), (q2, .inl (cyI, 5, .inl (fun _ => 0))), (q3, .inl (cyI, 320, .inl (fun _ => 0)))]) := hD
  refine lv_aload_n hx hb dX0_init_29 rfl (lv_at hl 0 rfl) ?_
  refine lv_iconst (v := 5) hx hb dX0_init_30 (by decide) ?_
  refine va_newa (D := (dC, dI)) (a0 := (5, .inl (fun _ => 0))) (N' := 5) (ty := .int) (atype := .int) hx hb (hts (.arrayClass .int) (by decide +kernel)) rfl hK hP hD hS hA (fun _ => rfl) (by decide) (by decide) (by decide) (Nat.le_of_ble_eq_true rfl) (Nat.le_of_ble_eq_true rfl) dX0_init_31 (fun q4 cA H hK1 hP hD hS => ?_)
  obtain rfl : cyI = cA := Option.some.inj ((show s.vm.findClass ("[" ++ FieldType.int.toString) = some cyI from (hK1.2 0 _ rfl).2).symm.trans (hK1.2 2 _ rfl).2)
  clear hK1
  have hP : va_P (dC, dI) vwCl ([(q0, .inr (0, [.ref q1, .ref q2, .ref q3, .null, .null, .null, .int 0, .int 0, .int 0, .int 0, .int 0])), (q1, .inl (cyI, 320, .inl (fun _ => 0))), (q2, .inl (cyI, 5, .inl (fun _ => 0))), (q3, .inl (cyI, 320, .inl (fun _ => 0))), (q4, .inl (cyI, 5, .inl (fun _ => 0)))]) H := hP
  have hD : va_D A ([(q0, .inr (0, [.ref q1, .ref q2, .ref q3, .null, .null, .null, .int 0, .int 0, .int 0, .int 0, .int 0])), (q1, .inl (cyI, 320, .inl (fun _ => 0))), (q2, .inl (cyI, 5, .inl (fun _ => 0))), (q3, .inl (cyI, 320, .inl (fun _ => 0))), (q4, .inl (cyI, 5, .inl (fun _ => 0)))]) := hD
  refine va_putF (D := (dC, dI)) (ci := 0) (v := .ref q4) (ty := tyX0 3) (C := RX0) (T := TX0) (N := 11) hx hb hts iw tyX0 tyX0_ok nmX0 hown hK hP hD hS 0 rfl rfl 3 (by decide) (hts (.fieldLink RX0 19 "ReelLoom" "spareLength" "[I") (by decide +kernel)) (fun _ h9 => h9) rfl hin rfl (tyX0_ok 3 (by decide)) rfl rfl (Nat.le_of_ble_eq_true rfl) dX0_init_33 (fun H locs hP hD hS => ?_)
  have hP : va_P (dC, dI) vwCl ([(q0, .inr (0, [.ref q1, .ref q2, .ref q3, .ref q4, .null, .null, .int 0, .int 0, .int 0, .int 0, .int 0])), (q1, .inl (cyI, 320, .inl (fun _ => 0))), (q2, .inl (cyI, 5, .inl (fun _ => 0))), (q3, .inl (cyI, 320, .inl (fun _ => 0))), (q4, .inl (cyI, 5, .inl (fun _ => 0)))]) H := hP
  have hD : va_D A ([(q0, .inr (0, [.ref q1, .ref q2, .ref q3, .ref q4, .null, .null, .int 0, .int 0, .int 0, .int 0, .int 0])), (q1, .inl (cyI, 320, .inl (fun _ => 0))), (q2, .inl (cyI, 5, .inl (fun _ => 0))), (q3, .inl (cyI, 320, .inl (fun _ => 0))), (q4, .inl (cyI, 5, .inl (fun _ => 0)))]) := hD
  refine lv_aload_n hx hb dX0_init_36 rfl (lv_at hl 0 rfl) ?_
  refine va_get (D := (dC, dI)) (ci := 0) (v := .ref q2) (C := RX0) (T := TX0) (N := 11) hx hb hts iw hown hK hP 0 rfl rfl 1 (by decide) (hts (.fieldLink RX0 13 "ReelLoom" "workingLength" "[I") (by decide +kernel)) (fun _ h9 => h9) rfl dX0_init_37 ?_
  refine lv_iconst (v := -1) hx hb dX0_init_40 (by decide) ?_
  have hPc := hP.sub (ws' := [(q2, .inl (cyI, 5, .inl (fun _ => 0)))]) [2] rfl
  have hDc := (hD.sub (ws' := [(q2, .inl (cyI, 5, .inl (fun _ => 0)))]) [2] (by decide) rfl).weaken (B := fun _ => True) (fun _ _ _ _ => trivial)
  have hFc := va_free (wc := [(q2, .inl (cyI, 5, .inl (fun _ => 0)))]) hD hS hA [2] rfl
  refine va_callv (va_runS (As := [.ref q2, .int (-1)]) (rest := []) ⟨hx, hb, hml, hown, hts⟩ (k_J7_fill_53178 l dC dI cyI _ q2 5 (fun _ => 0) hPc hDc (-1) (by omega)) (va_cwS 2 hts gX0_init_J7_fill_53178 rfl rfl rfl (by decide +kernel) ⟨Nat.le_of_ble_eq_true rfl, Nat.le_of_ble_eq_true rfl⟩) (pK_S (hK.sub (tys' := [(cyI, .int)]) [0] rfl)) rfl rfl hl.1 rfl (lv_room (Nat.le_of_ble_eq_true rfl)) dX0_init_41 ⟨Nat.le_of_ble_eq_true rfl, Nat.le_of_ble_eq_true rfl⟩) hS (fun q _ h => hFc q h) hFc (fun u t H1 locs ht hvm hw hB hz1 hk1 hS => ?_)
  have hB : va_P (dC, dI) vwCl [(q2, .inl (cyI, 5, .inl (fa (fun _ => 0) (-1) 5)))] t.heap := hB
  rw [ht] at hB
  obtain ⟨hP, hD⟩ := va_join (wr := ([(q0, .inr (0, [.ref q1, .ref q2, .ref q3, .ref q4, .null, .null, .int 0, .int 0, .int 0, .int 0, .int 0])), (q1, .inl (cyI, 320, .inl (fun _ => 0))), (q2, .inl (cyI, 5, .inl (fa (fun _ => 0) (-1) 5))), (q3, .inl (cyI, 320, .inl (fun _ => 0))), (q4, .inl (cyI, 5, .inl (fun _ => 0)))]).eraseIdx 2) hP hD [2] [0, 1, 3, 4] rfl rfl (by decide) (by decide) hk1 hFc hB ((hDc.self (sz := _)).addr rfl)
  have hP := hP.sub (ws' := [(q0, .inr (0, [.ref q1, .ref q2, .ref q3, .ref q4, .null, .null, .int 0, .int 0, .int 0, .int 0, .int 0])), (q1, .inl (cyI, 320, .inl (fun _ => 0))), (q2, .inl (cyI, 5, .inl (fa (fun _ => 0) (-1) 5))), (q3, .inl (cyI, 320, .inl (fun _ => 0))), (q4, .inl (cyI, 5, .inl (fun _ => 0)))]) [0, 1, 4, 2, 3] rfl
  have hD := hD.sub (ws' := [(q0, .inr (0, [.ref q1, .ref q2, .ref q3, .ref q4, .null, .null, .int 0, .int 0, .int 0, .int 0, .int 0])), (q1, .inl (cyI, 320, .inl (fun _ => 0))), (q2, .inl (cyI, 5, .inl (fa (fun _ => 0) (-1) 5))), (q3, .inl (cyI, 320, .inl (fun _ => 0))), (q4, .inl (cyI, 5, .inl (fun _ => 0)))]) [0, 1, 4, 2, 3] (by decide) rfl
  generalize H1 = H at hP hS ⊢
  refine lv_aload_n hx hb dX0_init_44 rfl (lv_at hl 0 rfl) ?_
  refine va_get (D := (dC, dI)) (ci := 0) (v := .ref q4) (C := RX0) (T := TX0) (N := 11) hx hb hts iw hown hK hP 0 rfl rfl 3 (by decide) (hts (.fieldLink RX0 19 "ReelLoom" "spareLength" "[I") (by decide +kernel)) (fun _ h9 => h9) rfl dX0_init_45 ?_
  refine lv_iconst (v := -1) hx hb dX0_init_48 (by decide) ?_
  have hPc := hP.sub (ws' := [(q4, .inl (cyI, 5, .inl (fun _ => 0)))]) [4] rfl
  have hDc := (hD.sub (ws' := [(q4, .inl (cyI, 5, .inl (fun _ => 0)))]) [4] (by decide) rfl).weaken (B := fun _ => True) (fun _ _ _ _ => trivial)
  have hFc := va_free (wc := [(q4, .inl (cyI, 5, .inl (fun _ => 0)))]) hD hS hA [4] rfl
  refine va_callv (va_runS (As := [.ref q4, .int (-1)]) (rest := []) ⟨hx, hb, hml, hown, hts⟩ (k_J7_fill_53178 l dC dI cyI _ q4 5 (fun _ => 0) hPc hDc (-1) (by omega)) (va_cwS 2 hts gX0_init_J7_fill_53178 rfl rfl rfl (by decide +kernel) ⟨Nat.le_of_ble_eq_true rfl, Nat.le_of_ble_eq_true rfl⟩) (pK_S (hK.sub (tys' := [(cyI, .int)]) [0] rfl)) rfl rfl hl.1 rfl (lv_room (Nat.le_of_ble_eq_true rfl)) dX0_init_49 ⟨Nat.le_of_ble_eq_true rfl, Nat.le_of_ble_eq_true rfl⟩) hS (fun q _ h => hFc q h) hFc (fun u t H1 locs ht hvm hw hB hz1 hk1 hS => ?_)
  have hB : va_P (dC, dI) vwCl [(q4, .inl (cyI, 5, .inl (fa (fun _ => 0) (-1) 5)))] t.heap := hB
  rw [ht] at hB
  obtain ⟨hP, hD⟩ := va_join (wr := ([(q0, .inr (0, [.ref q1, .ref q2, .ref q3, .ref q4, .null, .null, .int 0, .int 0, .int 0, .int 0, .int 0])), (q1, .inl (cyI, 320, .inl (fun _ => 0))), (q2, .inl (cyI, 5, .inl (fa (fun _ => 0) (-1) 5))), (q3, .inl (cyI, 320, .inl (fun _ => 0))), (q4, .inl (cyI, 5, .inl (fa (fun _ => 0) (-1) 5)))]).eraseIdx 4) hP hD [4] [0, 1, 2, 3] rfl rfl (by decide) (by decide) hk1 hFc hB ((hDc.self (sz := _)).addr rfl)
  have hP := hP.sub (ws' := [(q0, .inr (0, [.ref q1, .ref q2, .ref q3, .ref q4, .null, .null, .int 0, .int 0, .int 0, .int 0, .int 0])), (q1, .inl (cyI, 320, .inl (fun _ => 0))), (q2, .inl (cyI, 5, .inl (fa (fun _ => 0) (-1) 5))), (q3, .inl (cyI, 320, .inl (fun _ => 0))), (q4, .inl (cyI, 5, .inl (fa (fun _ => 0) (-1) 5)))]) [0, 1, 2, 3, 4] rfl
  have hD := hD.sub (ws' := [(q0, .inr (0, [.ref q1, .ref q2, .ref q3, .ref q4, .null, .null, .int 0, .int 0, .int 0, .int 0, .int 0])), (q1, .inl (cyI, 320, .inl (fun _ => 0))), (q2, .inl (cyI, 5, .inl (fa (fun _ => 0) (-1) 5))), (q3, .inl (cyI, 320, .inl (fun _ => 0))), (q4, .inl (cyI, 5, .inl (fa (fun _ => 0) (-1) 5)))]) [0, 1, 2, 3, 4] (by decide) rfl
  generalize H1 = H at hP hS ⊢
  refine lv_aload_n hx hb dX0_init_52 rfl (lv_at hl 0 rfl) ?_
  refine lv_sipush (v := 1600) hx hb dX0_init_53 (by decide) ?_
  refine va_newa (D := (dC, dI)) (a0 := (1600, .inl (fun _ => 0))) (N' := 1600) (ty := .int) (atype := .int) hx hb (hts (.arrayClass .int) (by decide +kernel)) rfl hK hP hD hS hA (fun _ => rfl) (by decide) (by decide) (by decide) (Nat.le_of_ble_eq_true rfl) (Nat.le_of_ble_eq_true rfl) dX0_init_56 (fun q5 cA H hK1 hP hD hS => ?_)
  obtain rfl : cyI = cA := Option.some.inj ((show s.vm.findClass ("[" ++ FieldType.int.toString) = some cyI from (hK1.2 0 _ rfl).2).symm.trans (hK1.2 2 _ rfl).2)
  clear hK1
  have hP : va_P (dC, dI) vwCl ([(q0, .inr (0, [.ref q1, .ref q2, .ref q3, .ref q4, .null, .null, .int 0, .int 0, .int 0, .int 0, .int 0])), (q1, .inl (cyI, 320, .inl (fun _ => 0))), (q2, .inl (cyI, 5, .inl (fa (fun _ => 0) (-1) 5))), (q3, .inl (cyI, 320, .inl (fun _ => 0))), (q4, .inl (cyI, 5, .inl (fa (fun _ => 0) (-1) 5))), (q5, .inl (cyI, 1600, .inl (fun _ => 0)))]) H := hP
  have hD : va_D A ([(q0, .inr (0, [.ref q1, .ref q2, .ref q3, .ref q4, .null, .null, .int 0, .int 0, .int 0, .int 0, .int 0])), (q1, .inl (cyI, 320, .inl (fun _ => 0))), (q2, .inl (cyI, 5, .inl (fa (fun _ => 0) (-1) 5))), (q3, .inl (cyI, 320, .inl (fun _ => 0))), (q4, .inl (cyI, 5, .inl (fa (fun _ => 0) (-1) 5))), (q5, .inl (cyI, 1600, .inl (fun _ => 0)))]) := hD
  refine va_putF (D := (dC, dI)) (ci := 0) (v := .ref q5) (ty := tyX0 4) (C := RX0) (T := TX0) (N := 11) hx hb hts iw tyX0 tyX0_ok nmX0 hown hK hP hD hS 0 rfl rfl 4 (by decide) (hts (.fieldLink RX0 28 "ReelLoom" "clothCells" "[I") (by decide +kernel)) (fun _ h9 => h9) rfl hin rfl (tyX0_ok 4 (by decide)) rfl rfl (Nat.le_of_ble_eq_true rfl) dX0_init_58 (fun H locs hP hD hS => ?_)
  have hP : va_P (dC, dI) vwCl ([(q0, .inr (0, [.ref q1, .ref q2, .ref q3, .ref q4, .ref q5, .null, .int 0, .int 0, .int 0, .int 0, .int 0])), (q1, .inl (cyI, 320, .inl (fun _ => 0))), (q2, .inl (cyI, 5, .inl (fa (fun _ => 0) (-1) 5))), (q3, .inl (cyI, 320, .inl (fun _ => 0))), (q4, .inl (cyI, 5, .inl (fa (fun _ => 0) (-1) 5))), (q5, .inl (cyI, 1600, .inl (fun _ => 0)))]) H := hP
  have hD : va_D A ([(q0, .inr (0, [.ref q1, .ref q2, .ref q3, .ref q4, .ref q5, .null, .int 0, .int 0, .int 0, .int 0, .int 0])), (q1, .inl (cyI, 320, .inl (fun _ => 0))), (q2, .inl (cyI, 5, .inl (fa (fun _ => 0) (-1) 5))), (q3, .inl (cyI, 320, .inl (fun _ => 0))), (q4, .inl (cyI, 5, .inl (fa (fun _ => 0) (-1) 5))), (q5, .inl (cyI, 1600, .inl (fun _ => 0)))]) := hD
  refine lv_aload_n hx hb dX0_init_61 rfl (lv_at hl 0 rfl) ?_
  refine lv_bipush (v := 40) hx hb dX0_init_62 (by decide) ?_
  refine va_newa (D := (dC, dI)) (a0 := (40, .inl (fun _ => 0))) (N' := 40) (ty := .boolean) (atype := .boolean) hx hb (hts (.arrayClass .boolean) (by decide +kernel)) rfl hK hP hD hS hA (fun _ => rfl) (by decide) (by decide) (by decide) (Nat.le_of_ble_eq_true rfl) (Nat.le_of_ble_eq_true rfl) dX0_init_64 (fun q6 cA H hK1 hP hD hS => ?_)
  obtain rfl : cyZ = cA := Option.some.inj ((show s.vm.findClass ("[" ++ FieldType.boolean.toString) = some cyZ from (hK1.2 1 _ rfl).2).symm.trans (hK1.2 2 _ rfl).2)
  clear hK1
  have hP : va_P (dC, dI) vwCl ([(q0, .inr (0, [.ref q1, .ref q2, .ref q3, .ref q4, .ref q5, .null, .int 0, .int 0, .int 0, .int 0, .int 0])), (q1, .inl (cyI, 320, .inl (fun _ => 0))), (q2, .inl (cyI, 5, .inl (fa (fun _ => 0) (-1) 5))), (q3, .inl (cyI, 320, .inl (fun _ => 0))), (q4, .inl (cyI, 5, .inl (fa (fun _ => 0) (-1) 5))), (q5, .inl (cyI, 1600, .inl (fun _ => 0))), (q6, .inl (cyZ, 40, .inl (fun _ => 0)))]) H := hP
  have hD : va_D A ([(q0, .inr (0, [.ref q1, .ref q2, .ref q3, .ref q4, .ref q5, .null, .int 0, .int 0, .int 0, .int 0, .int 0])), (q1, .inl (cyI, 320, .inl (fun _ => 0))), (q2, .inl (cyI, 5, .inl (fa (fun _ => 0) (-1) 5))), (q3, .inl (cyI, 320, .inl (fun _ => 0))), (q4, .inl (cyI, 5, .inl (fa (fun _ => 0) (-1) 5))), (q5, .inl (cyI, 1600, .inl (fun _ => 0))), (q6, .inl (cyZ, 40, .inl (fun _ => 0)))]) := hD
  refine va_putF (D := (dC, dI)) (ci := 0) (v := .ref q6) (ty := tyX0 5) (C := RX0) (T := TX0) (N := 11) hx hb hts iw tyX0 tyX0_ok nmX0 hown hK hP hD hS 0 rfl rfl 5 (by decide) (hts (.fieldLink RX0 31 "ReelLoom" "rowIsCut" "[Z") (by decide +kernel)) (fun _ h9 => h9) rfl hin rfl (tyX0_ok 5 (by decide)) rfl rfl (Nat.le_of_ble_eq_true rfl) dX0_init_66 (fun H locs hP hD hS => ?_)
  have hP : va_P (dC, dI) vwCl ([(q0, .inr (0, [.ref q1, .ref q2, .ref q3, .ref q4, .ref q5, .ref q6, .int 0, .int 0, .int 0, .int 0, .int 0])), (q1, .inl (cyI, 320, .inl (fun _ => 0))), (q2, .inl (cyI, 5, .inl (fa (fun _ => 0) (-1) 5))), (q3, .inl (cyI, 320, .inl (fun _ => 0))), (q4, .inl (cyI, 5, .inl (fa (fun _ => 0) (-1) 5))), (q5, .inl (cyI, 1600, .inl (fun _ => 0))), (q6, .inl (cyZ, 40, .inl (fun _ => 0)))]) H := hP
  have hD : va_D A ([(q0, .inr (0, [.ref q1, .ref q2, .ref q3, .ref q4, .ref q5, .ref q6, .int 0, .int 0, .int 0, .int 0, .int 0])), (q1, .inl (cyI, 320, .inl (fun _ => 0))), (q2, .inl (cyI, 5, .inl (fa (fun _ => 0) (-1) 5))), (q3, .inl (cyI, 320, .inl (fun _ => 0))), (q4, .inl (cyI, 5, .inl (fa (fun _ => 0) (-1) 5))), (q5, .inl (cyI, 1600, .inl (fun _ => 0))), (q6, .inl (cyZ, 40, .inl (fun _ => 0)))]) := hD
  refine lv_aload_n hx hb dX0_init_69 rfl (lv_at hl 0 rfl) ?_
  refine lv_iconst (v := -1) hx hb dX0_init_70 (by decide) ?_
  refine va_put (D := (dC, dI)) (ci := 0) (v := .int (-1)) (ty := .int) (C := RX0) (T := TX0) (N := 11) hx hb hts iw tyX0 tyX0_ok nmX0 hown hK hP hD hS 0 rfl rfl 6 (by decide) (hts (.fieldLink RX0 35 "ReelLoom" "rows" "I") (by decide +kernel)) (fun _ h9 => h9) rfl (by decide +kernel) rfl rfl (Nat.le_of_ble_eq_true rfl) dX0_init_71 (fun H locs hP hD hS => ?_)
  have hP : va_P (dC, dI) vwCl ([(q0, .inr (0, [.ref q1, .ref q2, .ref q3, .ref q4, .ref q5, .ref q6, .int (-1), .int 0, .int 0, .int 0, .int 0])), (q1, .inl (cyI, 320, .inl (fun _ => 0))), (q2, .inl (cyI, 5, .inl (fa (fun _ => 0) (-1) 5))), (q3, .inl (cyI, 320, .inl (fun _ => 0))), (q4, .inl (cyI, 5, .inl (fa (fun _ => 0) (-1) 5))), (q5, .inl (cyI, 1600, .inl (fun _ => 0))), (q6, .inl (cyZ, 40, .inl (fun _ => 0)))]) H := hP
  have hD : va_D A ([(q0, .inr (0, [.ref q1, .ref q2, .ref q3, .ref q4, .ref q5, .ref q6, .int (-1), .int 0, .int 0, .int 0, .int 0])), (q1, .inl (cyI, 320, .inl (fun _ => 0))), (q2, .inl (cyI, 5, .inl (fa (fun _ => 0) (-1) 5))), (q3, .inl (cyI, 320, .inl (fun _ => 0))), (q4, .inl (cyI, 5, .inl (fa (fun _ => 0) (-1) 5))), (q5, .inl (cyI, 1600, .inl (fun _ => 0))), (q6, .inl (cyZ, 40, .inl (fun _ => 0)))]) := hD
  refine lv_aload_n hx hb dX0_init_74 rfl (lv_at hl 0 rfl) ?_
  refine lv_iconst (v := -1) hx hb dX0_init_75 (by decide) ?_
  refine va_put (D := (dC, dI)) (ci := 0) (v := .int (-1)) (ty := .int) (C := RX0) (T := TX0) (N := 11) hx hb hts iw tyX0 tyX0_ok nmX0 hown hK hP hD hS 0 rfl rfl 7 (by decide) (hts (.fieldLink RX0 39 "ReelLoom" "columns" "I") (by decide +kernel)) (fun _ h9 => h9) rfl (by decide +kernel) rfl rfl (Nat.le_of_ble_eq_true rfl) dX0_init_76 (fun H locs hP hD hS => ?_)
  have hP : va_P (dC, dI) vwCl ([(q0, .inr (0, [.ref q1, .ref q2, .ref q3, .ref q4, .ref q5, .ref q6, .int (-1), .int (-1), .int 0, .int 0, .int 0])), (q1, .inl (cyI, 320, .inl (fun _ => 0))), (q2, .inl (cyI, 5, .inl (fa (fun _ => 0) (-1) 5))), (q3, .inl (cyI, 320, .inl (fun _ => 0))), (q4, .inl (cyI, 5, .inl (fa (fun _ => 0) (-1) 5))), (q5, .inl (cyI, 1600, .inl (fun _ => 0))), (q6, .inl (cyZ, 40, .inl (fun _ => 0)))]) H := hP
  have hD : va_D A ([(q0, .inr (0, [.ref q1, .ref q2, .ref q3, .ref q4, .ref q5, .ref q6, .int (-1), .int (-1), .int 0, .int 0, .int 0])), (q1, .inl (cyI, 320, .inl (fun _ => 0))), (q2, .inl (cyI, 5, .inl (fa (fun _ => 0) (-1) 5))), (q3, .inl (cyI, 320, .inl (fun _ => 0))), (q4, .inl (cyI, 5, .inl (fa (fun _ => 0) (-1) 5))), (q5, .inl (cyI, 1600, .inl (fun _ => 0))), (q6, .inl (cyZ, 40, .inl (fun _ => 0)))]) := hD
  refine lv_aload_n hx hb dX0_init_79 rfl (lv_at hl 0 rfl) ?_
  refine lv_iconst (v := 0) hx hb dX0_init_80 (by decide) ?_
  refine va_put (D := (dC, dI)) (ci := 0) (v := .int 0) (ty := .int) (C := RX0) (T := TX0) (N := 11) hx hb hts iw tyX0 tyX0_ok nmX0 hown hK hP hD hS 0 rfl rfl 8 (by decide) (hts (.fieldLink RX0 42 "ReelLoom" "stopKind" "I") (by decide +kernel)) (fun _ h9 => h9) rfl (by decide +kernel) rfl rfl (Nat.le_of_ble_eq_true rfl) dX0_init_81 (fun H locs hP hD hS => ?_)
  have hP : va_P (dC, dI) vwCl ([(q0, .inr (0, [.ref q1, .ref q2, .ref q3, .ref q4, .ref q5, .ref q6, .int (-1), .int (-1), .int 0, .int 0, .int 0])), (q1, .inl (cyI, 320, .inl (fun _ => 0))), (q2, .inl (cyI, 5, .inl (fa (fun _ => 0) (-1) 5))), (q3, .inl (cyI, 320, .inl (fun _ => 0))), (q4, .inl (cyI, 5, .inl (fa (fun _ => 0) (-1) 5))), (q5, .inl (cyI, 1600, .inl (fun _ => 0))), (q6, .inl (cyZ, 40, .inl (fun _ => 0)))]) H := hP
  have hD : va_D A ([(q0, .inr (0, [.ref q1, .ref q2, .ref q3, .ref q4, .ref q5, .ref q6, .int (-1), .int (-1), .int 0, .int 0, .int 0])), (q1, .inl (cyI, 320, .inl (fun _ => 0))), (q2, .inl (cyI, 5, .inl (fa (fun _ => 0) (-1) 5))), (q3, .inl (cyI, 320, .inl (fun _ => 0))), (q4, .inl (cyI, 5, .inl (fa (fun _ => 0) (-1) 5))), (q5, .inl (cyI, 1600, .inl (fun _ => 0))), (q6, .inl (cyZ, 40, .inl (fun _ => 0)))]) := hD
  refine lv_aload_n hx hb dX0_init_84 rfl (lv_at hl 0 rfl) ?_
  refine lv_iconst (v := 0) hx hb dX0_init_85 (by decide) ?_
  refine va_put (D := (dC, dI)) (ci := 0) (v := .int 0) (ty := .int) (C := RX0) (T := TX0) (N := 11) hx hb hts iw tyX0 tyX0_ok nmX0 hown hK hP hD hS 0 rfl rfl 9 (by decide) (hts (.fieldLink RX0 45 "ReelLoom" "stopSort" "I") (by decide +kernel)) (fun _ h9 => h9) rfl (by decide +kernel) rfl rfl (Nat.le_of_ble_eq_true rfl) dX0_init_86 (fun H locs hP hD hS => ?_)
  have hP : va_P (dC, dI) vwCl ([(q0, .inr (0, [.ref q1, .ref q2, .ref q3, .ref q4, .ref q5, .ref q6, .int (-1), .int (-1), .int 0, .int 0, .int 0])), (q1, .inl (cyI, 320, .inl (fun _ => 0))), (q2, .inl (cyI, 5, .inl (fa (fun _ => 0) (-1) 5))), (q3, .inl (cyI, 320, .inl (fun _ => 0))), (q4, .inl (cyI, 5, .inl (fa (fun _ => 0) (-1) 5))), (q5, .inl (cyI, 1600, .inl (fun _ => 0))), (q6, .inl (cyZ, 40, .inl (fun _ => 0)))]) H := hP
  have hD : va_D A ([(q0, .inr (0, [.ref q1, .ref q2, .ref q3, .ref q4, .ref q5, .ref q6, .int (-1), .int (-1), .int 0, .int 0, .int 0])), (q1, .inl (cyI, 320, .inl (fun _ => 0))), (q2, .inl (cyI, 5, .inl (fa (fun _ => 0) (-1) 5))), (q3, .inl (cyI, 320, .inl (fun _ => 0))), (q4, .inl (cyI, 5, .inl (fa (fun _ => 0) (-1) 5))), (q5, .inl (cyI, 1600, .inl (fun _ => 0))), (q6, .inl (cyZ, 40, .inl (fun _ => 0)))]) := hD
  refine lv_aload_n hx hb dX0_init_89 rfl (lv_at hl 0 rfl) ?_
  refine lv_iconst (v := 0) hx hb dX0_init_90 (by decide) ?_
  refine va_put (D := (dC, dI)) (ci := 0) (v := .int 0) (ty := .int) (C := RX0) (T := TX0) (N := 11) hx hb hts iw tyX0 tyX0_ok nmX0 hown hK hP hD hS 0 rfl rfl 10 (by decide) (hts (.fieldLink RX0 48 "ReelLoom" "stopColumn" "I") (by decide +kernel)) (fun _ h9 => h9) rfl (by decide +kernel) rfl rfl (Nat.le_of_ble_eq_true rfl) dX0_init_91 (fun H locs hP hD hS => ?_)
  have hP : va_P (dC, dI) vwCl ([(q0, .inr (0, [.ref q1, .ref q2, .ref q3, .ref q4, .ref q5, .ref q6, .int (-1), .int (-1), .int 0, .int 0, .int 0])), (q1, .inl (cyI, 320, .inl (fun _ => 0))), (q2, .inl (cyI, 5, .inl (fa (fun _ => 0) (-1) 5))), (q3, .inl (cyI, 320, .inl (fun _ => 0))), (q4, .inl (cyI, 5, .inl (fa (fun _ => 0) (-1) 5))), (q5, .inl (cyI, 1600, .inl (fun _ => 0))), (q6, .inl (cyZ, 40, .inl (fun _ => 0)))]) H := hP
  have hD : va_D A ([(q0, .inr (0, [.ref q1, .ref q2, .ref q3, .ref q4, .ref q5, .ref q6, .int (-1), .int (-1), .int 0, .int 0, .int 0])), (q1, .inl (cyI, 320, .inl (fun _ => 0))), (q2, .inl (cyI, 5, .inl (fa (fun _ => 0) (-1) 5))), (q3, .inl (cyI, 320, .inl (fun _ => 0))), (q4, .inl (cyI, 5, .inl (fa (fun _ => 0) (-1) 5))), (q5, .inl (cyI, 1600, .inl (fun _ => 0))), (q6, .inl (cyZ, 40, .inl (fun _ => 0)))]) := hD
  refine W.widen (k := 6) (n := 2290) (by decide) (by decide) ?_
  exact W.vret hx hb hr (fun t ht hW => ⟨⟨(q1, q2, q3, q4, q5, q6), rfl, trivial, by show va_P (dC, dI) vwCl (wX cyI cyZ q0 q1 q2 q3 q4 q5 q6 (fun _ => 0) (fa (fun _ => 0) (-1) 5) (fun _ => 0) (fa (fun _ => 0) (-1) 5) (fun _ => 0) (fun _ => 0) (-1) (-1) 0 0 0) t.heap ∧ va_D A (wX cyI cyZ q0 q1 q2 q3 q4 q5 q6 (fun _ => 0) (fa (fun _ => 0) (-1) 5) (fun _ => 0) (fa (fun _ => 0) (-1) 5) (fun _ => 0) (fun _ => 0) (-1) (-1) 0 0 0); exact ⟨by rw [ht]; exact hP, hD⟩⟩, hS.F ht⟩) hS.2.2 dX0_init_94
set_option maxHeartbeats 4000000 in
set_option maxRecDepth 100000 in
theorem k_X1_init (l : Launch) (dC : Nat → ClassId) (dI : Nat → Nat → Nat) (cyI cyZ : ClassId) (H0 : Heap) (p0 : Nat) (hP : va_P (dC, dI) vwCl [(p0, .inr (1, [.int 0, .null, .null, .int 0, .int 0, .int 0, .null, .null, .int 0, .int 0, .int 0]))] H0) (hD0 : va_D (fun _ => True) [(p0, .inr (1, [.int 0, .null, .null, .int 0, .int 0, .int 0, .null, .null, .int 0, .int 0, .int 0]))]) : Met l yX1_init wsX1_init ({ frames := 1, cells := 4, slots := 2290, locals := 20 }) (va_Pc [.ref p0] (pK dC dI (tyW cyI cyZ) H0)) (va_Qv (fun _ : Nat × Nat × Nat × Nat => True) (fun (u : Nat × Nat × Nat × Nat) (t : State) => match u with | (p1, p2, p3, p4) => va_P (dC, dI) vwCl (wM cyI cyZ p0 p1 p2 p3 p4 (fa (fun _ => 0) (-1) 10) (fun _ => 0) (fun _ => 0) (fun _ => 0) 0 0 0 0 0 0 0) t.heap ∧ va_D (va_A ([(p0, .inr (1, [.int 0, .null, .null, .int 0, .int 0, .int 0, .null, .null, .int 0, .int 0, .int 0]))]) H0.size) (wM cyI cyZ p0 p1 p2 p3 p4 (fa (fun _ => 0) (-1) 10) (fun _ => 0) (fun _ => 0) (fun _ => 0) 0 0 0 0 0 0 0)) (va_A ([(p0, .inr (1, [.int 0, .null, .null, .int 0, .int 0, .int 0, .null, .null, .int 0, .int 0, .int 0]))]) H0.size)) 4 2290 (va_A ([(p0, .inr (1, [.int 0, .null, .null, .int 0, .int 0, .int 0, .null, .null, .int 0, .int 0, .int 0]))]) H0.size) := by
  refine Met.ofW (cc := cX1_init) (maxL := 2) (ret := none) (by decide) rfl ?_
  intro p e s m args below meth c s₁ B hml hv
  obtain ⟨rfl, rfl, hK⟩ := hv
  have hx := B.exec
  have hb := B.bytes
  have hr := B.returns
  have hts := atoms_spec (ws := wsX1_init) B.pre
  have hown : s.vm.findClass RX1 = some m.cls := findClass_of_methodNamed B.named
  have hin : meth.name = "<init>" := (name_of_methodNamed B.named B.method).1
  have hD := hD0.self (sz := s.heap.size)
  generalize hAe : (va_A ([(p0, .inr (1, [.int 0, .null, .null, .int 0, .int 0, .int 0, .null, .null, .int 0, .int 0, .int 0]))]) s.heap.size) = A at hD ⊢
  have hA : ∀ q : Nat, s.heap.size ≤ q → A q := fun q h => by rw [← hAe]; exact Or.inr h
  have hS : va_S A s.heap s.heap [] := va_S.rf
  have hl := lv_entry ([.ref p0]) (n := 2) (Nat.le_of_ble_eq_true rfl)
  rw [lg_entry_eq]
  generalize (lg_sl ([.ref p0]) ++ List.replicate (2 - (lg_sl ([.ref p0])).length) Slot.unset).toArray = ls at hl ⊢
  have hl : lv_has ls 2 [(0, .ref p0)] := hl
  have iw : ∀ w ∈ wsX10, w ∈ wsX1_init := by decide +kernel
  refine lv_aload_n hx hb dX1_init_0 rfl (lv_at hl 0 rfl) ?_
  refine W.objInit hx hb hown (hts (.methodLink RX1 1 Lib.objectInit) (by decide +kernel)) (hts (.instanceMethod Lib.objectInit) (by decide +kernel)) (hts (.code Lib.objectInit ⟨#[0xb1]⟩ 1 none) (by decide +kernel)) rfl (by rw [hml]; exact hl.1) rfl dX1_init_1 (Nat.le_of_ble_eq_true rfl) (Nat.le_of_ble_eq_true rfl) ?_
  show W _ _ _ _ _ _ _ _ _ _ _ _ _ _ _ (F0 m 4 ls [])
  refine lv_aload_n hx hb dX1_init_4 rfl (lv_at hl 0 rfl) ?_
  refine lv_bipush (v := 10) hx hb dX1_init_5 (by decide) ?_
  refine va_newa (D := (dC, dI)) (a0 := (10, .inl (fun _ => 0))) (N' := 10) (ty := .int) (atype := .int) hx hb (hts (.arrayClass .int) (by decide +kernel)) rfl hK hP hD hS hA (fun _ => rfl) (by decide) (by decide) (by decide) (Nat.le_of_ble_eq_true rfl) (Nat.le_of_ble_eq_true rfl) dX1_init_7 (fun p1 cA H hK1 hP hD hS => ?_)
  obtain rfl : cyI = cA := Option.some.inj ((show s.vm.findClass ("[" ++ FieldType.int.toString) = some cyI from (hK1.2 0 _ rfl).2).symm.trans (hK1.2 2 _ rfl).2)
  clear hK1
  have hP : va_P (dC, dI) vwCl ([(p0, .inr (1, [.int 0, .null, .null, .int 0, .int 0, .int 0, .null, .null, .int 0, .int 0, .int 0])), (p1, .inl (cyI, 10, .inl (fun _ => 0)))]) H := hP
  have hD : va_D A ([(p0, .inr (1, [.int 0, .null, .null, .int 0, .int 0, .int 0, .null, .null, .int 0, .int 0, .int 0])), (p1, .inl (cyI, 10, .inl (fun _ => 0)))]) := hD
  refine va_putF (D := (dC, dI)) (ci := 1) (v := .ref p1) (ty := tyX1 1) (C := RX1) (T := TX1) (N := 11) hx hb hts iw tyX1 tyX1_ok nmX1 hown hK hP hD hS 0 rfl rfl 1 (by decide) (hts (.fieldLink RX1 7 "ReelLoomModel" "many" "[I") (by decide +kernel)) (fun _ h9 => h9) rfl hin rfl (tyX1_ok 1 (by decide)) rfl rfl (Nat.le_of_ble_eq_true rfl) dX1_init_9 (fun H locs hP hD hS => ?_)
  have hP : va_P (dC, dI) vwCl ([(p0, .inr (1, [.int 0, .ref p1, .null, .int 0, .int 0, .int 0, .null, .null, .int 0, .int 0, .int 0])), (p1, .inl (cyI, 10, .inl (fun _ => 0)))]) H := hP
  have hD : va_D A ([(p0, .inr (1, [.int 0, .ref p1, .null, .int 0, .int 0, .int 0, .null, .null, .int 0, .int 0, .int 0])), (p1, .inl (cyI, 10, .inl (fun _ => 0)))]) := hD
  refine lv_aload_n hx hb dX1_init_12 rfl (lv_at hl 0 rfl) ?_
  refine lv_sipush (v := 640) hx hb dX1_init_13 (by decide) ?_
  refine va_newa (D := (dC, dI)) (a0 := (640, .inl (fun _ => 0))) (N' := 640) (ty := .int) (atype := .int) hx hb (hts (.arrayClass .int) (by decide +kernel)) rfl hK hP hD hS hA (fun _ => rfl) (by decide) (by decide) (by decide) (Nat.le_of_ble_eq_true rfl) (Nat.le_of_ble_eq_true rfl) dX1_init_16 (fun p2 cA H hK1 hP hD hS => ?_)
  obtain rfl : cyI = cA := Option.some.inj ((show s.vm.findClass ("[" ++ FieldType.int.toString) = some cyI from (hK1.2 0 _ rfl).2).symm.trans (hK1.2 2 _ rfl).2)
  clear hK1
  have hP : va_P (dC, dI) vwCl ([(p0, .inr (1, [.int 0, .ref p1, .null, .int 0, .int 0, .int 0, .null, .null, .int 0, .int 0, .int 0])), (p1, .inl (cyI, 10, .inl (fun _ => 0))), (p2, .inl (cyI, 640, .inl (fun _ => 0)))]) H := hP
  have hD : va_D A ([(p0, .inr (1, [.int 0, .ref p1, .null, .int 0, .int 0, .int 0, .null, .null, .int 0, .int 0, .int 0])), (p1, .inl (cyI, 10, .inl (fun _ => 0))), (p2, .inl (cyI, 640, .inl (fun _ => 0)))]) := hD
  refine va_putF (D := (dC, dI)) (ci := 1) (v := .ref p2) (ty := tyX1 2) (C := RX1) (T := TX1) (N := 11) hx hb hts iw tyX1 tyX1_ok nmX1 hown hK hP hD hS 0 rfl rfl 2 (by decide) (hts (.fieldLink RX1 13 "ReelLoomModel" "cells" "[I") (by decide +kernel)) (fun _ h9 => h9) rfl hin rfl (tyX1_ok 2 (by decide)) rfl rfl (Nat.le_of_ble_eq_true rfl) dX1_init_18 (fun H locs hP hD hS => ?_)
  have hP : va_P (dC, dI) vwCl ([(p0, .inr (1, [.int 0, .ref p1, .ref p2, .int 0, .int 0, .int 0, .null, .null, .int 0, .int 0, .int 0])), (p1, .inl (cyI, 10, .inl (fun _ => 0))), (p2, .inl (cyI, 640, .inl (fun _ => 0)))]) H := hP
  have hD : va_D A ([(p0, .inr (1, [.int 0, .ref p1, .ref p2, .int 0, .int 0, .int 0, .null, .null, .int 0, .int 0, .int 0])), (p1, .inl (cyI, 10, .inl (fun _ => 0))), (p2, .inl (cyI, 640, .inl (fun _ => 0)))]) := hD
  refine lv_aload_n hx hb dX1_init_21 rfl (lv_at hl 0 rfl) ?_
  refine lv_sipush (v := 1600) hx hb dX1_init_22 (by decide) ?_
  refine va_newa (D := (dC, dI)) (a0 := (1600, .inl (fun _ => 0))) (N' := 1600) (ty := .int) (atype := .int) hx hb (hts (.arrayClass .int) (by decide +kernel)) rfl hK hP hD hS hA (fun _ => rfl) (by decide) (by decide) (by decide) (Nat.le_of_ble_eq_true rfl) (Nat.le_of_ble_eq_true rfl) dX1_init_25 (fun p3 cA H hK1 hP hD hS => ?_)
  obtain rfl : cyI = cA := Option.some.inj ((show s.vm.findClass ("[" ++ FieldType.int.toString) = some cyI from (hK1.2 0 _ rfl).2).symm.trans (hK1.2 2 _ rfl).2)
  clear hK1
  have hP : va_P (dC, dI) vwCl ([(p0, .inr (1, [.int 0, .ref p1, .ref p2, .int 0, .int 0, .int 0, .null, .null, .int 0, .int 0, .int 0])), (p1, .inl (cyI, 10, .inl (fun _ => 0))), (p2, .inl (cyI, 640, .inl (fun _ => 0))), (p3, .inl (cyI, 1600, .inl (fun _ => 0)))]) H := hP
  have hD : va_D A ([(p0, .inr (1, [.int 0, .ref p1, .ref p2, .int 0, .int 0, .int 0, .null, .null, .int 0, .int 0, .int 0])), (p1, .inl (cyI, 10, .inl (fun _ => 0))), (p2, .inl (cyI, 640, .inl (fun _ => 0))), (p3, .inl (cyI, 1600, .inl (fun _ => 0)))]) := hD
  refine va_putF (D := (dC, dI)) (ci := 1) (v := .ref p3) (ty := tyX1 6) (C := RX1) (T := TX1) (N := 11) hx hb hts iw tyX1 tyX1_ok nmX1 hown hK hP hD hS 0 rfl rfl 6 (by decide) (hts (.fieldLink RX1 16 "ReelLoomModel" "cloth" "[I") (by decide +kernel)) (fun _ h9 => h9) rfl hin rfl (tyX1_ok 6 (by decide)) rfl rfl (Nat.le_of_ble_eq_true rfl) dX1_init_27 (fun H locs hP hD hS => ?_)
  have hP : va_P (dC, dI) vwCl ([(p0, .inr (1, [.int 0, .ref p1, .ref p2, .int 0, .int 0, .int 0, .ref p3, .null, .int 0, .int 0, .int 0])), (p1, .inl (cyI, 10, .inl (fun _ => 0))), (p2, .inl (cyI, 640, .inl (fun _ => 0))), (p3, .inl (cyI, 1600, .inl (fun _ => 0)))]) H := hP
  have hD : va_D A ([(p0, .inr (1, [.int 0, .ref p1, .ref p2, .int 0, .int 0, .int 0, .ref p3, .null, .int 0, .int 0, .int 0])), (p1, .inl (cyI, 10, .inl (fun _ => 0))), (p2, .inl (cyI, 640, .inl (fun _ => 0))), (p3, .inl (cyI, 1600, .inl (fun _ => 0)))]) := hD
  refine lv_aload_n hx hb dX1_init_30 rfl (lv_at hl 0 rfl) ?_
  refine lv_bipush (v := 40) hx hb dX1_init_31 (by decide) ?_
  refine va_newa (D := (dC, dI)) (a0 := (40, .inl (fun _ => 0))) (N' := 40) (ty := .boolean) (atype := .boolean) hx hb (hts (.arrayClass .boolean) (by decide +kernel)) rfl hK hP hD hS hA (fun _ => rfl) (by decide) (by decide) (by decide) (Nat.le_of_ble_eq_true rfl) (Nat.le_of_ble_eq_true rfl) dX1_init_33 (fun p4 cA H hK1 hP hD hS => ?_)
  obtain rfl : cyZ = cA := Option.some.inj ((show s.vm.findClass ("[" ++ FieldType.boolean.toString) = some cyZ from (hK1.2 1 _ rfl).2).symm.trans (hK1.2 2 _ rfl).2)
  clear hK1
  have hP : va_P (dC, dI) vwCl ([(p0, .inr (1, [.int 0, .ref p1, .ref p2, .int 0, .int 0, .int 0, .ref p3, .null, .int 0, .int 0, .int 0])), (p1, .inl (cyI, 10, .inl (fun _ => 0))), (p2, .inl (cyI, 640, .inl (fun _ => 0))), (p3, .inl (cyI, 1600, .inl (fun _ => 0))), (p4, .inl (cyZ, 40, .inl (fun _ => 0)))]) H := hP
  have hD : va_D A ([(p0, .inr (1, [.int 0, .ref p1, .ref p2, .int 0, .int 0, .int 0, .ref p3, .null, .int 0, .int 0, .int 0])), (p1, .inl (cyI, 10, .inl (fun _ => 0))), (p2, .inl (cyI, 640, .inl (fun _ => 0))), (p3, .inl (cyI, 1600, .inl (fun _ => 0))), (p4, .inl (cyZ, 40, .inl (fun _ => 0)))]) := hD
  refine va_putF (D := (dC, dI)) (ci := 1) (v := .ref p4) (ty := tyX1 7) (C := RX1) (T := TX1) (N := 11) hx hb hts iw tyX1 tyX1_ok nmX1 hown hK hP hD hS 0 rfl rfl 7 (by decide) (hts (.fieldLink RX1 19 "ReelLoomModel" "isCut" "[Z") (by decide +kernel)) (fun _ h9 => h9) rfl hin rfl (tyX1_ok 7 (by decide)) rfl rfl (Nat.le_of_ble_eq_true rfl) dX1_init_35 (fun H locs hP hD hS => ?_)
  have hP : va_P (dC, dI) vwCl ([(p0, .inr (1, [.int 0, .ref p1, .ref p2, .int 0, .int 0, .int 0, .ref p3, .ref p4, .int 0, .int 0, .int 0])), (p1, .inl (cyI, 10, .inl (fun _ => 0))), (p2, .inl (cyI, 640, .inl (fun _ => 0))), (p3, .inl (cyI, 1600, .inl (fun _ => 0))), (p4, .inl (cyZ, 40, .inl (fun _ => 0)))]) H := hP
  have hD : va_D A ([(p0, .inr (1, [.int 0, .ref p1, .ref p2, .int 0, .int 0, .int 0, .ref p3, .ref p4, .int 0, .int 0, .int 0])), (p1, .inl (cyI, 10, .inl (fun _ => 0))), (p2, .inl (cyI, 640, .inl (fun _ => 0))), (p3, .inl (cyI, 1600, .inl (fun _ => 0))), (p4, .inl (cyZ, 40, .inl (fun _ => 0)))]) := hD
  refine lv_iconst (v := nI 0) hx hb dX1_init_38 (by decide) ?_
  refine lv_istore_n (lv' := [(1, .int (nI 0)), (0, .ref p0)]) hx hb dX1_init_39 rfl hl (by decide) rfl (fun ls hl => ?_)
  refine lpW (N := 10) (I := fun i H locs ls => va_P (dC, dI) vwCl ([(p0, .inr (1, [.int 0, .ref p1, .ref p2, .int 0, .int 0, .int 0, .ref p3, .ref p4, .int 0, .int 0, .int 0])), (p1, .inl (cyI, 10, .inl (fa (fun _ => 0) (-1) i))), (p2, .inl (cyI, 640, .inl (fun _ => 0))), (p3, .inl (cyI, 1600, .inl (fun _ => 0))), (p4, .inl (cyZ, 40, .inl (fun _ => 0)))]) H ∧ va_D A ([(p0, .inr (1, [.int 0, .ref p1, .ref p2, .int 0, .int 0, .int 0, .ref p3, .ref p4, .int 0, .int 0, .int 0])), (p1, .inl (cyI, 10, .inl (fa (fun _ => 0) (-1) i))), (p2, .inl (cyI, 640, .inl (fun _ => 0))), (p3, .inl (cyI, 1600, .inl (fun _ => 0))), (p4, .inl (cyZ, 40, .inl (fun _ => 0)))]) ∧ va_S A s.heap H locs ∧ lv_has ls 2 [(1, .int (nI i)), (0, .ref p0)]) (fun i hi H locs ls hI ih => ?_) (fun H locs ls hI => ?_) 0 (Nat.zero_le _) ⟨hP, hD, hS, lv_sub hl [0, 1] rfl⟩
  · skip
    obtain ⟨hP, hD, hS, hl⟩ := hI
    refine lv_iload_n hx hb dX1_init_40 rfl (lv_at hl 0 rfl) ?_
    refine lv_bipush (v := nI 10) hx hb dX1_init_41 (by decide) ?_
    refine lv_icmp_ge (tgt := 59) hx hb dX1_init_43 (by decide) (fun c_1 => ?_) (fun c_1 => ?_)
    · skip
      exact absurd c_1 (nI_ge (by omega) (by omega))
    · skip
      refine lv_aload_n hx hb dX1_init_46 rfl (lv_at hl 1 rfl) ?_
      refine va_get (D := (dC, dI)) (ci := 1) (v := .ref p1) (C := RX1) (T := TX1) (N := 11) hx hb hts iw hown hK hP 0 rfl rfl 1 (by decide) (hts (.fieldLink RX1 7 "ReelLoomModel" "many" "[I") (by decide +kernel)) (fun _ h9 => h9) rfl dX1_init_47 ?_
      refine lv_iload_n hx hb dX1_init_50 rfl (lv_at hl 0 rfl) ?_
      refine lv_iconst (v := -1) hx hb dX1_init_51 (by decide) ?_
      refine va_iast hx hb hK hP hD hS 1 0 rfl rfl (vp_in_nI (by omega) (by omega)) dX1_init_52 (fun H locs hP hD hS => ?_)
      rw [nI_clamp (show i < 2 ^ 31 by omega)] at hP hD
      have hP : va_P (dC, dI) vwCl ([(p0, .inr (1, [.int 0, .ref p1, .ref p2, .int 0, .int 0, .int 0, .ref p3, .ref p4, .int 0, .int 0, .int 0])), (p1, .inl (cyI, 10, .inl (fa (fun _ => 0) (-1) (i + 1)))), (p2, .inl (cyI, 640, .inl (fun _ => 0))), (p3, .inl (cyI, 1600, .inl (fun _ => 0))), (p4, .inl (cyZ, 40, .inl (fun _ => 0)))]) H := hP
      have hD : va_D A ([(p0, .inr (1, [.int 0, .ref p1, .ref p2, .int 0, .int 0, .int 0, .ref p3, .ref p4, .int 0, .int 0, .int 0])), (p1, .inl (cyI, 10, .inl (fa (fun _ => 0) (-1) (i + 1)))), (p2, .inl (cyI, 640, .inl (fun _ => 0))), (p3, .inl (cyI, 1600, .inl (fun _ => 0))), (p4, .inl (cyZ, 40, .inl (fun _ => 0)))]) := hD
      refine lv_iinc (v := nI (i + 1)) (lv' := [(1, .int (nI (i + 1))), (0, .ref p0)]) hx hb dX1_init_53 hl (k := 0) rfl (nI_1 _) (by decide) rfl (fun ls hl => ?_)
      refine lv_goto (tgt := 40) hx hb dX1_init_56 (by decide) ?_
      exact ih _ _ _ ⟨hP, hD, hS, lv_sub hl [0, 1] rfl⟩
  · skip
    obtain ⟨hP, hD, hS, hl⟩ := hI
    refine lv_iload_n hx hb dX1_init_40 rfl (lv_at hl 0 rfl) ?_
    refine lv_bipush (v := nI 10) hx hb dX1_init_41 (by decide) ?_
    refine lv_icmp_ge (tgt := 59) hx hb dX1_init_43 (by decide) (fun c_2 => ?_) (fun c_2 => ?_)
    · skip
      refine W.widen (k := 4) (n := 2290) (by decide) (by decide) ?_
      exact W.vret hx hb hr (fun t ht hW => ⟨⟨(p1, p2, p3, p4), rfl, trivial, by show va_P (dC, dI) vwCl (wM cyI cyZ p0 p1 p2 p3 p4 (fa (fun _ => 0) (-1) 10) (fun _ => 0) (fun _ => 0) (fun _ => 0) 0 0 0 0 0 0 0) t.heap ∧ va_D A (wM cyI cyZ p0 p1 p2 p3 p4 (fa (fun _ => 0) (-1) 10) (fun _ => 0) (fun _ => 0) (fun _ => 0) 0 0 0 0 0 0 0); exact ⟨by rw [ht]; exact hP, hD⟩⟩, hS.F ht⟩) hS.2.2 dX1_init_59
    · skip
      exact absurd (nI_le (Nat.le_refl _) (by omega)) c_2
