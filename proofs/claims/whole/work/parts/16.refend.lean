set_option maxHeartbeats 4000000 in
set_option maxRecDepth 100000 in
theorem k_X1_pass (l : Launch) (dC : Nat → ClassId) (dI : Nat → Nat → Nat) (cyI cyZ : ClassId) (H0 : Heap) (p0 p1 p2 p3 p4 : Nat) (mn me ml mt : Nat → Int32) (th wo mr mo mk mz mq : Int32) (hP : va_P (dC, dI) vwCl (wM cyI cyZ p0 p1 p2 p3 p4 mn me ml mt th wo mr mo mk mz mq) H0) (hD0 : va_D (fun _ => True) (wM cyI cyZ p0 p1 p2 p3 p4 mn me ml mt th wo mr mo mk mz mq)) (x : Int32) (y : Int32) (hmr : mr ≤ nI 40) (hmo : mo ≤ nI 40) : Met l yX1_pass wsX1_pass ({ frames := 4, cells := 0, slots := 0, locals := 94 }) (va_Pc [.ref p0, .int x, .int y] (pK dC dI (tyW cyI cyZ) H0)) (va_Qi (fun (r : Int32) (u : Int32 × (Nat → Int32) × (Nat → Int32) × Int32 × Int32 × Int32) => match u with | (th2, me2, ml2, mk2, mz2, mq2) => (¬ (¬ y < 0 ∧ y ≤ 65535) ∧ th2 = 1 ∧ me2 = me ∧ ml2 = ml ∧ mk2 = mk ∧ mz2 = mz ∧ mq2 = mq) ∨ ((¬ y < 0 ∧ y ≤ 65535) ∧ wo = 0 ∧ th2 = 2 ∧ me2 = me ∧ ml2 = ml ∧ mk2 = mk ∧ mz2 = mz ∧ mq2 = mq) ∨ ((¬ y < 0 ∧ y ≤ 65535) ∧ ¬ wo = 0 ∧ ¬ (¬ x < 0 ∧ x < mr) ∧ th2 = 3 ∧ me2 = me ∧ ml2 = ml ∧ mk2 = mk ∧ mz2 = mz ∧ mq2 = mq) ∨ ((¬ y < 0 ∧ y ≤ 65535) ∧ ¬ wo = 0 ∧ th2 = 0 ∧ ∃ ro jj : Nat, ro < 40 ∧ x = nI ro ∧ nI ro < mr ∧ mrun mn mt ro y mo.toNatClampNeg 0 me ml 0 0 mo = (jj, me2, ml2, mk2, mz2, mq2) ∧ r = nI jj)) (fun (u : Int32 × (Nat → Int32) × (Nat → Int32) × Int32 × Int32 × Int32) (t : State) => match u with | (th2, me2, ml2, mk2, mz2, mq2) => va_P (dC, dI) vwCl (wM cyI cyZ p0 p1 p2 p3 p4 mn me2 ml2 mt th2 wo mr mo mk2 mz2 mq2) t.heap) (va_A (wM cyI cyZ p0 p1 p2 p3 p4 mn me ml mt th wo mr mo mk mz mq) H0.size)) 0 0 (va_A (wM cyI cyZ p0 p1 p2 p3 p4 mn me ml mt th wo mr mo mk mz mq) H0.size) := by
  refine Met.ofW (cc := cX1_pass) (maxL := 4) (ret := (some .int)) (by decide) rfl ?_
  intro p e s m args below meth c s₁ B hml hv
  obtain ⟨rfl, rfl, hK⟩ := hv
  have hx := B.exec
  have hb := B.bytes
  have hr := B.returns
  have hts := atoms_spec (ws := wsX1_pass) B.pre
  have hown : s.vm.findClass RX1 = some m.cls := findClass_of_methodNamed B.named
  have hlocks := B.notSynchronized
  have hD := hD0.self (sz := s.heap.size)
  generalize hAe : (va_A (wM cyI cyZ p0 p1 p2 p3 p4 mn me ml mt th wo mr mo mk mz mq) s.heap.size) = A at hD ⊢
  have hA : ∀ q : Nat, s.heap.size ≤ q → A q := fun q h => by rw [← hAe]; exact Or.inr h
  have hS : va_S A s.heap s.heap [] := va_S.rf
  have hl := lv_entry ([.ref p0, .int x, .int y]) (n := 4) (Nat.le_of_ble_eq_true rfl)
  rw [lg_entry_eq]
  generalize (lg_sl ([.ref p0, .int x, .int y]) ++ List.replicate (4 - (lg_sl ([.ref p0, .int x, .int y])).length) Slot.unset).toArray = ls at hl ⊢
  have hl : lv_has ls 4 [(0, .ref p0), (1, .int x), (2, .int y)] := hl
  have iw : ∀ w ∈ wsX10, w ∈ wsX1_pass := by decide +kernel
  refine lv_aload_n hx hb dX1_pass_0 rfl (lv_at hl 0 rfl) ?_
  refine lv_iload_n hx hb dX1_pass_1 rfl (lv_at hl 2 rfl) ?_
  refine lv_if_lt (tgt := 11) hx hb dX1_pass_2 (by decide) (fun h2 => ?_) (fun h2 => ?_)
  · skip
    refine lv_iconst (v := 1) hx hb dX1_pass_11 (by decide) ?_
    refine lv_goto (tgt := 39) hx hb dX1_pass_12 (by decide) ?_
    refine va_put (D := (dC, dI)) (ci := 1) (v := .int 1) (ty := .int) (C := RX1) (T := TX1) (N := 11) hx hb hts iw tyX1 tyX1_ok nmX1 hown hK hP hD hS 0 rfl rfl 0 (by decide) (hts (.fieldLink RX1 23 "ReelLoomModel" "thrown" "I") (by decide +kernel)) (fun _ h9 => h9) rfl (by decide +kernel) rfl rfl (Nat.le_of_ble_eq_true rfl) dX1_pass_39 (fun H locs hP hD hS => ?_)
    have hP : va_P (dC, dI) vwCl (wM cyI cyZ p0 p1 p2 p3 p4 mn me ml mt 1 wo mr mo mk mz mq) H := hP
    have hD : va_D A (wM cyI cyZ p0 p1 p2 p3 p4 mn me ml mt 1 wo mr mo mk mz mq) := hD
    refine lv_aload_n hx hb dX1_pass_42 rfl (lv_at hl 0 rfl) ?_
    refine va_get (D := (dC, dI)) (ci := 1) (v := .int 1) (C := RX1) (T := TX1) (N := 11) hx hb hts iw hown hK hP 0 rfl rfl 0 (by decide) (hts (.fieldLink RX1 23 "ReelLoomModel" "thrown" "I") (by decide +kernel)) (fun _ h9 => h9) rfl dX1_pass_43 ?_
    refine lv_if_eq (tgt := 51) hx hb dX1_pass_46 (by decide) (fun c_2 => ?_) (fun c_2 => ?_)
    · skip
      exact absurd c_2 (by decide)
    · skip
      refine lv_iconst (v := 0) hx hb dX1_pass_49 (by decide) ?_
      exact W.iret (v := 0) hx hb hr (fun t ht hW => ⟨⟨0, (1, me, ml, mk, mz, mq), rfl, Or.inl ⟨fun h => by first | exact h.1 h2 | exact h8 h.2, rfl, rfl, rfl, rfl, rfl, rfl⟩, by show va_P (dC, dI) vwCl (wM cyI cyZ p0 p1 p2 p3 p4 mn me ml mt 1 wo mr mo mk mz mq) t.heap; rw [ht]; exact hP⟩, hS.F ht⟩) hS.2.2 dX1_pass_50
  · skip
    refine lv_iload_n hx hb dX1_pass_5 rfl (lv_at hl 2 rfl) ?_
    refine lv_ldc (v := 65535) hx hb hown (hts (.constant RX1 27 (65535)) (by decide +kernel)) dX1_pass_6 ?_
    refine lv_icmp_le (tgt := 15) hx hb dX1_pass_8 (by decide) (fun h8 => ?_) (fun h8 => ?_)
    · skip
      refine lv_aload_n hx hb dX1_pass_15 rfl (lv_at hl 0 rfl) ?_
      refine va_get (D := (dC, dI)) (ci := 1) (v := .int wo) (C := RX1) (T := TX1) (N := 11) hx hb hts iw hown hK hP 0 rfl rfl 3 (by decide) (hts (.fieldLink RX1 73 "ReelLoomModel" "isWoven" "Z") (by decide +kernel)) (fun _ h9 => h9) rfl dX1_pass_16 ?_
      refine lv_if_ne (tgt := 26) hx hb dX1_pass_19 (by decide) (fun h19 => ?_) (fun h19 => ?_)
      · skip
        refine lv_aload_n hx hb dX1_pass_26 rfl (lv_at hl 0 rfl) ?_
        refine lv_iload_n hx hb dX1_pass_27 rfl (lv_at hl 1 rfl) ?_
        refine gx_calli (va_runV (As := [.int x]) (rest := [.ref p0]) ⟨hx, hb, hml, hown, hts⟩ (k_X1_isRow l dC dI cyI cyZ _ p0 p1 p2 p3 p4 mn me ml mt th wo mr mo mk mz mq hP (hD.weaken (fun _ _ _ _ => trivial)) x ) (cwV 1 hts gX1_pass_X1_isRow rfl rfl rfl (by decide +kernel) ⟨Nat.le_of_ble_eq_true rfl, Nat.le_of_ble_eq_true rfl⟩) (pK_V hK (va_recv hK hP (ci := 1) (q0 := 0) rfl rfl)) rfl rfl hl.1 rfl (lv_room (Nat.le_of_ble_eq_true rfl)) dX1_pass_28 ⟨Nat.le_of_ble_eq_true rfl, Nat.le_of_ble_eq_true rfl⟩) (fun r28 hr28 => ?_)
        refine lv_if_ne (tgt := 38) hx hb dX1_pass_31 (by decide) (fun h31 => ?_) (fun h31 => ?_)
        · skip
          have hrow := (hr28.resolve_right (fun a => h31 a.1)).2
          obtain ⟨ro, hro, rfl⟩ := in_of (n := 40) (by decide) hrow.1 (i_lt hrow.2 hmr)
          refine lv_iconst (v := 0) hx hb dX1_pass_38 (by decide) ?_
          refine va_put (D := (dC, dI)) (ci := 1) (v := .int 0) (ty := .int) (C := RX1) (T := TX1) (N := 11) hx hb hts iw tyX1 tyX1_ok nmX1 hown hK hP hD hS 0 rfl rfl 0 (by decide) (hts (.fieldLink RX1 23 "ReelLoomModel" "thrown" "I") (by decide +kernel)) (fun _ h9 => h9) rfl (by decide +kernel) rfl rfl (Nat.le_of_ble_eq_true rfl) dX1_pass_39 (fun H locs hP hD hS => ?_)
          have hP : va_P (dC, dI) vwCl (wM cyI cyZ p0 p1 p2 p3 p4 mn me ml mt 0 wo mr mo mk mz mq) H := hP
          have hD : va_D A (wM cyI cyZ p0 p1 p2 p3 p4 mn me ml mt 0 wo mr mo mk mz mq) := hD
          refine lv_aload_n hx hb dX1_pass_42 rfl (lv_at hl 0 rfl) ?_
          refine va_get (D := (dC, dI)) (ci := 1) (v := .int 0) (C := RX1) (T := TX1) (N := 11) hx hb hts iw hown hK hP 0 rfl rfl 0 (by decide) (hts (.fieldLink RX1 23 "ReelLoomModel" "thrown" "I") (by decide +kernel)) (fun _ h9 => h9) rfl dX1_pass_43 ?_
          refine lv_if_eq (tgt := 51) hx hb dX1_pass_46 (by decide) (fun c_7 => ?_) (fun c_7 => ?_)
          · skip
            refine lv_aload_n hx hb dX1_pass_51 rfl (lv_at hl 0 rfl) ?_
            refine lv_iconst (v := 0) hx hb dX1_pass_52 (by decide) ?_
            refine va_put (D := (dC, dI)) (ci := 1) (v := .int 0) (ty := .int) (C := RX1) (T := TX1) (N := 11) hx hb hts iw tyX1 tyX1_ok nmX1 hown hK hP hD hS 0 rfl rfl 8 (by decide) (hts (.fieldLink RX1 77 "ReelLoomModel" "stopKind" "I") (by decide +kernel)) (fun _ h9 => h9) rfl (by decide +kernel) rfl rfl (Nat.le_of_ble_eq_true rfl) dX1_pass_53 (fun H locs hP hD hS => ?_)
            have hP : va_P (dC, dI) vwCl (wM cyI cyZ p0 p1 p2 p3 p4 mn me ml mt 0 wo mr mo 0 mz mq) H := hP
            have hD : va_D A (wM cyI cyZ p0 p1 p2 p3 p4 mn me ml mt 0 wo mr mo 0 mz mq) := hD
            refine lv_aload_n hx hb dX1_pass_56 rfl (lv_at hl 0 rfl) ?_
            refine lv_iconst (v := 0) hx hb dX1_pass_57 (by decide) ?_
            refine va_put (D := (dC, dI)) (ci := 1) (v := .int 0) (ty := .int) (C := RX1) (T := TX1) (N := 11) hx hb hts iw tyX1 tyX1_ok nmX1 hown hK hP hD hS 0 rfl rfl 9 (by decide) (hts (.fieldLink RX1 80 "ReelLoomModel" "stopSort" "I") (by decide +kernel)) (fun _ h9 => h9) rfl (by decide +kernel) rfl rfl (Nat.le_of_ble_eq_true rfl) dX1_pass_58 (fun H locs hP hD hS => ?_)
            have hP : va_P (dC, dI) vwCl (wM cyI cyZ p0 p1 p2 p3 p4 mn me ml mt 0 wo mr mo 0 0 mq) H := hP
            have hD : va_D A (wM cyI cyZ p0 p1 p2 p3 p4 mn me ml mt 0 wo mr mo 0 0 mq) := hD
            refine lv_aload_n hx hb dX1_pass_61 rfl (lv_at hl 0 rfl) ?_
            refine lv_aload_n hx hb dX1_pass_62 rfl (lv_at hl 0 rfl) ?_
            refine va_get (D := (dC, dI)) (ci := 1) (v := .int mo) (C := RX1) (T := TX1) (N := 11) hx hb hts iw hown hK hP 0 rfl rfl 5 (by decide) (hts (.fieldLink RX1 70 "ReelLoomModel" "columns" "I") (by decide +kernel)) (fun _ h9 => h9) rfl dX1_pass_63 ?_
            refine va_put (D := (dC, dI)) (ci := 1) (v := .int mo) (ty := .int) (C := RX1) (T := TX1) (N := 11) hx hb hts iw tyX1 tyX1_ok nmX1 hown hK hP hD hS 0 rfl rfl 10 (by decide) (hts (.fieldLink RX1 83 "ReelLoomModel" "stopColumn" "I") (by decide +kernel)) (fun _ h9 => h9) rfl (by decide +kernel) rfl rfl (Nat.le_of_ble_eq_true rfl) dX1_pass_66 (fun H locs hP hD hS => ?_)
            have hP : va_P (dC, dI) vwCl (wM cyI cyZ p0 p1 p2 p3 p4 mn me ml mt 0 wo mr mo 0 0 mo) H := hP
            have hD : va_D A (wM cyI cyZ p0 p1 p2 p3 p4 mn me ml mt 0 wo mr mo 0 0 mo) := hD
            refine lv_iconst (v := nI 0) hx hb dX1_pass_69 (by decide) ?_
            refine lv_istore_n (lv' := [(3, .int (nI 0)), (0, .ref p0), (1, .int (nI ro)), (2, .int y)]) hx hb dX1_pass_70 rfl hl (by decide) rfl (fun ls hl => ?_)
            refine lpW (N := mo.toNatClampNeg) (I := fun j H locs ls => ∃ ek : Nat → Int32, ∃ lk : Nat → Int32, ∃ kk : Int32, ∃ zk : Int32, ∃ qk : Int32, mrun mn mt ro y (mo.toNatClampNeg - j) j ek lk kk zk qk = mrun mn mt ro y mo.toNatClampNeg 0 me ml 0 0 mo ∧ va_P (dC, dI) vwCl (wM cyI cyZ p0 p1 p2 p3 p4 mn ek lk mt 0 wo mr mo kk zk qk) H ∧ va_D A (wM cyI cyZ p0 p1 p2 p3 p4 mn ek lk mt 0 wo mr mo kk zk qk) ∧ va_S A s.heap H locs ∧ lv_has ls 4 [(3, .int (nI j)), (0, .ref p0), (1, .int (nI ro)), (2, .int y)]) (fun j hi H locs ls hI ih => ?_) (fun H locs ls hI => ?_) 0 (Nat.zero_le _) ⟨me, ml, 0, 0, mo, rfl, hP, hD, hS, lv_sub hl [0, 1, 2, 3] rfl⟩
            · skip
              obtain ⟨ek, lk, kk, zk, qk, hinv, hP, hD, hS, hl⟩ := hI
              have hw9 := w_le (by decide) hmo
              refine lv_iload_n hx hb dX1_pass_71 rfl (lv_at hl 0 rfl) ?_
              refine lv_aload_n hx hb dX1_pass_72 rfl (lv_at hl 1 rfl) ?_
              refine va_get (D := (dC, dI)) (ci := 1) (v := .int mo) (C := RX1) (T := TX1) (N := 11) hx hb hts iw hown hK hP 0 rfl rfl 5 (by decide) (hts (.fieldLink RX1 70 "ReelLoomModel" "columns" "I") (by decide +kernel)) (fun _ h9 => h9) rfl dX1_pass_73 ?_
              refine lv_icmp_ge (tgt := 95) hx hb dX1_pass_76 (by decide) (fun h76 => ?_) (fun h76 => ?_)
              · skip
                exact absurd h76 (w_step hi)
              · skip
                refine lv_aload_n hx hb dX1_pass_79 rfl (lv_at hl 1 rfl) ?_
                refine lv_iload_n hx hb dX1_pass_80 rfl (lv_at hl 2 rfl) ?_
                refine lv_iload_n hx hb dX1_pass_81 rfl (lv_at hl 0 rfl) ?_
                refine lv_iload_n hx hb dX1_pass_82 rfl (lv_at hl 3 rfl) ?_
                have hFc := va_free (wc := wM cyI cyZ p0 p1 p2 p3 p4 mn ek lk mt 0 wo mr mo kk zk qk) hD hS hA [0, 1, 2, 3, 4] rfl
                refine va_calli (va_runV (As := [.int (nI ro), .int (nI j), .int y]) (rest := []) ⟨hx, hb, hml, hown, hts⟩ (k_X1_weaves l dC dI cyI cyZ _ p0 p1 p2 p3 p4 mn ek lk mt 0 wo mr mo kk zk qk hP (hD.weaken (fun _ _ _ _ => trivial)) ro j y (by omega) (by omega)) (cwV 3 hts gX1_pass_X1_weaves rfl rfl rfl (by decide +kernel) ⟨Nat.le_of_ble_eq_true rfl, Nat.le_of_ble_eq_true rfl⟩) (pK_V hK (va_recv hK hP (ci := 1) (q0 := 0) rfl rfl)) rfl rfl hl.1 rfl (lv_room (Nat.le_of_ble_eq_true rfl)) dX1_pass_83 ⟨Nat.le_of_ble_eq_true rfl, Nat.le_of_ble_eq_true rfl⟩) hS (fun q _ h => hFc q h) hFc (fun r83 u t H1 locs ht hvm hw hB hz1 hk1 hS => ?_)
                obtain ⟨e83, l83, k83, z83, q83⟩ := u
                dsimp only at hw
                have hP : va_P (dC, dI) vwCl (wM cyI cyZ p0 p1 p2 p3 p4 mn e83 l83 mt 0 wo mr mo k83 z83 q83) t.heap := hB
                rw [ht] at hP
                have hD : va_D A (wM cyI cyZ p0 p1 p2 p3 p4 mn e83 l83 mt 0 wo mr mo k83 z83 q83) := wM_D hD
                clear hB
                generalize H1 = H at hP hS ⊢
                refine lv_if_eq (tgt := 95) hx hb dX1_pass_86 (by decide) (fun h86 => ?_) (fun h86 => ?_)
                · skip
                  have hpc := (hw.resolve_right (fun a => absurd (a.1.symm.trans h86) (by decide))).2
                  rw [show mo.toNatClampNeg - j = (mo.toNatClampNeg - (j + 1)) + 1 by omega] at hinv
                  simp only [mrun, hpc] at hinv
                  refine lv_iload_n hx hb dX1_pass_95 rfl (lv_at hl 0 rfl) ?_
                  exact W.iret (v := (nI j)) hx hb hr (fun t ht hW => ⟨⟨(nI j), (0, e83, l83, k83, z83, q83), rfl, Or.inr (Or.inr (Or.inr ⟨⟨h2, h8⟩, h19, rfl, ro, j, hro, rfl, hrow.2, hinv.symm, rfl⟩)), by show va_P (dC, dI) vwCl (wM cyI cyZ p0 p1 p2 p3 p4 mn e83 l83 mt 0 wo mr mo k83 z83 q83) t.heap; rw [ht]; exact hP⟩, hS.F ht⟩) hS.2.2 dX1_pass_96
                · skip
                  have hpc := (hw.resolve_left (fun a => h86 a.1)).2
                  rw [show mo.toNatClampNeg - j = (mo.toNatClampNeg - (j + 1)) + 1 by omega] at hinv
                  simp only [mrun, hpc] at hinv
                  refine lv_iinc (v := nI (j + 1)) (lv' := [(3, .int (nI (j + 1))), (0, .ref p0), (1, .int (nI ro)), (2, .int y)]) hx hb dX1_pass_89 hl (k := 0) rfl (nI_1 _) (by decide) rfl (fun ls hl => ?_)
                  refine lv_goto (tgt := 71) hx hb dX1_pass_92 (by decide) ?_
                  exact ih _ _ _ ⟨e83, l83, k83, z83, q83, hinv, hP, hD, hS, lv_sub hl [0, 1, 2, 3] rfl⟩
            · skip
              obtain ⟨ek, lk, kk, zk, qk, hinv, hP, hD, hS, hl⟩ := hI
              rw [Nat.sub_self] at hinv
              refine lv_iload_n hx hb dX1_pass_71 rfl (lv_at hl 0 rfl) ?_
              refine lv_aload_n hx hb dX1_pass_72 rfl (lv_at hl 1 rfl) ?_
              refine va_get (D := (dC, dI)) (ci := 1) (v := .int mo) (C := RX1) (T := TX1) (N := 11) hx hb hts iw hown hK hP 0 rfl rfl 5 (by decide) (hts (.fieldLink RX1 70 "ReelLoomModel" "columns" "I") (by decide +kernel)) (fun _ h9 => h9) rfl dX1_pass_73 ?_
              refine lv_icmp_ge (tgt := 95) hx hb dX1_pass_76 (by decide) (fun h76 => ?_) (fun h76 => ?_)
              · skip
                refine lv_iload_n hx hb dX1_pass_95 rfl (lv_at hl 0 rfl) ?_
                exact W.iret (v := (nI mo.toNatClampNeg)) hx hb hr (fun t ht hW => ⟨⟨(nI mo.toNatClampNeg), (0, ek, lk, kk, zk, qk), rfl, Or.inr (Or.inr (Or.inr ⟨⟨h2, h8⟩, h19, rfl, ro, mo.toNatClampNeg, hro, rfl, hrow.2, hinv.symm, rfl⟩)), by show va_P (dC, dI) vwCl (wM cyI cyZ p0 p1 p2 p3 p4 mn ek lk mt 0 wo mr mo kk zk qk) t.heap; rw [ht]; exact hP⟩, hS.F ht⟩) hS.2.2 dX1_pass_96
              · skip
                exact absurd (w_last _) h76
          · skip
            exact absurd (by decide) c_7
        · skip
          have hrow := (hr28.resolve_left (fun a => absurd (a.1.symm.trans h31) (by decide))).2
          refine lv_iconst (v := 3) hx hb dX1_pass_34 (by decide) ?_
          refine lv_goto (tgt := 39) hx hb dX1_pass_35 (by decide) ?_
          refine va_put (D := (dC, dI)) (ci := 1) (v := .int 3) (ty := .int) (C := RX1) (T := TX1) (N := 11) hx hb hts iw tyX1 tyX1_ok nmX1 hown hK hP hD hS 0 rfl rfl 0 (by decide) (hts (.fieldLink RX1 23 "ReelLoomModel" "thrown" "I") (by decide +kernel)) (fun _ h9 => h9) rfl (by decide +kernel) rfl rfl (Nat.le_of_ble_eq_true rfl) dX1_pass_39 (fun H locs hP hD hS => ?_)
          have hP : va_P (dC, dI) vwCl (wM cyI cyZ p0 p1 p2 p3 p4 mn me ml mt 3 wo mr mo mk mz mq) H := hP
          have hD : va_D A (wM cyI cyZ p0 p1 p2 p3 p4 mn me ml mt 3 wo mr mo mk mz mq) := hD
          refine lv_aload_n hx hb dX1_pass_42 rfl (lv_at hl 0 rfl) ?_
          refine va_get (D := (dC, dI)) (ci := 1) (v := .int 3) (C := RX1) (T := TX1) (N := 11) hx hb hts iw hown hK hP 0 rfl rfl 0 (by decide) (hts (.fieldLink RX1 23 "ReelLoomModel" "thrown" "I") (by decide +kernel)) (fun _ h9 => h9) rfl dX1_pass_43 ?_
          refine lv_if_eq (tgt := 51) hx hb dX1_pass_46 (by decide) (fun c_12 => ?_) (fun c_12 => ?_)
          · skip
            exact absurd c_12 (by decide)
          · skip
            refine lv_iconst (v := 0) hx hb dX1_pass_49 (by decide) ?_
            exact W.iret (v := 0) hx hb hr (fun t ht hW => ⟨⟨0, (3, me, ml, mk, mz, mq), rfl, Or.inr (Or.inr (Or.inl ⟨⟨h2, h8⟩, h19, hrow, rfl, rfl, rfl, rfl, rfl, rfl⟩)), by show va_P (dC, dI) vwCl (wM cyI cyZ p0 p1 p2 p3 p4 mn me ml mt 3 wo mr mo mk mz mq) t.heap; rw [ht]; exact hP⟩, hS.F ht⟩) hS.2.2 dX1_pass_50
      · skip
        refine lv_iconst (v := 2) hx hb dX1_pass_22 (by decide) ?_
        refine lv_goto (tgt := 39) hx hb dX1_pass_23 (by decide) ?_
        refine va_put (D := (dC, dI)) (ci := 1) (v := .int 2) (ty := .int) (C := RX1) (T := TX1) (N := 11) hx hb hts iw tyX1 tyX1_ok nmX1 hown hK hP hD hS 0 rfl rfl 0 (by decide) (hts (.fieldLink RX1 23 "ReelLoomModel" "thrown" "I") (by decide +kernel)) (fun _ h9 => h9) rfl (by decide +kernel) rfl rfl (Nat.le_of_ble_eq_true rfl) dX1_pass_39 (fun H locs hP hD hS => ?_)
        have hP : va_P (dC, dI) vwCl (wM cyI cyZ p0 p1 p2 p3 p4 mn me ml mt 2 wo mr mo mk mz mq) H := hP
        have hD : va_D A (wM cyI cyZ p0 p1 p2 p3 p4 mn me ml mt 2 wo mr mo mk mz mq) := hD
        refine lv_aload_n hx hb dX1_pass_42 rfl (lv_at hl 0 rfl) ?_
        refine va_get (D := (dC, dI)) (ci := 1) (v := .int 2) (C := RX1) (T := TX1) (N := 11) hx hb hts iw hown hK hP 0 rfl rfl 0 (by decide) (hts (.fieldLink RX1 23 "ReelLoomModel" "thrown" "I") (by decide +kernel)) (fun _ h9 => h9) rfl dX1_pass_43 ?_
        refine lv_if_eq (tgt := 51) hx hb dX1_pass_46 (by decide) (fun c_13 => ?_) (fun c_13 => ?_)
        · skip
          exact absurd c_13 (by decide)
        · skip
          refine lv_iconst (v := 0) hx hb dX1_pass_49 (by decide) ?_
          exact W.iret (v := 0) hx hb hr (fun t ht hW => ⟨⟨0, (2, me, ml, mk, mz, mq), rfl, Or.inr (Or.inl ⟨⟨h2, h8⟩, h19, rfl, rfl, rfl, rfl, rfl, rfl⟩), by show va_P (dC, dI) vwCl (wM cyI cyZ p0 p1 p2 p3 p4 mn me ml mt 2 wo mr mo mk mz mq) t.heap; rw [ht]; exact hP⟩, hS.F ht⟩) hS.2.2 dX1_pass_50
    · skip
      refine lv_iconst (v := 1) hx hb dX1_pass_11 (by decide) ?_
      refine lv_goto (tgt := 39) hx hb dX1_pass_12 (by decide) ?_
      refine va_put (D := (dC, dI)) (ci := 1) (v := .int 1) (ty := .int) (C := RX1) (T := TX1) (N := 11) hx hb hts iw tyX1 tyX1_ok nmX1 hown hK hP hD hS 0 rfl rfl 0 (by decide) (hts (.fieldLink RX1 23 "ReelLoomModel" "thrown" "I") (by decide +kernel)) (fun _ h9 => h9) rfl (by decide +kernel) rfl rfl (Nat.le_of_ble_eq_true rfl) dX1_pass_39 (fun H locs hP hD hS => ?_)
      have hP : va_P (dC, dI) vwCl (wM cyI cyZ p0 p1 p2 p3 p4 mn me ml mt 1 wo mr mo mk mz mq) H := hP
      have hD : va_D A (wM cyI cyZ p0 p1 p2 p3 p4 mn me ml mt 1 wo mr mo mk mz mq) := hD
      refine lv_aload_n hx hb dX1_pass_42 rfl (lv_at hl 0 rfl) ?_
      refine va_get (D := (dC, dI)) (ci := 1) (v := .int 1) (C := RX1) (T := TX1) (N := 11) hx hb hts iw hown hK hP 0 rfl rfl 0 (by decide) (hts (.fieldLink RX1 23 "ReelLoomModel" "thrown" "I") (by decide +kernel)) (fun _ h9 => h9) rfl dX1_pass_43 ?_
      refine lv_if_eq (tgt := 51) hx hb dX1_pass_46 (by decide) (fun c_14 => ?_) (fun c_14 => ?_)
      · skip
        exact absurd c_14 (by decide)
      · skip
        refine lv_iconst (v := 0) hx hb dX1_pass_49 (by decide) ?_
        exact W.iret (v := 0) hx hb hr (fun t ht hW => ⟨⟨0, (1, me, ml, mk, mz, mq), rfl, Or.inl ⟨fun h => by first | exact h.1 h2 | exact h8 h.2, rfl, rfl, rfl, rfl, rfl, rfl⟩, by show va_P (dC, dI) vwCl (wM cyI cyZ p0 p1 p2 p3 p4 mn me ml mt 1 wo mr mo mk mz mq) t.heap; rw [ht]; exact hP⟩, hS.F ht⟩) hS.2.2 dX1_pass_50
set_option maxHeartbeats 4000000 in
set_option maxRecDepth 100000 in
theorem k_X1_stop (l : Launch) (dC : Nat → ClassId) (dI : Nat → Nat → Nat) (cyI cyZ : ClassId) (H0 : Heap) (p0 p1 p2 p3 p4 : Nat) (mn me ml mt : Nat → Int32) (th wo mr mo mk mz mq : Int32) (hP : va_P (dC, dI) vwCl (wM cyI cyZ p0 p1 p2 p3 p4 mn me ml mt th wo mr mo mk mz mq) H0) (hD0 : va_D (fun _ => True) (wM cyI cyZ p0 p1 p2 p3 p4 mn me ml mt th wo mr mo mk mz mq)) (x : Int32)  : Met l yX1_stop wsX1_stop ({ frames := 0, cells := 0, slots := 0, locals := 0 }) (va_Pc [.ref p0, .int x] (pK dC dI (tyW cyI cyZ) H0)) (va_Qi (fun (r : Int32) (u : Int32) => match u with | th2 => ((x.toInt < 0 ∨ 2 < x.toInt) ∧ th2 = 1) ∨ (th2 = 0 ∧ ((x = 0 ∧ r = mk) ∨ (x = 1 ∧ r = mz) ∨ (x = 2 ∧ r = mq)))) (fun (u : Int32) (t : State) => match u with | th2 => va_P (dC, dI) vwCl (wM cyI cyZ p0 p1 p2 p3 p4 mn me ml mt th2 wo mr mo mk mz mq) t.heap) (va_A (wM cyI cyZ p0 p1 p2 p3 p4 mn me ml mt th wo mr mo mk mz mq) H0.size)) 0 0 (va_A (wM cyI cyZ p0 p1 p2 p3 p4 mn me ml mt th wo mr mo mk mz mq) H0.size) := by
  refine Met.ofW (cc := cX1_stop) (maxL := 2) (ret := (some .int)) (by decide) rfl ?_
  intro p e s m args below meth c s₁ B hml hv
  obtain ⟨rfl, rfl, hK⟩ := hv
  have hx := B.exec
  have hb := B.bytes
  have hr := B.returns
  have hts := atoms_spec (ws := wsX1_stop) B.pre
  have hown : s.vm.findClass RX1 = some m.cls := findClass_of_methodNamed B.named
  have hlocks := B.notSynchronized
  have hD := hD0.self (sz := s.heap.size)
  generalize hAe : (va_A (wM cyI cyZ p0 p1 p2 p3 p4 mn me ml mt th wo mr mo mk mz mq) s.heap.size) = A at hD ⊢
  have hA : ∀ q : Nat, s.heap.size ≤ q → A q := fun q h => by rw [← hAe]; exact Or.inr h
  have hS : va_S A s.heap s.heap [] := va_S.rf
  have hl := lv_entry ([.ref p0, .int x]) (n := 2) (Nat.le_of_ble_eq_true rfl)
  rw [lg_entry_eq]
  generalize (lg_sl ([.ref p0, .int x]) ++ List.replicate (2 - (lg_sl ([.ref p0, .int x])).length) Slot.unset).toArray = ls at hl ⊢
  have hl : lv_has ls 2 [(0, .ref p0), (1, .int x)] := hl
  have iw : ∀ w ∈ wsX10, w ∈ wsX1_stop := by decide +kernel
  refine lv_aload_n hx hb dX1_stop_0 rfl (lv_at hl 0 rfl) ?_
  refine lv_iload_n hx hb dX1_stop_1 rfl (lv_at hl 1 rfl) ?_
  refine lv_if_lt (tgt := 10) hx hb dX1_stop_2 (by decide) (fun h2 => ?_) (fun h2 => ?_)
  · skip
    refine lv_iconst (v := 1) hx hb dX1_stop_10 (by decide) ?_
    refine lv_goto (tgt := 15) hx hb dX1_stop_11 (by decide) ?_
    refine va_put (D := (dC, dI)) (ci := 1) (v := .int 1) (ty := .int) (C := RX1) (T := TX1) (N := 11) hx hb hts iw tyX1 tyX1_ok nmX1 hown hK hP hD hS 0 rfl rfl 0 (by decide) (hts (.fieldLink RX1 23 "ReelLoomModel" "thrown" "I") (by decide +kernel)) (fun _ h9 => h9) rfl (by decide +kernel) rfl rfl (Nat.le_of_ble_eq_true rfl) dX1_stop_15 (fun H locs hP hD hS => ?_)
    have hP : va_P (dC, dI) vwCl (wM cyI cyZ p0 p1 p2 p3 p4 mn me ml mt 1 wo mr mo mk mz mq) H := hP
    have hD : va_D A (wM cyI cyZ p0 p1 p2 p3 p4 mn me ml mt 1 wo mr mo mk mz mq) := hD
    refine lv_aload_n hx hb dX1_stop_18 rfl (lv_at hl 0 rfl) ?_
    refine va_get (D := (dC, dI)) (ci := 1) (v := .int 1) (C := RX1) (T := TX1) (N := 11) hx hb hts iw hown hK hP 0 rfl rfl 0 (by decide) (hts (.fieldLink RX1 23 "ReelLoomModel" "thrown" "I") (by decide +kernel)) (fun _ h9 => h9) rfl dX1_stop_19 ?_
    refine lv_if_eq (tgt := 27) hx hb dX1_stop_22 (by decide) (fun c_2 => ?_) (fun c_2 => ?_)
    · skip
      exact absurd c_2 (by decide)
    · skip
      refine lv_iconst (v := 0) hx hb dX1_stop_25 (by decide) ?_
      exact W.iret (v := 0) hx hb hr (fun t ht hW => ⟨⟨0, 1, rfl, Or.inl ⟨i_out (by decide) (by first | exact Or.inl h2 | exact Or.inr h7), rfl⟩, by show va_P (dC, dI) vwCl (wM cyI cyZ p0 p1 p2 p3 p4 mn me ml mt 1 wo mr mo mk mz mq) t.heap; rw [ht]; exact hP⟩, hS.F ht⟩) hS.2.2 dX1_stop_26
  · skip
    refine lv_iload_n hx hb dX1_stop_5 rfl (lv_at hl 1 rfl) ?_
    refine lv_iconst (v := nI 2) hx hb dX1_stop_6 (by decide) ?_
    refine lv_icmp_le (tgt := 14) hx hb dX1_stop_7 (by decide) (fun h7 => ?_) (fun h7 => ?_)
    · skip
      refine lv_iconst (v := 0) hx hb dX1_stop_14 (by decide) ?_
      refine va_put (D := (dC, dI)) (ci := 1) (v := .int 0) (ty := .int) (C := RX1) (T := TX1) (N := 11) hx hb hts iw tyX1 tyX1_ok nmX1 hown hK hP hD hS 0 rfl rfl 0 (by decide) (hts (.fieldLink RX1 23 "ReelLoomModel" "thrown" "I") (by decide +kernel)) (fun _ h9 => h9) rfl (by decide +kernel) rfl rfl (Nat.le_of_ble_eq_true rfl) dX1_stop_15 (fun H locs hP hD hS => ?_)
      have hP : va_P (dC, dI) vwCl (wM cyI cyZ p0 p1 p2 p3 p4 mn me ml mt 0 wo mr mo mk mz mq) H := hP
      have hD : va_D A (wM cyI cyZ p0 p1 p2 p3 p4 mn me ml mt 0 wo mr mo mk mz mq) := hD
      refine lv_aload_n hx hb dX1_stop_18 rfl (lv_at hl 0 rfl) ?_
      refine va_get (D := (dC, dI)) (ci := 1) (v := .int 0) (C := RX1) (T := TX1) (N := 11) hx hb hts iw hown hK hP 0 rfl rfl 0 (by decide) (hts (.fieldLink RX1 23 "ReelLoomModel" "thrown" "I") (by decide +kernel)) (fun _ h9 => h9) rfl dX1_stop_19 ?_
      refine lv_if_eq (tgt := 27) hx hb dX1_stop_22 (by decide) (fun c_4 => ?_) (fun c_4 => ?_)
      · skip
        refine lv_iload_n hx hb dX1_stop_27 rfl (lv_at hl 1 rfl) ?_
        refine lv_if_ne (tgt := 38) hx hb dX1_stop_28 (by decide) (fun h28 => ?_) (fun h28 => ?_)
        · skip
          refine lv_iload_n hx hb dX1_stop_38 rfl (lv_at hl 1 rfl) ?_
          refine lv_iconst (v := 1) hx hb dX1_stop_39 (by decide) ?_
          refine lv_icmp_ne (tgt := 50) hx hb dX1_stop_40 (by decide) (fun h40 => ?_) (fun h40 => ?_)
          · skip
            refine lv_aload_n hx hb dX1_stop_50 rfl (lv_at hl 0 rfl) ?_
            refine va_get (D := (dC, dI)) (ci := 1) (v := .int mq) (C := RX1) (T := TX1) (N := 11) hx hb hts iw hown hK hP 0 rfl rfl 10 (by decide) (hts (.fieldLink RX1 83 "ReelLoomModel" "stopColumn" "I") (by decide +kernel)) (fun _ h9 => h9) rfl dX1_stop_51 ?_
            exact W.iret (v := mq) hx hb hr (fun t ht hW => ⟨⟨mq, 0, rfl, Or.inr ⟨rfl, Or.inr (Or.inr ⟨i_2 h2 h7 h28 h40, rfl⟩)⟩, by show va_P (dC, dI) vwCl (wM cyI cyZ p0 p1 p2 p3 p4 mn me ml mt 0 wo mr mo mk mz mq) t.heap; rw [ht]; exact hP⟩, hS.F ht⟩) hS.2.2 dX1_stop_54
          · skip
            refine lv_aload_n hx hb dX1_stop_43 rfl (lv_at hl 0 rfl) ?_
            refine va_get (D := (dC, dI)) (ci := 1) (v := .int mz) (C := RX1) (T := TX1) (N := 11) hx hb hts iw hown hK hP 0 rfl rfl 9 (by decide) (hts (.fieldLink RX1 80 "ReelLoomModel" "stopSort" "I") (by decide +kernel)) (fun _ h9 => h9) rfl dX1_stop_44 ?_
            refine lv_goto (tgt := 54) hx hb dX1_stop_47 (by decide) ?_
            exact W.iret (v := mz) hx hb hr (fun t ht hW => ⟨⟨mz, 0, rfl, Or.inr ⟨rfl, Or.inr (Or.inl ⟨h40, rfl⟩)⟩, by show va_P (dC, dI) vwCl (wM cyI cyZ p0 p1 p2 p3 p4 mn me ml mt 0 wo mr mo mk mz mq) t.heap; rw [ht]; exact hP⟩, hS.F ht⟩) hS.2.2 dX1_stop_54
        · skip
          refine lv_aload_n hx hb dX1_stop_31 rfl (lv_at hl 0 rfl) ?_
          refine va_get (D := (dC, dI)) (ci := 1) (v := .int mk) (C := RX1) (T := TX1) (N := 11) hx hb hts iw hown hK hP 0 rfl rfl 8 (by decide) (hts (.fieldLink RX1 77 "ReelLoomModel" "stopKind" "I") (by decide +kernel)) (fun _ h9 => h9) rfl dX1_stop_32 ?_
          refine lv_goto (tgt := 54) hx hb dX1_stop_35 (by decide) ?_
          exact W.iret (v := mk) hx hb hr (fun t ht hW => ⟨⟨mk, 0, rfl, Or.inr ⟨rfl, Or.inl ⟨h28, rfl⟩⟩, by show va_P (dC, dI) vwCl (wM cyI cyZ p0 p1 p2 p3 p4 mn me ml mt 0 wo mr mo mk mz mq) t.heap; rw [ht]; exact hP⟩, hS.F ht⟩) hS.2.2 dX1_stop_54
      · skip
        exact absurd (by decide) c_4
    · skip
      refine lv_iconst (v := 1) hx hb dX1_stop_10 (by decide) ?_
      refine lv_goto (tgt := 15) hx hb dX1_stop_11 (by decide) ?_
      refine va_put (D := (dC, dI)) (ci := 1) (v := .int 1) (ty := .int) (C := RX1) (T := TX1) (N := 11) hx hb hts iw tyX1 tyX1_ok nmX1 hown hK hP hD hS 0 rfl rfl 0 (by decide) (hts (.fieldLink RX1 23 "ReelLoomModel" "thrown" "I") (by decide +kernel)) (fun _ h9 => h9) rfl (by decide +kernel) rfl rfl (Nat.le_of_ble_eq_true rfl) dX1_stop_15 (fun H locs hP hD hS => ?_)
      have hP : va_P (dC, dI) vwCl (wM cyI cyZ p0 p1 p2 p3 p4 mn me ml mt 1 wo mr mo mk mz mq) H := hP
      have hD : va_D A (wM cyI cyZ p0 p1 p2 p3 p4 mn me ml mt 1 wo mr mo mk mz mq) := hD
      refine lv_aload_n hx hb dX1_stop_18 rfl (lv_at hl 0 rfl) ?_
      refine va_get (D := (dC, dI)) (ci := 1) (v := .int 1) (C := RX1) (T := TX1) (N := 11) hx hb hts iw hown hK hP 0 rfl rfl 0 (by decide) (hts (.fieldLink RX1 23 "ReelLoomModel" "thrown" "I") (by decide +kernel)) (fun _ h9 => h9) rfl dX1_stop_19 ?_
      refine lv_if_eq (tgt := 27) hx hb dX1_stop_22 (by decide) (fun c_7 => ?_) (fun c_7 => ?_)
      · skip
        exact absurd c_7 (by decide)
      · skip
        refine lv_iconst (v := 0) hx hb dX1_stop_25 (by decide) ?_
        exact W.iret (v := 0) hx hb hr (fun t ht hW => ⟨⟨0, 1, rfl, Or.inl ⟨i_out (by decide) (by first | exact Or.inl h2 | exact Or.inr h7), rfl⟩, by show va_P (dC, dI) vwCl (wM cyI cyZ p0 p1 p2 p3 p4 mn me ml mt 1 wo mr mo mk mz mq) t.heap; rw [ht]; exact hP⟩, hS.F ht⟩) hS.2.2 dX1_stop_26
set_option maxHeartbeats 4000000 in
set_option maxRecDepth 100000 in
theorem k_X1_cut (l : Launch) (dC : Nat → ClassId) (dI : Nat → Nat → Nat) (cyI cyZ : ClassId) (H0 : Heap) (p0 p1 p2 p3 p4 : Nat) (mn me ml mt : Nat → Int32) (th wo mr mo mk mz mq : Int32) (hP : va_P (dC, dI) vwCl (wM cyI cyZ p0 p1 p2 p3 p4 mn me ml mt th wo mr mo mk mz mq) H0) (hD0 : va_D (fun _ => True) (wM cyI cyZ p0 p1 p2 p3 p4 mn me ml mt th wo mr mo mk mz mq)) (x : Int32) (hmr : mr ≤ nI 40) : Met l yX1_cut wsX1_cut ({ frames := 1, cells := 0, slots := 0, locals := 21 }) (va_Pc [.ref p0, .int x] (pK dC dI (tyW cyI cyZ) H0)) (va_Qi (fun (r : Int32) (u : Int32 × (Nat → Int32)) => match u with | (th2, mt2) => (wo = 0 ∧ th2 = 1 ∧ mt2 = mt) ∨ (¬ wo = 0 ∧ ((rlk mr mt x = 2 ∧ th2 = 2 ∧ mt2 = mt) ∨ (rlk mr mt x = 1 ∧ th2 = 1 ∧ mt2 = mt) ∨ (rlk mr mt x = 0 ∧ th2 = 0 ∧ ∃ ro : Nat, ro < 40 ∧ x = nI ro ∧ r = mo ∧ mt2 = upd mt ro 1)))) (fun (u : Int32 × (Nat → Int32)) (t : State) => match u with | (th2, mt2) => va_P (dC, dI) vwCl (wM cyI cyZ p0 p1 p2 p3 p4 mn me ml mt2 th2 wo mr mo mk mz mq) t.heap) (va_A (wM cyI cyZ p0 p1 p2 p3 p4 mn me ml mt th wo mr mo mk mz mq) H0.size)) 0 0 (va_A (wM cyI cyZ p0 p1 p2 p3 p4 mn me ml mt th wo mr mo mk mz mq) H0.size) := by
  refine Met.ofW (cc := cX1_cut) (maxL := 2) (ret := (some .int)) (by decide) rfl ?_
  intro p e s m args below meth c s₁ B hml hv
  obtain ⟨rfl, rfl, hK⟩ := hv
  have hx := B.exec
  have hb := B.bytes
  have hr := B.returns
  have hts := atoms_spec (ws := wsX1_cut) B.pre
  have hown : s.vm.findClass RX1 = some m.cls := findClass_of_methodNamed B.named
  have hlocks := B.notSynchronized
  have hD := hD0.self (sz := s.heap.size)
  generalize hAe : (va_A (wM cyI cyZ p0 p1 p2 p3 p4 mn me ml mt th wo mr mo mk mz mq) s.heap.size) = A at hD ⊢
  have hA : ∀ q : Nat, s.heap.size ≤ q → A q := fun q h => by rw [← hAe]; exact Or.inr h
  have hS : va_S A s.heap s.heap [] := va_S.rf
  have hl := lv_entry ([.ref p0, .int x]) (n := 2) (Nat.le_of_ble_eq_true rfl)
  rw [lg_entry_eq]
  generalize (lg_sl ([.ref p0, .int x]) ++ List.replicate (2 - (lg_sl ([.ref p0, .int x])).length) Slot.unset).toArray = ls at hl ⊢
  have hl : lv_has ls 2 [(0, .ref p0), (1, .int x)] := hl
  have iw : ∀ w ∈ wsX10, w ∈ wsX1_cut := by decide +kernel
  refine lv_aload_n hx hb dX1_cut_0 rfl (lv_at hl 0 rfl) ?_
  refine lv_aload_n hx hb dX1_cut_1 rfl (lv_at hl 0 rfl) ?_
  refine va_get (D := (dC, dI)) (ci := 1) (v := .int wo) (C := RX1) (T := TX1) (N := 11) hx hb hts iw hown hK hP 0 rfl rfl 3 (by decide) (hts (.fieldLink RX1 73 "ReelLoomModel" "isWoven" "Z") (by decide +kernel)) (fun _ h9 => h9) rfl dX1_cut_2 ?_
  refine lv_if_ne (tgt := 12) hx hb dX1_cut_5 (by decide) (fun h5 => ?_) (fun h5 => ?_)
  · skip
    refine lv_aload_n hx hb dX1_cut_12 rfl (lv_at hl 0 rfl) ?_
    refine lv_iload_n hx hb dX1_cut_13 rfl (lv_at hl 1 rfl) ?_
    refine gx_calli (va_runV (As := [.int x]) (rest := [.ref p0]) ⟨hx, hb, hml, hown, hts⟩ (k_X1_isRow l dC dI cyI cyZ _ p0 p1 p2 p3 p4 mn me ml mt th wo mr mo mk mz mq hP (hD.weaken (fun _ _ _ _ => trivial)) x ) (cwV 1 hts gX1_cut_X1_isRow rfl rfl rfl (by decide +kernel) ⟨Nat.le_of_ble_eq_true rfl, Nat.le_of_ble_eq_true rfl⟩) (pK_V hK (va_recv hK hP (ci := 1) (q0 := 0) rfl rfl)) rfl rfl hl.1 rfl (lv_room (Nat.le_of_ble_eq_true rfl)) dX1_cut_14 ⟨Nat.le_of_ble_eq_true rfl, Nat.le_of_ble_eq_true rfl⟩) (fun r14 hr14 => ?_)
    refine lv_if_ne (tgt := 24) hx hb dX1_cut_17 (by decide) (fun h17 => ?_) (fun h17 => ?_)
    · skip
      have hrow := (hr14.resolve_right (fun a => h17 a.1)).2
      obtain ⟨ro, hro, rfl⟩ := in_of (n := 40) (by decide) hrow.1 (i_lt hrow.2 hmr)
      have e9 : (nI ro).toNatClampNeg = ro := nI_clamp (by omega)
      refine lv_aload_n hx hb dX1_cut_24 rfl (lv_at hl 0 rfl) ?_
      refine va_get (D := (dC, dI)) (ci := 1) (v := .ref p4) (C := RX1) (T := TX1) (N := 11) hx hb hts iw hown hK hP 0 rfl rfl 7 (by decide) (hts (.fieldLink RX1 19 "ReelLoomModel" "isCut" "[Z") (by decide +kernel)) (fun _ h9 => h9) rfl dX1_cut_25 ?_
      refine lv_iload_n hx hb dX1_cut_28 rfl (lv_at hl 1 rfl) ?_
      refine va_zald hx hb hK hP 4 1 rfl rfl (vp_in_nI (by omega) (by omega)) dX1_cut_29 ?_
      rw [nI_clamp (show ro < 2 ^ 31 by omega)]
      refine lv_if_eq (tgt := 37) hx hb dX1_cut_30 (by decide) (fun h30 => ?_) (fun h30 => ?_)
      · skip
        refine lv_iconst (v := 0) hx hb dX1_cut_37 (by decide) ?_
        refine va_put (D := (dC, dI)) (ci := 1) (v := .int 0) (ty := .int) (C := RX1) (T := TX1) (N := 11) hx hb hts iw tyX1 tyX1_ok nmX1 hown hK hP hD hS 0 rfl rfl 0 (by decide) (hts (.fieldLink RX1 23 "ReelLoomModel" "thrown" "I") (by decide +kernel)) (fun _ h9 => h9) rfl (by decide +kernel) rfl rfl (Nat.le_of_ble_eq_true rfl) dX1_cut_38 (fun H locs hP hD hS => ?_)
        have hP : va_P (dC, dI) vwCl (wM cyI cyZ p0 p1 p2 p3 p4 mn me ml mt 0 wo mr mo mk mz mq) H := hP
        have hD : va_D A (wM cyI cyZ p0 p1 p2 p3 p4 mn me ml mt 0 wo mr mo mk mz mq) := hD
        refine lv_aload_n hx hb dX1_cut_41 rfl (lv_at hl 0 rfl) ?_
        refine va_get (D := (dC, dI)) (ci := 1) (v := .int 0) (C := RX1) (T := TX1) (N := 11) hx hb hts iw hown hK hP 0 rfl rfl 0 (by decide) (hts (.fieldLink RX1 23 "ReelLoomModel" "thrown" "I") (by decide +kernel)) (fun _ h9 => h9) rfl dX1_cut_42 ?_
        refine lv_if_eq (tgt := 50) hx hb dX1_cut_45 (by decide) (fun c_5 => ?_) (fun c_5 => ?_)
        · skip
          refine lv_aload_n hx hb dX1_cut_50 rfl (lv_at hl 0 rfl) ?_
          refine va_get (D := (dC, dI)) (ci := 1) (v := .ref p4) (C := RX1) (T := TX1) (N := 11) hx hb hts iw hown hK hP 0 rfl rfl 7 (by decide) (hts (.fieldLink RX1 19 "ReelLoomModel" "isCut" "[Z") (by decide +kernel)) (fun _ h9 => h9) rfl dX1_cut_51 ?_
          refine lv_iload_n hx hb dX1_cut_54 rfl (lv_at hl 1 rfl) ?_
          refine lv_iconst (v := 1) hx hb dX1_cut_55 (by decide) ?_
          refine va_zast hx hb hK hP hD hS 4 1 rfl rfl (vp_in_nI (by omega) (by omega)) dX1_cut_56 (fun H locs hP hD hS => ?_)
          rw [nI_clamp (show ro < 2 ^ 31 by omega)] at hP hD
          have hP : va_P (dC, dI) vwCl (wM cyI cyZ p0 p1 p2 p3 p4 mn me ml (upd mt ro 1) 0 wo mr mo mk mz mq) H := hP
          have hD : va_D A (wM cyI cyZ p0 p1 p2 p3 p4 mn me ml (upd mt ro 1) 0 wo mr mo mk mz mq) := hD
          refine lv_aload_n hx hb dX1_cut_57 rfl (lv_at hl 0 rfl) ?_
          refine va_get (D := (dC, dI)) (ci := 1) (v := .int mo) (C := RX1) (T := TX1) (N := 11) hx hb hts iw hown hK hP 0 rfl rfl 5 (by decide) (hts (.fieldLink RX1 70 "ReelLoomModel" "columns" "I") (by decide +kernel)) (fun _ h9 => h9) rfl dX1_cut_58 ?_
          exact W.iret (v := mo) hx hb hr (fun t ht hW => ⟨⟨mo, (0, upd mt ro 1), rfl, Or.inr ⟨h5, Or.inr (Or.inr ⟨by unfold rlk; rw [if_neg (not_not_intro hrow), e9, if_neg (not_not_intro h30)], rfl, ro, hro, rfl, rfl, rfl⟩)⟩, by show va_P (dC, dI) vwCl (wM cyI cyZ p0 p1 p2 p3 p4 mn me ml (upd mt ro 1) 0 wo mr mo mk mz mq) t.heap; rw [ht]; exact hP⟩, hS.F ht⟩) hS.2.2 dX1_cut_61
        · skip
          exact absurd (by decide) c_5
      · skip
        refine lv_iconst (v := 1) hx hb dX1_cut_33 (by decide) ?_
        refine lv_goto (tgt := 38) hx hb dX1_cut_34 (by decide) ?_
        refine va_put (D := (dC, dI)) (ci := 1) (v := .int 1) (ty := .int) (C := RX1) (T := TX1) (N := 11) hx hb hts iw tyX1 tyX1_ok nmX1 hown hK hP hD hS 0 rfl rfl 0 (by decide) (hts (.fieldLink RX1 23 "ReelLoomModel" "thrown" "I") (by decide +kernel)) (fun _ h9 => h9) rfl (by decide +kernel) rfl rfl (Nat.le_of_ble_eq_true rfl) dX1_cut_38 (fun H locs hP hD hS => ?_)
        have hP : va_P (dC, dI) vwCl (wM cyI cyZ p0 p1 p2 p3 p4 mn me ml mt 1 wo mr mo mk mz mq) H := hP
        have hD : va_D A (wM cyI cyZ p0 p1 p2 p3 p4 mn me ml mt 1 wo mr mo mk mz mq) := hD
        refine lv_aload_n hx hb dX1_cut_41 rfl (lv_at hl 0 rfl) ?_
        refine va_get (D := (dC, dI)) (ci := 1) (v := .int 1) (C := RX1) (T := TX1) (N := 11) hx hb hts iw hown hK hP 0 rfl rfl 0 (by decide) (hts (.fieldLink RX1 23 "ReelLoomModel" "thrown" "I") (by decide +kernel)) (fun _ h9 => h9) rfl dX1_cut_42 ?_
        refine lv_if_eq (tgt := 50) hx hb dX1_cut_45 (by decide) (fun c_6 => ?_) (fun c_6 => ?_)
        · skip
          exact absurd c_6 (by decide)
        · skip
          refine lv_iconst (v := 0) hx hb dX1_cut_48 (by decide) ?_
          exact W.iret (v := 0) hx hb hr (fun t ht hW => ⟨⟨0, (1, mt), rfl, Or.inr ⟨h5, Or.inr (Or.inl ⟨by unfold rlk; rw [if_neg (not_not_intro hrow), e9, if_pos h30], rfl, rfl⟩)⟩, by show va_P (dC, dI) vwCl (wM cyI cyZ p0 p1 p2 p3 p4 mn me ml mt 1 wo mr mo mk mz mq) t.heap; rw [ht]; exact hP⟩, hS.F ht⟩) hS.2.2 dX1_cut_49
    · skip
      have hrow := (hr14.resolve_left (fun a => absurd (a.1.symm.trans h17) (by decide))).2
      refine lv_iconst (v := 2) hx hb dX1_cut_20 (by decide) ?_
      refine lv_goto (tgt := 38) hx hb dX1_cut_21 (by decide) ?_
      refine va_put (D := (dC, dI)) (ci := 1) (v := .int 2) (ty := .int) (C := RX1) (T := TX1) (N := 11) hx hb hts iw tyX1 tyX1_ok nmX1 hown hK hP hD hS 0 rfl rfl 0 (by decide) (hts (.fieldLink RX1 23 "ReelLoomModel" "thrown" "I") (by decide +kernel)) (fun _ h9 => h9) rfl (by decide +kernel) rfl rfl (Nat.le_of_ble_eq_true rfl) dX1_cut_38 (fun H locs hP hD hS => ?_)
      have hP : va_P (dC, dI) vwCl (wM cyI cyZ p0 p1 p2 p3 p4 mn me ml mt 2 wo mr mo mk mz mq) H := hP
      have hD : va_D A (wM cyI cyZ p0 p1 p2 p3 p4 mn me ml mt 2 wo mr mo mk mz mq) := hD
      refine lv_aload_n hx hb dX1_cut_41 rfl (lv_at hl 0 rfl) ?_
      refine va_get (D := (dC, dI)) (ci := 1) (v := .int 2) (C := RX1) (T := TX1) (N := 11) hx hb hts iw hown hK hP 0 rfl rfl 0 (by decide) (hts (.fieldLink RX1 23 "ReelLoomModel" "thrown" "I") (by decide +kernel)) (fun _ h9 => h9) rfl dX1_cut_42 ?_
      refine lv_if_eq (tgt := 50) hx hb dX1_cut_45 (by decide) (fun c_7 => ?_) (fun c_7 => ?_)
      · skip
        exact absurd c_7 (by decide)
      · skip
        refine lv_iconst (v := 0) hx hb dX1_cut_48 (by decide) ?_
        exact W.iret (v := 0) hx hb hr (fun t ht hW => ⟨⟨0, (2, mt), rfl, Or.inr ⟨h5, Or.inl ⟨by unfold rlk; rw [if_pos hrow], rfl, rfl⟩⟩, by show va_P (dC, dI) vwCl (wM cyI cyZ p0 p1 p2 p3 p4 mn me ml mt 2 wo mr mo mk mz mq) t.heap; rw [ht]; exact hP⟩, hS.F ht⟩) hS.2.2 dX1_cut_49
  · skip
    refine lv_iconst (v := 1) hx hb dX1_cut_8 (by decide) ?_
    refine lv_goto (tgt := 38) hx hb dX1_cut_9 (by decide) ?_
    refine va_put (D := (dC, dI)) (ci := 1) (v := .int 1) (ty := .int) (C := RX1) (T := TX1) (N := 11) hx hb hts iw tyX1 tyX1_ok nmX1 hown hK hP hD hS 0 rfl rfl 0 (by decide) (hts (.fieldLink RX1 23 "ReelLoomModel" "thrown" "I") (by decide +kernel)) (fun _ h9 => h9) rfl (by decide +kernel) rfl rfl (Nat.le_of_ble_eq_true rfl) dX1_cut_38 (fun H locs hP hD hS => ?_)
    have hP : va_P (dC, dI) vwCl (wM cyI cyZ p0 p1 p2 p3 p4 mn me ml mt 1 wo mr mo mk mz mq) H := hP
    have hD : va_D A (wM cyI cyZ p0 p1 p2 p3 p4 mn me ml mt 1 wo mr mo mk mz mq) := hD
    refine lv_aload_n hx hb dX1_cut_41 rfl (lv_at hl 0 rfl) ?_
    refine va_get (D := (dC, dI)) (ci := 1) (v := .int 1) (C := RX1) (T := TX1) (N := 11) hx hb hts iw hown hK hP 0 rfl rfl 0 (by decide) (hts (.fieldLink RX1 23 "ReelLoomModel" "thrown" "I") (by decide +kernel)) (fun _ h9 => h9) rfl dX1_cut_42 ?_
    refine lv_if_eq (tgt := 50) hx hb dX1_cut_45 (by decide) (fun c_8 => ?_) (fun c_8 => ?_)
    · skip
      exact absurd c_8 (by decide)
    · skip
      refine lv_iconst (v := 0) hx hb dX1_cut_48 (by decide) ?_
      exact W.iret (v := 0) hx hb hr (fun t ht hW => ⟨⟨0, (1, mt), rfl, Or.inl ⟨h5, rfl, rfl⟩, by show va_P (dC, dI) vwCl (wM cyI cyZ p0 p1 p2 p3 p4 mn me ml mt 1 wo mr mo mk mz mq) t.heap; rw [ht]; exact hP⟩, hS.F ht⟩) hS.2.2 dX1_cut_49
set_option maxHeartbeats 4000000 in
set_option maxRecDepth 100000 in
theorem k_X1_clothLacks (l : Launch) (dC : Nat → ClassId) (dI : Nat → Nat → Nat) (cyI cyZ : ClassId) (H0 : Heap) (p0 p1 p2 p3 p4 : Nat) (mn me ml mt : Nat → Int32) (th wo mr mo mk mz mq : Int32) (hP : va_P (dC, dI) vwCl (wM cyI cyZ p0 p1 p2 p3 p4 mn me ml mt th wo mr mo mk mz mq) H0) (hD0 : va_D (fun _ => True) (wM cyI cyZ p0 p1 p2 p3 p4 mn me ml mt th wo mr mo mk mz mq)) (x : Int32) (y : Int32) (hmr : mr ≤ nI 40) : Met l yX1_clothLacks wsX1_clothLacks ({ frames := 1, cells := 0, slots := 0, locals := 21 }) (va_Pc [.ref p0, .int x, .int y] (pK dC dI (tyW cyI cyZ) H0)) (gx_Qi (fun r : Int32 => r = nI (lkM wo mr mo mt x y)) H0) 0 0 (gx_new H0) := by
  refine Met.ofW (cc := cX1_clothLacks) (maxL := 3) (ret := (some .int)) (by decide) rfl ?_
  intro p e s m args below meth c s₁ B hml hv
  obtain ⟨rfl, rfl, hK⟩ := hv
  have hx := B.exec
  have hb := B.bytes
  have hr := B.returns
  have hts := atoms_spec (ws := wsX1_clothLacks) B.pre
  have hown : s.vm.findClass RX1 = some m.cls := findClass_of_methodNamed B.named
  have hlocks := B.notSynchronized
  have hD := hD0.self (sz := s.heap.size)
  generalize hAe : (gx_new s.heap) = A at ⊢
  have hA : ∀ q : Nat, s.heap.size ≤ q → A q := fun q h => by rw [← hAe]; exact h
  have hS : va_S A s.heap s.heap [] := va_S.rf
  have hl := lv_entry ([.ref p0, .int x, .int y]) (n := 3) (Nat.le_of_ble_eq_true rfl)
  rw [lg_entry_eq]
  generalize (lg_sl ([.ref p0, .int x, .int y]) ++ List.replicate (3 - (lg_sl ([.ref p0, .int x, .int y])).length) Slot.unset).toArray = ls at hl ⊢
  have hl : lv_has ls 3 [(0, .ref p0), (1, .int x), (2, .int y)] := hl
  have iw : ∀ w ∈ wsX10, w ∈ wsX1_clothLacks := by decide +kernel
  refine lv_aload_n hx hb dX1_clothLacks_0 rfl (lv_at hl 0 rfl) ?_
  refine va_get (D := (dC, dI)) (ci := 1) (v := .int wo) (C := RX1) (T := TX1) (N := 11) hx hb hts iw hown hK hP 0 rfl rfl 3 (by decide) (hts (.fieldLink RX1 73 "ReelLoomModel" "isWoven" "Z") (by decide +kernel)) (fun _ h9 => h9) rfl dX1_clothLacks_1 ?_
  refine lv_if_ne (tgt := 11) hx hb dX1_clothLacks_4 (by decide) (fun h4 => ?_) (fun h4 => ?_)
  · skip
    refine lv_aload_n hx hb dX1_clothLacks_11 rfl (lv_at hl 0 rfl) ?_
    refine lv_iload_n hx hb dX1_clothLacks_12 rfl (lv_at hl 1 rfl) ?_
    refine gx_calli (va_runV (As := [.int x]) (rest := []) ⟨hx, hb, hml, hown, hts⟩ (k_X1_isRow l dC dI cyI cyZ _ p0 p1 p2 p3 p4 mn me ml mt th wo mr mo mk mz mq hP (hD.weaken (fun _ _ _ _ => trivial)) x ) (cwV 1 hts gX1_clothLacks_X1_isRow rfl rfl rfl (by decide +kernel) ⟨Nat.le_of_ble_eq_true rfl, Nat.le_of_ble_eq_true rfl⟩) (pK_V hK (va_recv hK hP (ci := 1) (q0 := 0) rfl rfl)) rfl rfl hl.1 rfl (lv_room (Nat.le_of_ble_eq_true rfl)) dX1_clothLacks_13 ⟨Nat.le_of_ble_eq_true rfl, Nat.le_of_ble_eq_true rfl⟩) (fun r13 hr13 => ?_)
    refine lv_if_ne (tgt := 23) hx hb dX1_clothLacks_16 (by decide) (fun h16 => ?_) (fun h16 => ?_)
    · skip
      have hrow := (hr13.resolve_right (fun a => h16 a.1)).2
      obtain ⟨ro, hro, rfl⟩ := in_of (n := 40) (by decide) hrow.1 (i_lt hrow.2 hmr)
      have e9 : (nI ro).toNatClampNeg = ro := nI_clamp (by omega)
      refine lv_aload_n hx hb dX1_clothLacks_23 rfl (lv_at hl 0 rfl) ?_
      refine va_get (D := (dC, dI)) (ci := 1) (v := .ref p4) (C := RX1) (T := TX1) (N := 11) hx hb hts iw hown hK hP 0 rfl rfl 7 (by decide) (hts (.fieldLink RX1 19 "ReelLoomModel" "isCut" "[Z") (by decide +kernel)) (fun _ h9 => h9) rfl dX1_clothLacks_24 ?_
      refine lv_iload_n hx hb dX1_clothLacks_27 rfl (lv_at hl 1 rfl) ?_
      refine va_zald hx hb hK hP 4 1 rfl rfl (vp_in_nI (by omega) (by omega)) dX1_clothLacks_28 ?_
      rw [nI_clamp (show ro < 2 ^ 31 by omega)]
      refine lv_if_eq (tgt := 36) hx hb dX1_clothLacks_29 (by decide) (fun h29 => ?_) (fun h29 => ?_)
      · skip
        refine lv_aload_n hx hb dX1_clothLacks_36 rfl (lv_at hl 0 rfl) ?_
        refine lv_iload_n hx hb dX1_clothLacks_37 rfl (lv_at hl 2 rfl) ?_
        refine gx_calli (va_runV (As := [.int y]) (rest := []) ⟨hx, hb, hml, hown, hts⟩ (k_X1_isColumn l dC dI cyI cyZ _ p0 p1 p2 p3 p4 mn me ml mt th wo mr mo mk mz mq hP (hD.weaken (fun _ _ _ _ => trivial)) y ) (cwV 1 hts gX1_clothLacks_X1_isColumn rfl rfl rfl (by decide +kernel) ⟨Nat.le_of_ble_eq_true rfl, Nat.le_of_ble_eq_true rfl⟩) (pK_V hK (va_recv hK hP (ci := 1) (q0 := 0) rfl rfl)) rfl rfl hl.1 rfl (lv_room (Nat.le_of_ble_eq_true rfl)) dX1_clothLacks_38 ⟨Nat.le_of_ble_eq_true rfl, Nat.le_of_ble_eq_true rfl⟩) (fun r38 hr38 => ?_)
        refine lv_if_ne (tgt := 48) hx hb dX1_clothLacks_41 (by decide) (fun h41 => ?_) (fun h41 => ?_)
        · skip
          have hcol := (hr38.resolve_right (fun a => h41 a.1)).2
          refine lv_iconst (v := 0) hx hb dX1_clothLacks_48 (by decide) ?_
          exact W.iret (v := 0) hx hb hr (fun t ht hW => ⟨0, rfl, by unfold lkM; rw [if_neg h4, if_neg (not_not_intro hrow), e9, if_neg (not_not_intro h29), if_neg (not_not_intro hcol)]; rfl, ht⟩) hS.2.2 dX1_clothLacks_49
        · skip
          have hcol := (hr38.resolve_left (fun a => absurd (a.1.symm.trans h41) (by decide))).2
          refine lv_iconst (v := 2) hx hb dX1_clothLacks_44 (by decide) ?_
          refine lv_goto (tgt := 49) hx hb dX1_clothLacks_45 (by decide) ?_
          exact W.iret (v := 2) hx hb hr (fun t ht hW => ⟨2, rfl, by unfold lkM; rw [if_neg h4, if_neg (not_not_intro hrow), e9, if_neg (not_not_intro h29), if_pos hcol]; rfl, ht⟩) hS.2.2 dX1_clothLacks_49
      · skip
        refine lv_iconst (v := 1) hx hb dX1_clothLacks_32 (by decide) ?_
        refine lv_goto (tgt := 49) hx hb dX1_clothLacks_33 (by decide) ?_
        exact W.iret (v := 1) hx hb hr (fun t ht hW => ⟨1, rfl, by unfold lkM; rw [if_neg h4, if_neg (not_not_intro hrow), e9, if_pos h29]; rfl, ht⟩) hS.2.2 dX1_clothLacks_49
    · skip
      have hrow := (hr13.resolve_left (fun a => absurd (a.1.symm.trans h16) (by decide))).2
      refine lv_iconst (v := 2) hx hb dX1_clothLacks_19 (by decide) ?_
      refine lv_goto (tgt := 49) hx hb dX1_clothLacks_20 (by decide) ?_
      exact W.iret (v := 2) hx hb hr (fun t ht hW => ⟨2, rfl, by unfold lkM; rw [if_neg h4, if_pos hrow]; rfl, ht⟩) hS.2.2 dX1_clothLacks_49
  · skip
    refine lv_iconst (v := 1) hx hb dX1_clothLacks_7 (by decide) ?_
    refine lv_goto (tgt := 49) hx hb dX1_clothLacks_8 (by decide) ?_
    exact W.iret (v := 1) hx hb hr (fun t ht hW => ⟨1, rfl, by unfold lkM; rw [if_pos h4]; rfl, ht⟩) hS.2.2 dX1_clothLacks_49
set_option maxHeartbeats 4000000 in
set_option maxRecDepth 100000 in
theorem k_X1_cell (l : Launch) (dC : Nat → ClassId) (dI : Nat → Nat → Nat) (cyI cyZ : ClassId) (H0 : Heap) (p0 p1 p2 p3 p4 : Nat) (mn me ml mt : Nat → Int32) (th wo mr mo mk mz mq : Int32) (hP : va_P (dC, dI) vwCl (wM cyI cyZ p0 p1 p2 p3 p4 mn me ml mt th wo mr mo mk mz mq) H0) (hD0 : va_D (fun _ => True) (wM cyI cyZ p0 p1 p2 p3 p4 mn me ml mt th wo mr mo mk mz mq)) (x : Int32) (y : Int32) (hmr : mr ≤ nI 40) (hmo : mo ≤ nI 40) : Met l yX1_cell wsX1_cell ({ frames := 2, cells := 0, slots := 0, locals := 43 }) (va_Pc [.ref p0, .int x, .int y] (pK dC dI (tyW cyI cyZ) H0)) (va_Qi (fun (r : Int32) (u : Int32) => match u with | th2 => th2 = nI (lkM wo mr mo mt x y) ∧ (lkM wo mr mo mt x y = 0 → ∃ ro j : Nat, ro < 40 ∧ x = nI ro ∧ j < 40 ∧ y = nI j ∧ r = ml (40 * ro + j))) (fun (u : Int32) (t : State) => match u with | th2 => va_P (dC, dI) vwCl (wM cyI cyZ p0 p1 p2 p3 p4 mn me ml mt th2 wo mr mo mk mz mq) t.heap) (va_A (wM cyI cyZ p0 p1 p2 p3 p4 mn me ml mt th wo mr mo mk mz mq) H0.size)) 0 0 (va_A (wM cyI cyZ p0 p1 p2 p3 p4 mn me ml mt th wo mr mo mk mz mq) H0.size) := by
  refine Met.ofW (cc := cX1_cell) (maxL := 3) (ret := (some .int)) (by decide) rfl ?_
  intro p e s m args below meth c s₁ B hml hv
  obtain ⟨rfl, rfl, hK⟩ := hv
  have hx := B.exec
  have hb := B.bytes
  have hr := B.returns
  have hts := atoms_spec (ws := wsX1_cell) B.pre
  have hown : s.vm.findClass RX1 = some m.cls := findClass_of_methodNamed B.named
  have hlocks := B.notSynchronized
  have hD := hD0.self (sz := s.heap.size)
  generalize hAe : (va_A (wM cyI cyZ p0 p1 p2 p3 p4 mn me ml mt th wo mr mo mk mz mq) s.heap.size) = A at hD ⊢
  have hA : ∀ q : Nat, s.heap.size ≤ q → A q := fun q h => by rw [← hAe]; exact Or.inr h
  have hS : va_S A s.heap s.heap [] := va_S.rf
  have hl := lv_entry ([.ref p0, .int x, .int y]) (n := 3) (Nat.le_of_ble_eq_true rfl)
  rw [lg_entry_eq]
  generalize (lg_sl ([.ref p0, .int x, .int y]) ++ List.replicate (3 - (lg_sl ([.ref p0, .int x, .int y])).length) Slot.unset).toArray = ls at hl ⊢
  have hl : lv_has ls 3 [(0, .ref p0), (1, .int x), (2, .int y)] := hl
  have iw : ∀ w ∈ wsX10, w ∈ wsX1_cell := by decide +kernel
  refine lv_aload_n hx hb dX1_cell_0 rfl (lv_at hl 0 rfl) ?_
  refine lv_aload_n hx hb dX1_cell_1 rfl (lv_at hl 0 rfl) ?_
  refine lv_iload_n hx hb dX1_cell_2 rfl (lv_at hl 1 rfl) ?_
  refine lv_iload_n hx hb dX1_cell_3 rfl (lv_at hl 2 rfl) ?_
  refine gx_calli (va_runV (As := [.int x, .int y]) (rest := [.ref p0]) ⟨hx, hb, hml, hown, hts⟩ (k_X1_clothLacks l dC dI cyI cyZ _ p0 p1 p2 p3 p4 mn me ml mt th wo mr mo mk mz mq hP (hD.weaken (fun _ _ _ _ => trivial)) x y hmr) (cwV 2 hts gX1_cell_X1_clothLacks rfl rfl rfl (by decide +kernel) ⟨Nat.le_of_ble_eq_true rfl, Nat.le_of_ble_eq_true rfl⟩) (pK_V hK (va_recv hK hP (ci := 1) (q0 := 0) rfl rfl)) rfl rfl hl.1 rfl (lv_room (Nat.le_of_ble_eq_true rfl)) dX1_cell_4 ⟨Nat.le_of_ble_eq_true rfl, Nat.le_of_ble_eq_true rfl⟩) (fun r_1 hr_1 => ?_)
  subst hr_1
  refine va_put (D := (dC, dI)) (ci := 1) (v := .int (nI (lkM wo mr mo mt x y))) (ty := .int) (C := RX1) (T := TX1) (N := 11) hx hb hts iw tyX1 tyX1_ok nmX1 hown hK hP hD hS 0 rfl rfl 0 (by decide) (hts (.fieldLink RX1 23 "ReelLoomModel" "thrown" "I") (by decide +kernel)) (fun _ h9 => h9) rfl (by decide +kernel) rfl rfl (Nat.le_of_ble_eq_true rfl) dX1_cell_7 (fun H locs hP hD hS => ?_)
  have hP : va_P (dC, dI) vwCl (wM cyI cyZ p0 p1 p2 p3 p4 mn me ml mt (nI (lkM wo mr mo mt x y)) wo mr mo mk mz mq) H := hP
  have hD : va_D A (wM cyI cyZ p0 p1 p2 p3 p4 mn me ml mt (nI (lkM wo mr mo mt x y)) wo mr mo mk mz mq) := hD
  refine lv_aload_n hx hb dX1_cell_10 rfl (lv_at hl 0 rfl) ?_
  refine va_get (D := (dC, dI)) (ci := 1) (v := .int (nI (lkM wo mr mo mt x y))) (C := RX1) (T := TX1) (N := 11) hx hb hts iw hown hK hP 0 rfl rfl 0 (by decide) (hts (.fieldLink RX1 23 "ReelLoomModel" "thrown" "I") (by decide +kernel)) (fun _ h9 => h9) rfl dX1_cell_11 ?_
  refine lv_if_ne (tgt := 31) hx hb dX1_cell_14 (by decide) (fun h14 => ?_) (fun h14 => ?_)
  · skip
    refine lv_iconst (v := 0) hx hb dX1_cell_31 (by decide) ?_
    exact W.iret (v := 0) hx hb hr (fun t ht hW => ⟨⟨0, nI (lkM wo mr mo mt x y), rfl, ⟨rfl, fun h => absurd (by rw [h]; rfl) h14⟩, by show va_P (dC, dI) vwCl (wM cyI cyZ p0 p1 p2 p3 p4 mn me ml mt (nI (lkM wo mr mo mt x y)) wo mr mo mk mz mq) t.heap; rw [ht]; exact hP⟩, hS.F ht⟩) hS.2.2 dX1_cell_32
  · skip
    have hlk := nI_z (Nat.lt_of_lt_of_le (lkM_lt _ _ _ _ _ _) (by decide)) h14
    obtain ⟨k1, k2, k3, k4⟩ := lkM_0 hlk
    obtain ⟨ro, hro, rfl⟩ := in_of (n := 40) (by decide) k2.1 (i_lt k2.2 hmr)
    obtain ⟨j, hj, rfl⟩ := in_of (n := 40) (by decide) k4.1 (i_lt k4.2 hmo)
    refine lv_aload_n hx hb dX1_cell_17 rfl (lv_at hl 0 rfl) ?_
    refine va_get (D := (dC, dI)) (ci := 1) (v := .ref p3) (C := RX1) (T := TX1) (N := 11) hx hb hts iw hown hK hP 0 rfl rfl 6 (by decide) (hts (.fieldLink RX1 16 "ReelLoomModel" "cloth" "[I") (by decide +kernel)) (fun _ h9 => h9) rfl dX1_cell_18 ?_
    refine lv_bipush (v := nI 40) hx hb dX1_cell_21 (by decide) ?_
    refine lv_iload_n hx hb dX1_cell_23 rfl (lv_at hl 1 rfl) ?_
    refine lv_imul hx hb dX1_cell_24 ?_
    rw [pk_mul]
    refine lv_iload_n hx hb dX1_cell_25 rfl (lv_at hl 2 rfl) ?_
    refine lv_iadd hx hb dX1_cell_26 ?_
    rw [nI_add]
    refine va_iald hx hb hK hP 3 0 rfl rfl (vp_in_nI (by omega) (by omega)) dX1_cell_27 ?_
    rw [nI_clamp (show ((40 * ro) + j) < 2 ^ 31 by omega)]
    refine lv_goto (tgt := 32) hx hb dX1_cell_28 (by decide) ?_
    exact W.iret (v := (ml (((40 * ro) + j)))) hx hb hr (fun t ht hW => ⟨⟨(ml (((40 * ro) + j))), nI (lkM wo mr mo mt (nI ro) (nI j)), rfl, ⟨rfl, fun _ => ⟨ro, j, hro, rfl, hj, rfl, rfl⟩⟩, by show va_P (dC, dI) vwCl (wM cyI cyZ p0 p1 p2 p3 p4 mn me ml mt (nI (lkM wo mr mo mt (nI ro) (nI j))) wo mr mo mk mz mq) t.heap; rw [ht]; exact hP⟩, hS.F ht⟩) hS.2.2 dX1_cell_32
set_option maxHeartbeats 4000000 in
set_option maxRecDepth 100000 in
theorem k_X1_dye (l : Launch) (dC : Nat → ClassId) (dI : Nat → Nat → Nat) (cyI cyZ : ClassId) (H0 : Heap) (p0 p1 p2 p3 p4 : Nat) (mn me ml mt : Nat → Int32) (th wo mr mo mk mz mq : Int32) (hP : va_P (dC, dI) vwCl (wM cyI cyZ p0 p1 p2 p3 p4 mn me ml mt th wo mr mo mk mz mq) H0) (hD0 : va_D (fun _ => True) (wM cyI cyZ p0 p1 p2 p3 p4 mn me ml mt th wo mr mo mk mz mq)) (x : Int32) (y : Int32) (h : Int32) (v : Int32) (hmr : mr ≤ nI 40) (hmo : mo ≤ nI 40) : Met l yX1_dye wsX1_dye ({ frames := 2, cells := 0, slots := 0, locals := 43 }) (va_Pc [.ref p0, .int x, .int y, .int h, .int v] (pK dC dI (tyW cyI cyZ) H0)) (va_Qi (fun (r : Int32) (u : Int32 × (Nat → Int32)) => match u with | (th2, ml2) => (¬ okH h ∧ th2 = 1 ∧ ml2 = ml) ∨ (okH h ∧ ((lkM wo mr mo mt x y = 1 ∧ th2 = 2 ∧ ml2 = ml) ∨ (lkM wo mr mo mt x y = 2 ∧ th2 = 3 ∧ ml2 = ml) ∨ (lkM wo mr mo mt x y = 0 ∧ th2 = 0 ∧ ∃ ro j : Nat, ro < 40 ∧ x = nI ro ∧ j < 40 ∧ y = nI j ∧ r = cb (ml (40 * ro + j)) h v ∧ ml2 = upd ml (40 * ro + j) (cb (ml (40 * ro + j)) h v))))) (fun (u : Int32 × (Nat → Int32)) (t : State) => match u with | (th2, ml2) => va_P (dC, dI) vwCl (wM cyI cyZ p0 p1 p2 p3 p4 mn me ml2 mt th2 wo mr mo mk mz mq) t.heap) (va_A (wM cyI cyZ p0 p1 p2 p3 p4 mn me ml mt th wo mr mo mk mz mq) H0.size)) 0 0 (va_A (wM cyI cyZ p0 p1 p2 p3 p4 mn me ml mt th wo mr mo mk mz mq) H0.size) := by
  refine Met.ofW (cc := cX1_dye) (maxL := 6) (ret := (some .int)) (by decide) rfl ?_
  intro p e s m args below meth c s₁ B hml hv
  obtain ⟨rfl, rfl, hK⟩ := hv
  have hx := B.exec
  have hb := B.bytes
  have hr := B.returns
  have hts := atoms_spec (ws := wsX1_dye) B.pre
  have hown : s.vm.findClass RX1 = some m.cls := findClass_of_methodNamed B.named
  have hlocks := B.notSynchronized
  have hD := hD0.self (sz := s.heap.size)
  generalize hAe : (va_A (wM cyI cyZ p0 p1 p2 p3 p4 mn me ml mt th wo mr mo mk mz mq) s.heap.size) = A at hD ⊢
  have hA : ∀ q : Nat, s.heap.size ≤ q → A q := fun q h => by rw [← hAe]; exact Or.inr h
  have hS : va_S A s.heap s.heap [] := va_S.rf
  have hl := lv_entry ([.ref p0, .int x, .int y, .int h, .int v]) (n := 6) (Nat.le_of_ble_eq_true rfl)
  rw [lg_entry_eq]
  generalize (lg_sl ([.ref p0, .int x, .int y, .int h, .int v]) ++ List.replicate (6 - (lg_sl ([.ref p0, .int x, .int y, .int h, .int v])).length) Slot.unset).toArray = ls at hl ⊢
  have hl : lv_has ls 6 [(0, .ref p0), (1, .int x), (2, .int y), (3, .int h), (4, .int v)] := hl
  have iw : ∀ w ∈ wsX10, w ∈ wsX1_dye := by decide +kernel
  refine lv_aload_n hx hb dX1_dye_0 rfl (lv_at hl 0 rfl) ?_
  refine lv_iload_n hx hb dX1_dye_1 rfl (lv_at hl 3 rfl) ?_
  refine gx_calli (va_runS (As := [.int h]) (rest := [.ref p0]) ⟨hx, hb, hml, hown, hts⟩ (k_X1_isHow l dC dI  _   h ) (va_cwS 1 hts gX1_dye_X1_isHow rfl rfl rfl (by decide +kernel) ⟨Nat.le_of_ble_eq_true rfl, Nat.le_of_ble_eq_true rfl⟩) (pK_S (hK.sub (tys' := []) [] rfl)) rfl rfl hl.1 rfl (lv_room (Nat.le_of_ble_eq_true rfl)) dX1_dye_2 ⟨Nat.le_of_ble_eq_true rfl, Nat.le_of_ble_eq_true rfl⟩) (fun r2 hr2 => ?_)
  refine lv_if_ne (tgt := 12) hx hb dX1_dye_5 (by decide) (fun h5 => ?_) (fun h5 => ?_)
  · skip
    have hs := (hr2.resolve_right (fun a => h5 a.1)).2
    refine lv_iconst (v := 0) hx hb dX1_dye_12 (by decide) ?_
    refine lv_aload_n hx hb dX1_dye_13 rfl (lv_at hl 0 rfl) ?_
    refine lv_iload_n hx hb dX1_dye_14 rfl (lv_at hl 1 rfl) ?_
    refine lv_iload_n hx hb dX1_dye_15 rfl (lv_at hl 2 rfl) ?_
    refine gx_calli (va_runV (As := [.int x, .int y]) (rest := [.int 0, .ref p0]) ⟨hx, hb, hml, hown, hts⟩ (k_X1_clothLacks l dC dI cyI cyZ _ p0 p1 p2 p3 p4 mn me ml mt th wo mr mo mk mz mq hP (hD.weaken (fun _ _ _ _ => trivial)) x y hmr) (cwV 2 hts gX1_dye_X1_clothLacks rfl rfl rfl (by decide +kernel) ⟨Nat.le_of_ble_eq_true rfl, Nat.le_of_ble_eq_true rfl⟩) (pK_V hK (va_recv hK hP (ci := 1) (q0 := 0) rfl rfl)) rfl rfl hl.1 rfl (lv_room (Nat.le_of_ble_eq_true rfl)) dX1_dye_16 ⟨Nat.le_of_ble_eq_true rfl, Nat.le_of_ble_eq_true rfl⟩) (fun r_3 hr_3 => ?_)
    subst hr_3
    have hFc := va_free (wc := wM cyI cyZ p0 p1 p2 p3 p4 mn me ml mt th wo mr mo mk mz mq) hD hS hA [0, 1, 2, 3, 4] rfl
    refine va_calli (va_runV (As := [.int 0, .int (nI (lkM wo mr mo mt x y))]) (rest := []) ⟨hx, hb, hml, hown, hts⟩ (k_X1_refuses l dC dI cyI cyZ _ p0 p1 p2 p3 p4 mn me ml mt th wo mr mo mk mz mq hP (hD.weaken (fun _ _ _ _ => trivial)) 0 (nI (lkM wo mr mo mt x y)) ) (cwV 2 hts gX1_dye_X1_refuses rfl rfl rfl (by decide +kernel) ⟨Nat.le_of_ble_eq_true rfl, Nat.le_of_ble_eq_true rfl⟩) (pK_V hK (va_recv hK hP (ci := 1) (q0 := 0) rfl rfl)) rfl rfl hl.1 rfl (lv_room (Nat.le_of_ble_eq_true rfl)) dX1_dye_19 ⟨Nat.le_of_ble_eq_true rfl, Nat.le_of_ble_eq_true rfl⟩) hS (fun q _ h => hFc q h) hFc (fun r19 u t H1 locs ht hvm hw hB hz1 hk1 hS => ?_)
    obtain ⟨th19, rfl⟩ : ∃ z, z = u := ⟨_, rfl⟩
    dsimp only at hw
    have hP : va_P (dC, dI) vwCl (wM cyI cyZ p0 p1 p2 p3 p4 mn me ml mt th19 wo mr mo mk mz mq) t.heap := hB
    rw [ht] at hP
    have hD : va_D A (wM cyI cyZ p0 p1 p2 p3 p4 mn me ml mt th19 wo mr mo mk mz mq) := wM_D hD
    clear hB
    generalize H1 = H at hP hS ⊢
    refine lv_if_eq (tgt := 27) hx hb dX1_dye_22 (by decide) (fun h22 => ?_) (fun h22 => ?_)
    · skip
      obtain ⟨htt, hlk⟩ := rfz_t hw (lkM_lt _ _ _ _ _ _) h22
      have hlk0 := hlk
      obtain ⟨k1, k2, k3, k4⟩ := lkM_0 hlk
      obtain ⟨ro, hro, rfl⟩ := in_of (n := 40) (by decide) k2.1 (i_lt k2.2 hmr)
      obtain ⟨j, hj, rfl⟩ := in_of (n := 40) (by decide) k4.1 (i_lt k4.2 hmo)
      refine lv_bipush (v := nI 40) hx hb dX1_dye_27 (by decide) ?_
      refine lv_iload_n hx hb dX1_dye_29 rfl (lv_at hl 1 rfl) ?_
      refine lv_imul hx hb dX1_dye_30 ?_
      rw [pk_mul]
      refine lv_iload_n hx hb dX1_dye_31 rfl (lv_at hl 2 rfl) ?_
      refine lv_iadd hx hb dX1_dye_32 ?_
      rw [nI_add]
      refine lv_istore (lv' := [(5, .int (nI ((40 * ro) + j))), (0, .ref p0), (1, .int (nI ro)), (2, .int (nI j)), (3, .int h), (4, .int v)]) hx hb dX1_dye_33 hl (by decide) rfl (fun ls hl => ?_)
      refine lv_aload_n hx hb dX1_dye_35 rfl (lv_at hl 1 rfl) ?_
      refine va_get (D := (dC, dI)) (ci := 1) (v := .ref p3) (C := RX1) (T := TX1) (N := 11) hx hb hts iw hown hK hP 0 rfl rfl 6 (by decide) (hts (.fieldLink RX1 16 "ReelLoomModel" "cloth" "[I") (by decide +kernel)) (fun _ h9 => h9) rfl dX1_dye_36 ?_
      refine lv_iload hx hb dX1_dye_39 (lv_at hl 0 rfl) ?_
      refine lv_aload_n hx hb dX1_dye_41 rfl (lv_at hl 1 rfl) ?_
      refine va_get (D := (dC, dI)) (ci := 1) (v := .ref p3) (C := RX1) (T := TX1) (N := 11) hx hb hts iw hown hK hP 0 rfl rfl 6 (by decide) (hts (.fieldLink RX1 16 "ReelLoomModel" "cloth" "[I") (by decide +kernel)) (fun _ h9 => h9) rfl dX1_dye_42 ?_
      refine lv_iload hx hb dX1_dye_45 (lv_at hl 0 rfl) ?_
      refine va_iald hx hb hK hP 3 0 rfl rfl (vp_in_nI (by omega) (by omega)) dX1_dye_47 ?_
      rw [nI_clamp (show ((40 * ro) + j) < 2 ^ 31 by omega)]
      refine lv_iload_n hx hb dX1_dye_48 rfl (lv_at hl 4 rfl) ?_
      refine lv_iload hx hb dX1_dye_49 (lv_at hl 5 rfl) ?_
      refine gx_calli (va_runS (As := [.int (ml (((40 * ro) + j))), .int h, .int v]) (rest := [.int (nI ((40 * ro) + j)), .ref p3]) ⟨hx, hb, hml, hown, hts⟩ (k_X1_altered l dC dI  _   (ml (((40 * ro) + j))) h v ) (va_cwS 3 hts gX1_dye_X1_altered rfl rfl rfl (by decide +kernel) ⟨Nat.le_of_ble_eq_true rfl, Nat.le_of_ble_eq_true rfl⟩) (pK_S (hK.sub (tys' := []) [] rfl)) rfl rfl hl.1 rfl (lv_room (Nat.le_of_ble_eq_true rfl)) dX1_dye_51 ⟨Nat.le_of_ble_eq_true rfl, Nat.le_of_ble_eq_true rfl⟩) (fun r_6 hr_6 => ?_)
      subst hr_6
      refine va_iast hx hb hK hP hD hS 3 0 rfl rfl (vp_in_nI (by omega) (by omega)) dX1_dye_54 (fun H locs hP hD hS => ?_)
      rw [nI_clamp (show ((40 * ro) + j) < 2 ^ 31 by omega)] at hP hD
      have hP : va_P (dC, dI) vwCl (wM cyI cyZ p0 p1 p2 p3 p4 mn me (upd ml (((40 * ro) + j)) (cb ((ml (((40 * ro) + j)))) h v)) mt th19 wo mr mo mk mz mq) H := hP
      have hD : va_D A (wM cyI cyZ p0 p1 p2 p3 p4 mn me (upd ml (((40 * ro) + j)) (cb ((ml (((40 * ro) + j)))) h v)) mt th19 wo mr mo mk mz mq) := hD
      refine lv_aload_n hx hb dX1_dye_55 rfl (lv_at hl 1 rfl) ?_
      refine va_get (D := (dC, dI)) (ci := 1) (v := .ref p3) (C := RX1) (T := TX1) (N := 11) hx hb hts iw hown hK hP 0 rfl rfl 6 (by decide) (hts (.fieldLink RX1 16 "ReelLoomModel" "cloth" "[I") (by decide +kernel)) (fun _ h9 => h9) rfl dX1_dye_56 ?_
      refine lv_iload hx hb dX1_dye_59 (lv_at hl 0 rfl) ?_
      refine va_iald hx hb hK hP 3 0 rfl rfl (vp_in_nI (by omega) (by omega)) dX1_dye_61 ?_
      rw [nI_clamp (show ((40 * ro) + j) < 2 ^ 31 by omega)]
      exact W.iret (v := ((upd ml (((40 * ro) + j)) (cb ((ml (((40 * ro) + j)))) h v)) (((40 * ro) + j)))) hx hb hr (fun t ht hW => ⟨⟨((upd ml (((40 * ro) + j)) (cb ((ml (((40 * ro) + j)))) h v)) (((40 * ro) + j))), (th19, upd ml (((40 * ro) + j)) (cb ((ml (((40 * ro) + j)))) h v)), rfl, Or.inr ⟨hs, Or.inr (Or.inr ⟨hlk0, htt, ro, j, hro, rfl, hj, rfl, pk_us, rfl⟩)⟩, by show va_P (dC, dI) vwCl (wM cyI cyZ p0 p1 p2 p3 p4 mn me (upd ml (((40 * ro) + j)) (cb ((ml (((40 * ro) + j)))) h v)) mt th19 wo mr mo mk mz mq) t.heap; rw [ht]; exact hP⟩, hS.F ht⟩) hS.2.2 dX1_dye_62
    · skip
      have htt := rfz_f hw (lkM_lt _ _ _ _ _ _) h22
      refine lv_iconst (v := 0) hx hb dX1_dye_25 (by decide) ?_
      exact W.iret (v := 0) hx hb hr (fun t ht hW => ⟨⟨0, (th19, ml), rfl, Or.inr ⟨hs, htt.elim (fun a => Or.inl ⟨a.1, a.2, rfl⟩) (fun a => Or.inr (Or.inl ⟨a.1, a.2, rfl⟩))⟩, by show va_P (dC, dI) vwCl (wM cyI cyZ p0 p1 p2 p3 p4 mn me ml mt th19 wo mr mo mk mz mq) t.heap; rw [ht]; exact hP⟩, hS.F ht⟩) hS.2.2 dX1_dye_26
  · skip
    have hs := (hr2.resolve_left (fun a => absurd (a.1.symm.trans h5) (by decide))).2
    refine lv_iconst (v := 1) hx hb dX1_dye_8 (by decide) ?_
    refine lv_goto (tgt := 13) hx hb dX1_dye_9 (by decide) ?_
    refine lv_aload_n hx hb dX1_dye_13 rfl (lv_at hl 0 rfl) ?_
    refine lv_iload_n hx hb dX1_dye_14 rfl (lv_at hl 1 rfl) ?_
    refine lv_iload_n hx hb dX1_dye_15 rfl (lv_at hl 2 rfl) ?_
    refine gx_calli (va_runV (As := [.int x, .int y]) (rest := [.int 1, .ref p0]) ⟨hx, hb, hml, hown, hts⟩ (k_X1_clothLacks l dC dI cyI cyZ _ p0 p1 p2 p3 p4 mn me ml mt th wo mr mo mk mz mq hP (hD.weaken (fun _ _ _ _ => trivial)) x y hmr) (cwV 2 hts gX1_dye_X1_clothLacks rfl rfl rfl (by decide +kernel) ⟨Nat.le_of_ble_eq_true rfl, Nat.le_of_ble_eq_true rfl⟩) (pK_V hK (va_recv hK hP (ci := 1) (q0 := 0) rfl rfl)) rfl rfl hl.1 rfl (lv_room (Nat.le_of_ble_eq_true rfl)) dX1_dye_16 ⟨Nat.le_of_ble_eq_true rfl, Nat.le_of_ble_eq_true rfl⟩) (fun r_7 hr_7 => ?_)
    subst hr_7
    have hFc := va_free (wc := wM cyI cyZ p0 p1 p2 p3 p4 mn me ml mt th wo mr mo mk mz mq) hD hS hA [0, 1, 2, 3, 4] rfl
    refine va_calli (va_runV (As := [.int 1, .int (nI (lkM wo mr mo mt x y))]) (rest := []) ⟨hx, hb, hml, hown, hts⟩ (k_X1_refuses l dC dI cyI cyZ _ p0 p1 p2 p3 p4 mn me ml mt th wo mr mo mk mz mq hP (hD.weaken (fun _ _ _ _ => trivial)) 1 (nI (lkM wo mr mo mt x y)) ) (cwV 2 hts gX1_dye_X1_refuses rfl rfl rfl (by decide +kernel) ⟨Nat.le_of_ble_eq_true rfl, Nat.le_of_ble_eq_true rfl⟩) (pK_V hK (va_recv hK hP (ci := 1) (q0 := 0) rfl rfl)) rfl rfl hl.1 rfl (lv_room (Nat.le_of_ble_eq_true rfl)) dX1_dye_19 ⟨Nat.le_of_ble_eq_true rfl, Nat.le_of_ble_eq_true rfl⟩) hS (fun q _ h => hFc q h) hFc (fun r19 u t H1 locs ht hvm hw hB hz1 hk1 hS => ?_)
    obtain ⟨th19, rfl⟩ : ∃ z, z = u := ⟨_, rfl⟩
    dsimp only at hw
    have hP : va_P (dC, dI) vwCl (wM cyI cyZ p0 p1 p2 p3 p4 mn me ml mt th19 wo mr mo mk mz mq) t.heap := hB
    rw [ht] at hP
    have hD : va_D A (wM cyI cyZ p0 p1 p2 p3 p4 mn me ml mt th19 wo mr mo mk mz mq) := wM_D hD
    clear hB
    generalize H1 = H at hP hS ⊢
    refine lv_if_eq (tgt := 27) hx hb dX1_dye_22 (by decide) (fun h22 => ?_) (fun h22 => ?_)
    · skip
      exact absurd ((mg_b hw).2.symm.trans h22) (by decide)
    · skip
      have htt := (mg_b hw).1
      refine lv_iconst (v := 0) hx hb dX1_dye_25 (by decide) ?_
      exact W.iret (v := 0) hx hb hr (fun t ht hW => ⟨⟨0, (th19, ml), rfl, Or.inl ⟨hs, htt, rfl⟩, by show va_P (dC, dI) vwCl (wM cyI cyZ p0 p1 p2 p3 p4 mn me ml mt th19 wo mr mo mk mz mq) t.heap; rw [ht]; exact hP⟩, hS.F ht⟩) hS.2.2 dX1_dye_26
set_option maxHeartbeats 4000000 in
set_option maxRecDepth 100000 in
theorem k_X1_rowLacks (l : Launch) (dC : Nat → ClassId) (dI : Nat → Nat → Nat) (cyI cyZ : ClassId) (H0 : Heap) (p0 p1 p2 p3 p4 : Nat) (mn me ml mt : Nat → Int32) (th wo mr mo mk mz mq : Int32) (hP : va_P (dC, dI) vwCl (wM cyI cyZ p0 p1 p2 p3 p4 mn me ml mt th wo mr mo mk mz mq) H0) (hD0 : va_D (fun _ => True) (wM cyI cyZ p0 p1 p2 p3 p4 mn me ml mt th wo mr mo mk mz mq)) (x : Int32) (hmr : mr ≤ nI 40) : Met l yX1_rowLacks wsX1_rowLacks ({ frames := 1, cells := 0, slots := 0, locals := 21 }) (va_Pc [.ref p0, .int x] (pK dC dI (tyW cyI cyZ) H0)) (gx_Qi (fun r : Int32 => r = nI (rlk mr mt x)) H0) 0 0 (gx_new H0) := by
  refine Met.ofW (cc := cX1_rowLacks) (maxL := 2) (ret := (some .int)) (by decide) rfl ?_
  intro p e s m args below meth c s₁ B hml hv
  obtain ⟨rfl, rfl, hK⟩ := hv
  have hx := B.exec
  have hb := B.bytes
  have hr := B.returns
  have hts := atoms_spec (ws := wsX1_rowLacks) B.pre
  have hown : s.vm.findClass RX1 = some m.cls := findClass_of_methodNamed B.named
  have hlocks := B.notSynchronized
  have hD := hD0.self (sz := s.heap.size)
  generalize hAe : (gx_new s.heap) = A at ⊢
  have hA : ∀ q : Nat, s.heap.size ≤ q → A q := fun q h => by rw [← hAe]; exact h
  have hS : va_S A s.heap s.heap [] := va_S.rf
  have hl := lv_entry ([.ref p0, .int x]) (n := 2) (Nat.le_of_ble_eq_true rfl)
  rw [lg_entry_eq]
  generalize (lg_sl ([.ref p0, .int x]) ++ List.replicate (2 - (lg_sl ([.ref p0, .int x])).length) Slot.unset).toArray = ls at hl ⊢
  have hl : lv_has ls 2 [(0, .ref p0), (1, .int x)] := hl
  have iw : ∀ w ∈ wsX10, w ∈ wsX1_rowLacks := by decide +kernel
  refine lv_aload_n hx hb dX1_rowLacks_0 rfl (lv_at hl 0 rfl) ?_
  refine lv_iload_n hx hb dX1_rowLacks_1 rfl (lv_at hl 1 rfl) ?_
  refine gx_calli (va_runV (As := [.int x]) (rest := []) ⟨hx, hb, hml, hown, hts⟩ (k_X1_isRow l dC dI cyI cyZ _ p0 p1 p2 p3 p4 mn me ml mt th wo mr mo mk mz mq hP (hD.weaken (fun _ _ _ _ => trivial)) x ) (cwV 1 hts gX1_rowLacks_X1_isRow rfl rfl rfl (by decide +kernel) ⟨Nat.le_of_ble_eq_true rfl, Nat.le_of_ble_eq_true rfl⟩) (pK_V hK (va_recv hK hP (ci := 1) (q0 := 0) rfl rfl)) rfl rfl hl.1 rfl (lv_room (Nat.le_of_ble_eq_true rfl)) dX1_rowLacks_2 ⟨Nat.le_of_ble_eq_true rfl, Nat.le_of_ble_eq_true rfl⟩) (fun r2 hr2 => ?_)
  refine lv_if_ne (tgt := 12) hx hb dX1_rowLacks_5 (by decide) (fun h5 => ?_) (fun h5 => ?_)
  · skip
    have hrow := (hr2.resolve_right (fun a => h5 a.1)).2
    obtain ⟨ro, hro, rfl⟩ := in_of (n := 40) (by decide) hrow.1 (i_lt hrow.2 hmr)
    have e9 : (nI ro).toNatClampNeg = ro := nI_clamp (by omega)
    refine lv_aload_n hx hb dX1_rowLacks_12 rfl (lv_at hl 0 rfl) ?_
    refine va_get (D := (dC, dI)) (ci := 1) (v := .ref p4) (C := RX1) (T := TX1) (N := 11) hx hb hts iw hown hK hP 0 rfl rfl 7 (by decide) (hts (.fieldLink RX1 19 "ReelLoomModel" "isCut" "[Z") (by decide +kernel)) (fun _ h9 => h9) rfl dX1_rowLacks_13 ?_
    refine lv_iload_n hx hb dX1_rowLacks_16 rfl (lv_at hl 1 rfl) ?_
    refine va_zald hx hb hK hP 4 1 rfl rfl (vp_in_nI (by omega) (by omega)) dX1_rowLacks_17 ?_
    rw [nI_clamp (show ro < 2 ^ 31 by omega)]
    refine lv_if_eq (tgt := 25) hx hb dX1_rowLacks_18 (by decide) (fun h18 => ?_) (fun h18 => ?_)
    · skip
      refine lv_iconst (v := 0) hx hb dX1_rowLacks_25 (by decide) ?_
      exact W.iret (v := 0) hx hb hr (fun t ht hW => ⟨0, rfl, by rw [show rlk mr mt (nI ro) = 0 from (by unfold rlk; rw [if_neg (not_not_intro hrow), e9, if_neg (not_not_intro h18)])]; rfl, ht⟩) hS.2.2 dX1_rowLacks_26
    · skip
      refine lv_iconst (v := 1) hx hb dX1_rowLacks_21 (by decide) ?_
      refine lv_goto (tgt := 26) hx hb dX1_rowLacks_22 (by decide) ?_
      exact W.iret (v := 1) hx hb hr (fun t ht hW => ⟨1, rfl, by rw [show rlk mr mt (nI ro) = 1 from (by unfold rlk; rw [if_neg (not_not_intro hrow), e9, if_pos h18])]; rfl, ht⟩) hS.2.2 dX1_rowLacks_26
  · skip
    have hrow := (hr2.resolve_left (fun a => absurd (a.1.symm.trans h5) (by decide))).2
    refine lv_iconst (v := 2) hx hb dX1_rowLacks_8 (by decide) ?_
    refine lv_goto (tgt := 26) hx hb dX1_rowLacks_9 (by decide) ?_
    exact W.iret (v := 2) hx hb hr (fun t ht hW => ⟨2, rfl, by rw [show rlk mr mt x = 2 from (by unfold rlk; rw [if_pos hrow])]; rfl, ht⟩) hS.2.2 dX1_rowLacks_26
set_option maxHeartbeats 4000000 in
set_option maxRecDepth 100000 in
theorem k_X1_seam (l : Launch) (dC : Nat → ClassId) (dI : Nat → Nat → Nat) (cyI cyZ : ClassId) (H0 : Heap) (p0 p1 p2 p3 p4 : Nat) (mn me ml mt : Nat → Int32) (th wo mr mo mk mz mq : Int32) (hP : va_P (dC, dI) vwCl (wM cyI cyZ p0 p1 p2 p3 p4 mn me ml mt th wo mr mo mk mz mq) H0) (hD0 : va_D (fun _ => True) (wM cyI cyZ p0 p1 p2 p3 p4 mn me ml mt th wo mr mo mk mz mq)) (x : Int32) (y : Int32) (hmr : mr ≤ nI 40) (hmo : mo ≤ nI 40) : Met l yX1_seam wsX1_seam ({ frames := 2, cells := 0, slots := 0, locals := 42 }) (va_Pc [.ref p0, .int x, .int y] (pK dC dI (tyW cyI cyZ) H0)) (va_Qi (fun (r : Int32) (u : Int32) => match u with | th2 => th2 = nI (lkSM wo mr mt x y) ∧ (lkSM wo mr mt x y = 0 → ∃ ra rb : Nat, ra < 40 ∧ x = nI ra ∧ rb < 40 ∧ y = nI rb ∧ r = nSameM ml ra rb mo.toNatClampNeg)) (fun (u : Int32) (t : State) => match u with | th2 => va_P (dC, dI) vwCl (wM cyI cyZ p0 p1 p2 p3 p4 mn me ml mt th2 wo mr mo mk mz mq) t.heap) (va_A (wM cyI cyZ p0 p1 p2 p3 p4 mn me ml mt th wo mr mo mk mz mq) H0.size)) 0 0 (va_A (wM cyI cyZ p0 p1 p2 p3 p4 mn me ml mt th wo mr mo mk mz mq) H0.size) := by
  refine Met.ofW (cc := cX1_seam) (maxL := 5) (ret := (some .int)) (by decide) rfl ?_
  intro p e s m args below meth c s₁ B hml hv
  obtain ⟨rfl, rfl, hK⟩ := hv
  have hx := B.exec
  have hb := B.bytes
  have hr := B.returns
  have hts := atoms_spec (ws := wsX1_seam) B.pre
  have hown : s.vm.findClass RX1 = some m.cls := findClass_of_methodNamed B.named
  have hlocks := B.notSynchronized
  have hD := hD0.self (sz := s.heap.size)
  generalize hAe : (va_A (wM cyI cyZ p0 p1 p2 p3 p4 mn me ml mt th wo mr mo mk mz mq) s.heap.size) = A at hD ⊢
  have hA : ∀ q : Nat, s.heap.size ≤ q → A q := fun q h => by rw [← hAe]; exact Or.inr h
  have hS : va_S A s.heap s.heap [] := va_S.rf
  have hl := lv_entry ([.ref p0, .int x, .int y]) (n := 5) (Nat.le_of_ble_eq_true rfl)
  rw [lg_entry_eq]
  generalize (lg_sl ([.ref p0, .int x, .int y]) ++ List.replicate (5 - (lg_sl ([.ref p0, .int x, .int y])).length) Slot.unset).toArray = ls at hl ⊢
  have hl : lv_has ls 5 [(0, .ref p0), (1, .int x), (2, .int y)] := hl
  have iw : ∀ w ∈ wsX10, w ∈ wsX1_seam := by decide +kernel
  refine lv_aload_n hx hb dX1_seam_0 rfl (lv_at hl 0 rfl) ?_
  refine lv_aload_n hx hb dX1_seam_1 rfl (lv_at hl 0 rfl) ?_
  refine va_get (D := (dC, dI)) (ci := 1) (v := .int wo) (C := RX1) (T := TX1) (N := 11) hx hb hts iw hown hK hP 0 rfl rfl 3 (by decide) (hts (.fieldLink RX1 73 "ReelLoomModel" "isWoven" "Z") (by decide +kernel)) (fun _ h9 => h9) rfl dX1_seam_2 ?_
  refine lv_if_ne (tgt := 12) hx hb dX1_seam_5 (by decide) (fun h5 => ?_) (fun h5 => ?_)
  · skip
    refine lv_aload_n hx hb dX1_seam_12 rfl (lv_at hl 0 rfl) ?_
    refine lv_iload_n hx hb dX1_seam_13 rfl (lv_at hl 1 rfl) ?_
    refine gx_calli (va_runV (As := [.int x]) (rest := [.ref p0]) ⟨hx, hb, hml, hown, hts⟩ (k_X1_rowLacks l dC dI cyI cyZ _ p0 p1 p2 p3 p4 mn me ml mt th wo mr mo mk mz mq hP (hD.weaken (fun _ _ _ _ => trivial)) x hmr) (cwV 1 hts gX1_seam_X1_rowLacks rfl rfl rfl (by decide +kernel) ⟨Nat.le_of_ble_eq_true rfl, Nat.le_of_ble_eq_true rfl⟩) (pK_V hK (va_recv hK hP (ci := 1) (q0 := 0) rfl rfl)) rfl rfl hl.1 rfl (lv_room (Nat.le_of_ble_eq_true rfl)) dX1_seam_14 ⟨Nat.le_of_ble_eq_true rfl, Nat.le_of_ble_eq_true rfl⟩) (fun r_2 hr_2 => ?_)
    subst hr_2
    refine va_put (D := (dC, dI)) (ci := 1) (v := .int (nI (rlk mr mt x))) (ty := .int) (C := RX1) (T := TX1) (N := 11) hx hb hts iw tyX1 tyX1_ok nmX1 hown hK hP hD hS 0 rfl rfl 0 (by decide) (hts (.fieldLink RX1 23 "ReelLoomModel" "thrown" "I") (by decide +kernel)) (fun _ h9 => h9) rfl (by decide +kernel) rfl rfl (Nat.le_of_ble_eq_true rfl) dX1_seam_17 (fun H locs hP hD hS => ?_)
    have hP : va_P (dC, dI) vwCl (wM cyI cyZ p0 p1 p2 p3 p4 mn me ml mt (nI (rlk mr mt x)) wo mr mo mk mz mq) H := hP
    have hD : va_D A (wM cyI cyZ p0 p1 p2 p3 p4 mn me ml mt (nI (rlk mr mt x)) wo mr mo mk mz mq) := hD
    refine lv_aload_n hx hb dX1_seam_20 rfl (lv_at hl 0 rfl) ?_
    refine va_get (D := (dC, dI)) (ci := 1) (v := .int (nI (rlk mr mt x))) (C := RX1) (T := TX1) (N := 11) hx hb hts iw hown hK hP 0 rfl rfl 0 (by decide) (hts (.fieldLink RX1 23 "ReelLoomModel" "thrown" "I") (by decide +kernel)) (fun _ h9 => h9) rfl dX1_seam_21 ?_
    refine lv_if_ne (tgt := 36) hx hb dX1_seam_24 (by decide) (fun h24 => ?_) (fun h24 => ?_)
    · skip
      have h24n : ¬ rlk mr mt x = 0 := fun e => h24 (by rw [e]; rfl)
      refine lv_iconst (v := 0) hx hb dX1_seam_36 (by decide) ?_
      refine lv_istore_n (lv' := [(3, .int 0), (0, .ref p0), (1, .int x), (2, .int y)]) hx hb dX1_seam_37 rfl hl (by decide) rfl (fun ls hl => ?_)
      refine lv_iconst (v := nI 0) hx hb dX1_seam_38 (by decide) ?_
      refine lv_istore (lv' := [(4, .int (nI 0)), (3, .int 0), (0, .ref p0), (1, .int x), (2, .int y)]) hx hb dX1_seam_39 hl (by decide) rfl (fun ls hl => ?_)
      refine lpW (N := mo.toNatClampNeg) (I := fun i H locs ls => va_P (dC, dI) vwCl (wM cyI cyZ p0 p1 p2 p3 p4 mn me ml mt (nI (rlk mr mt x)) wo mr mo mk mz mq) H ∧ va_D A (wM cyI cyZ p0 p1 p2 p3 p4 mn me ml mt (nI (rlk mr mt x)) wo mr mo mk mz mq) ∧ va_S A s.heap H locs ∧ lv_has ls 5 [(4, .int (nI i)), (3, .int 0), (0, .ref p0), (1, .int x), (2, .int y)]) (fun i hi H locs ls hI ih => ?_) (fun H locs ls hI => ?_) 0 (Nat.zero_le _) ⟨hP, hD, hS, lv_sub hl [0, 1, 2, 3, 4] rfl⟩
      · skip
        obtain ⟨hP, hD, hS, hl⟩ := hI
        refine lv_iload hx hb dX1_seam_41 (lv_at hl 0 rfl) ?_
        refine lv_aload_n hx hb dX1_seam_43 rfl (lv_at hl 2 rfl) ?_
        refine va_get (D := (dC, dI)) (ci := 1) (v := .int mo) (C := RX1) (T := TX1) (N := 11) hx hb hts iw hown hK hP 0 rfl rfl 5 (by decide) (hts (.fieldLink RX1 70 "ReelLoomModel" "columns" "I") (by decide +kernel)) (fun _ h9 => h9) rfl dX1_seam_44 ?_
        refine lv_icmp_ge (tgt := 98) hx hb dX1_seam_47 (by decide) (fun h47 => ?_) (fun h47 => ?_)
        · skip
          exact absurd h47 (w_step hi)
        · skip
          refine lv_aload_n hx hb dX1_seam_50 rfl (lv_at hl 2 rfl) ?_
          refine va_get (D := (dC, dI)) (ci := 1) (v := .int (nI (rlk mr mt x))) (C := RX1) (T := TX1) (N := 11) hx hb hts iw hown hK hP 0 rfl rfl 0 (by decide) (hts (.fieldLink RX1 23 "ReelLoomModel" "thrown" "I") (by decide +kernel)) (fun _ h9 => h9) rfl dX1_seam_51 ?_
          refine lv_if_ne (tgt := 98) hx hb dX1_seam_54 (by decide) (fun h54 => ?_) (fun h54 => ?_)
          · skip
            refine lv_iload_n hx hb dX1_seam_98 rfl (lv_at hl 1 rfl) ?_
            exact W.iret (v := 0) hx hb hr (fun t ht hW => ⟨⟨0, nI (rlk mr mt x), rfl, ⟨by unfold lkSM; rw [if_neg h5, if_pos h24n], fun h => absurd h (by unfold lkSM; rw [if_neg h5, if_pos h24n]; exact h24n)⟩, by show va_P (dC, dI) vwCl (wM cyI cyZ p0 p1 p2 p3 p4 mn me ml mt (nI (rlk mr mt x)) wo mr mo mk mz mq) t.heap; rw [ht]; exact hP⟩, hS.F ht⟩) hS.2.2 dX1_seam_99
          · skip
            exact absurd (nI_z (Nat.lt_of_lt_of_le (rlk_lt _ _ _) (by decide)) h54) h24n
      · skip
        obtain ⟨hP, hD, hS, hl⟩ := hI
        refine lv_iload hx hb dX1_seam_41 (lv_at hl 0 rfl) ?_
        refine lv_aload_n hx hb dX1_seam_43 rfl (lv_at hl 2 rfl) ?_
        refine va_get (D := (dC, dI)) (ci := 1) (v := .int mo) (C := RX1) (T := TX1) (N := 11) hx hb hts iw hown hK hP 0 rfl rfl 5 (by decide) (hts (.fieldLink RX1 70 "ReelLoomModel" "columns" "I") (by decide +kernel)) (fun _ h9 => h9) rfl dX1_seam_44 ?_
        refine lv_icmp_ge (tgt := 98) hx hb dX1_seam_47 (by decide) (fun h47 => ?_) (fun h47 => ?_)
        · skip
          refine lv_iload_n hx hb dX1_seam_98 rfl (lv_at hl 1 rfl) ?_
          exact W.iret (v := 0) hx hb hr (fun t ht hW => ⟨⟨0, nI (rlk mr mt x), rfl, ⟨by unfold lkSM; rw [if_neg h5, if_pos h24n], fun h => absurd h (by unfold lkSM; rw [if_neg h5, if_pos h24n]; exact h24n)⟩, by show va_P (dC, dI) vwCl (wM cyI cyZ p0 p1 p2 p3 p4 mn me ml mt (nI (rlk mr mt x)) wo mr mo mk mz mq) t.heap; rw [ht]; exact hP⟩, hS.F ht⟩) hS.2.2 dX1_seam_99
        · skip
          exact absurd (w_last _) h47
    · skip
      have h24z := nI_z (Nat.lt_of_lt_of_le (rlk_lt _ _ _) (by decide)) h24
      refine lv_aload_n hx hb dX1_seam_27 rfl (lv_at hl 0 rfl) ?_
      refine lv_aload_n hx hb dX1_seam_28 rfl (lv_at hl 0 rfl) ?_
      refine lv_iload_n hx hb dX1_seam_29 rfl (lv_at hl 2 rfl) ?_
      refine gx_calli (va_runV (As := [.int y]) (rest := [.ref p0]) ⟨hx, hb, hml, hown, hts⟩ (k_X1_rowLacks l dC dI cyI cyZ _ p0 p1 p2 p3 p4 mn me ml mt (nI (rlk mr mt x)) wo mr mo mk mz mq hP (hD.weaken (fun _ _ _ _ => trivial)) y hmr) (cwV 1 hts gX1_seam_X1_rowLacks rfl rfl rfl (by decide +kernel) ⟨Nat.le_of_ble_eq_true rfl, Nat.le_of_ble_eq_true rfl⟩) (pK_V hK (va_recv hK hP (ci := 1) (q0 := 0) rfl rfl)) rfl rfl hl.1 rfl (lv_room (Nat.le_of_ble_eq_true rfl)) dX1_seam_30 ⟨Nat.le_of_ble_eq_true rfl, Nat.le_of_ble_eq_true rfl⟩) (fun r_7 hr_7 => ?_)
      subst hr_7
      refine va_put (D := (dC, dI)) (ci := 1) (v := .int (nI (rlk mr mt y))) (ty := .int) (C := RX1) (T := TX1) (N := 11) hx hb hts iw tyX1 tyX1_ok nmX1 hown hK hP hD hS 0 rfl rfl 0 (by decide) (hts (.fieldLink RX1 23 "ReelLoomModel" "thrown" "I") (by decide +kernel)) (fun _ h9 => h9) rfl (by decide +kernel) rfl rfl (Nat.le_of_ble_eq_true rfl) dX1_seam_33 (fun H locs hP hD hS => ?_)
      have hP : va_P (dC, dI) vwCl (wM cyI cyZ p0 p1 p2 p3 p4 mn me ml mt (nI (rlk mr mt y)) wo mr mo mk mz mq) H := hP
      have hD : va_D A (wM cyI cyZ p0 p1 p2 p3 p4 mn me ml mt (nI (rlk mr mt y)) wo mr mo mk mz mq) := hD
      by_cases hthz : rlk mr mt y = 0
      · skip
        have ka := rlk_0 h24z
        have kb := rlk_0 hthz
        obtain ⟨ra, hra, rfl⟩ := in_of (n := 40) (by decide) ka.1.1 (i_lt ka.1.2 hmr)
        obtain ⟨rb, hrb, rfl⟩ := in_of (n := 40) (by decide) kb.1.1 (i_lt kb.1.2 hmr)
        refine lv_iconst (v := 0) hx hb dX1_seam_36 (by decide) ?_
        refine lv_istore_n (lv' := [(3, .int 0), (0, .ref p0), (1, .int (nI ra)), (2, .int (nI rb))]) hx hb dX1_seam_37 rfl hl (by decide) rfl (fun ls hl => ?_)
        refine lv_iconst (v := nI 0) hx hb dX1_seam_38 (by decide) ?_
        refine lv_istore (lv' := [(4, .int (nI 0)), (3, .int 0), (0, .ref p0), (1, .int (nI ra)), (2, .int (nI rb))]) hx hb dX1_seam_39 hl (by decide) rfl (fun ls hl => ?_)
        refine lpW (N := mo.toNatClampNeg) (I := fun i H locs ls => va_P (dC, dI) vwCl (wM cyI cyZ p0 p1 p2 p3 p4 mn me ml mt (nI (rlk mr mt (nI rb))) wo mr mo mk mz mq) H ∧ va_D A (wM cyI cyZ p0 p1 p2 p3 p4 mn me ml mt (nI (rlk mr mt (nI rb))) wo mr mo mk mz mq) ∧ va_S A s.heap H locs ∧ lv_has ls 5 [(4, .int (nI i)), (3, .int (nSameM ml ra rb i)), (0, .ref p0), (1, .int (nI ra)), (2, .int (nI rb))]) (fun i hi H locs ls hI ih => ?_) (fun H locs ls hI => ?_) 0 (Nat.zero_le _) ⟨hP, hD, hS, lv_sub hl [0, 1, 2, 3, 4] rfl⟩
        · skip
          obtain ⟨hP, hD, hS, hl⟩ := hI
          have hw9 := w_le (by decide) hmo
          refine lv_iload hx hb dX1_seam_41 (lv_at hl 0 rfl) ?_
          refine lv_aload_n hx hb dX1_seam_43 rfl (lv_at hl 2 rfl) ?_
          refine va_get (D := (dC, dI)) (ci := 1) (v := .int mo) (C := RX1) (T := TX1) (N := 11) hx hb hts iw hown hK hP 0 rfl rfl 5 (by decide) (hts (.fieldLink RX1 70 "ReelLoomModel" "columns" "I") (by decide +kernel)) (fun _ h9 => h9) rfl dX1_seam_44 ?_
          refine lv_icmp_ge (tgt := 98) hx hb dX1_seam_47 (by decide) (fun h47 => ?_) (fun h47 => ?_)
          · skip
            exact absurd h47 (w_step hi)
          · skip
            refine lv_aload_n hx hb dX1_seam_50 rfl (lv_at hl 2 rfl) ?_
            refine va_get (D := (dC, dI)) (ci := 1) (v := .int (nI (rlk mr mt (nI rb)))) (C := RX1) (T := TX1) (N := 11) hx hb hts iw hown hK hP 0 rfl rfl 0 (by decide) (hts (.fieldLink RX1 23 "ReelLoomModel" "thrown" "I") (by decide +kernel)) (fun _ h9 => h9) rfl dX1_seam_51 ?_
            refine lv_if_ne (tgt := 98) hx hb dX1_seam_54 (by decide) (fun h54 => ?_) (fun h54 => ?_)
            · skip
              exact absurd (by rw [hthz]; rfl) h54
            · skip
              refine lv_iload_n hx hb dX1_seam_57 rfl (lv_at hl 1 rfl) ?_
              refine lv_aload_n hx hb dX1_seam_58 rfl (lv_at hl 2 rfl) ?_
              refine va_get (D := (dC, dI)) (ci := 1) (v := .ref p3) (C := RX1) (T := TX1) (N := 11) hx hb hts iw hown hK hP 0 rfl rfl 6 (by decide) (hts (.fieldLink RX1 16 "ReelLoomModel" "cloth" "[I") (by decide +kernel)) (fun _ h9 => h9) rfl dX1_seam_59 ?_
              refine lv_bipush (v := nI 40) hx hb dX1_seam_62 (by decide) ?_
              refine lv_iload_n hx hb dX1_seam_64 rfl (lv_at hl 3 rfl) ?_
              refine lv_imul hx hb dX1_seam_65 ?_
              rw [pk_mul]
              refine lv_iload hx hb dX1_seam_66 (lv_at hl 0 rfl) ?_
              refine lv_iadd hx hb dX1_seam_68 ?_
              rw [nI_add]
              refine va_iald hx hb hK hP 3 0 rfl rfl (vp_in_nI (by omega) (by omega)) dX1_seam_69 ?_
              rw [nI_clamp (show ((40 * ra) + i) < 2 ^ 31 by omega)]
              refine lv_aload_n hx hb dX1_seam_70 rfl (lv_at hl 2 rfl) ?_
              refine va_get (D := (dC, dI)) (ci := 1) (v := .ref p3) (C := RX1) (T := TX1) (N := 11) hx hb hts iw hown hK hP 0 rfl rfl 6 (by decide) (hts (.fieldLink RX1 16 "ReelLoomModel" "cloth" "[I") (by decide +kernel)) (fun _ h9 => h9) rfl dX1_seam_71 ?_
              refine lv_bipush (v := nI 40) hx hb dX1_seam_74 (by decide) ?_
              refine lv_iload_n hx hb dX1_seam_76 rfl (lv_at hl 4 rfl) ?_
              refine lv_imul hx hb dX1_seam_77 ?_
              rw [pk_mul]
              refine lv_iload hx hb dX1_seam_78 (lv_at hl 0 rfl) ?_
              refine lv_iadd hx hb dX1_seam_80 ?_
              rw [nI_add]
              refine va_iald hx hb hK hP 3 0 rfl rfl (vp_in_nI (by omega) (by omega)) dX1_seam_81 ?_
              rw [nI_clamp (show ((40 * rb) + i) < 2 ^ 31 by omega)]
              refine lv_icmp_ne (tgt := 89) hx hb dX1_seam_82 (by decide) (fun h82 => ?_) (fun h82 => ?_)
              · skip
                refine lv_iconst (v := 0) hx hb dX1_seam_89 (by decide) ?_
                refine lv_iadd hx hb dX1_seam_90 ?_
                refine lv_istore_n (lv' := [(3, .int ((nSameM ml ra rb i) + 0)), (4, .int (nI i)), (0, .ref p0), (1, .int (nI ra)), (2, .int (nI rb))]) hx hb dX1_seam_91 rfl hl (by decide) rfl (fun ls hl => ?_)
                refine lv_iinc (v := nI (i + 1)) (lv' := [(4, .int (nI (i + 1))), (3, .int ((nSameM ml ra rb i) + 0)), (0, .ref p0), (1, .int (nI ra)), (2, .int (nI rb))]) hx hb dX1_seam_92 hl (k := 1) rfl (nI_1 _) (by decide) rfl (fun ls hl => ?_)
                refine lv_goto (tgt := 41) hx hb dX1_seam_95 (by decide) ?_
                have e1 : (nSameM ml ra rb i) + 0 = nSameM ml ra rb (i + 1) := by show _ = nSameM ml ra rb i + (if _ then _ else _); first | rw [if_pos h82] | rw [if_neg h82]
                rw [e1] at hl
                exact ih _ _ _ ⟨hP, hD, hS, lv_sub hl [0, 1, 2, 3, 4] rfl⟩
              · skip
                refine lv_iconst (v := 1) hx hb dX1_seam_85 (by decide) ?_
                refine lv_goto (tgt := 90) hx hb dX1_seam_86 (by decide) ?_
                refine lv_iadd hx hb dX1_seam_90 ?_
                refine lv_istore_n (lv' := [(3, .int ((nSameM ml ra rb i) + 1)), (4, .int (nI i)), (0, .ref p0), (1, .int (nI ra)), (2, .int (nI rb))]) hx hb dX1_seam_91 rfl hl (by decide) rfl (fun ls hl => ?_)
                refine lv_iinc (v := nI (i + 1)) (lv' := [(4, .int (nI (i + 1))), (3, .int ((nSameM ml ra rb i) + 1)), (0, .ref p0), (1, .int (nI ra)), (2, .int (nI rb))]) hx hb dX1_seam_92 hl (k := 1) rfl (nI_1 _) (by decide) rfl (fun ls hl => ?_)
                refine lv_goto (tgt := 41) hx hb dX1_seam_95 (by decide) ?_
                have e1 : (nSameM ml ra rb i) + 1 = nSameM ml ra rb (i + 1) := by show _ = nSameM ml ra rb i + (if _ then _ else _); first | rw [if_pos h82] | rw [if_neg h82]
                rw [e1] at hl
                exact ih _ _ _ ⟨hP, hD, hS, lv_sub hl [0, 1, 2, 3, 4] rfl⟩
        · skip
          obtain ⟨hP, hD, hS, hl⟩ := hI
          refine lv_iload hx hb dX1_seam_41 (lv_at hl 0 rfl) ?_
          refine lv_aload_n hx hb dX1_seam_43 rfl (lv_at hl 2 rfl) ?_
          refine va_get (D := (dC, dI)) (ci := 1) (v := .int mo) (C := RX1) (T := TX1) (N := 11) hx hb hts iw hown hK hP 0 rfl rfl 5 (by decide) (hts (.fieldLink RX1 70 "ReelLoomModel" "columns" "I") (by decide +kernel)) (fun _ h9 => h9) rfl dX1_seam_44 ?_
          refine lv_icmp_ge (tgt := 98) hx hb dX1_seam_47 (by decide) (fun h47 => ?_) (fun h47 => ?_)
          · skip
            refine lv_iload_n hx hb dX1_seam_98 rfl (lv_at hl 1 rfl) ?_
            exact W.iret (v := (nSameM ml ra rb mo.toNatClampNeg)) hx hb hr (fun t ht hW => ⟨⟨(nSameM ml ra rb mo.toNatClampNeg), nI (rlk mr mt (nI rb)), rfl, ⟨by unfold lkSM; rw [if_neg h5, if_neg (not_not_intro h24z)], fun _ => ⟨ra, rb, hra, rfl, hrb, rfl, rfl⟩⟩, by show va_P (dC, dI) vwCl (wM cyI cyZ p0 p1 p2 p3 p4 mn me ml mt (nI (rlk mr mt (nI rb))) wo mr mo mk mz mq) t.heap; rw [ht]; exact hP⟩, hS.F ht⟩) hS.2.2 dX1_seam_99
          · skip
            exact absurd (w_last _) h47
      · skip
        have hthn := hthz
        refine lv_iconst (v := 0) hx hb dX1_seam_36 (by decide) ?_
        refine lv_istore_n (lv' := [(3, .int 0), (0, .ref p0), (1, .int x), (2, .int y)]) hx hb dX1_seam_37 rfl hl (by decide) rfl (fun ls hl => ?_)
        refine lv_iconst (v := nI 0) hx hb dX1_seam_38 (by decide) ?_
        refine lv_istore (lv' := [(4, .int (nI 0)), (3, .int 0), (0, .ref p0), (1, .int x), (2, .int y)]) hx hb dX1_seam_39 hl (by decide) rfl (fun ls hl => ?_)
        refine lpW (N := mo.toNatClampNeg) (I := fun i H locs ls => va_P (dC, dI) vwCl (wM cyI cyZ p0 p1 p2 p3 p4 mn me ml mt (nI (rlk mr mt y)) wo mr mo mk mz mq) H ∧ va_D A (wM cyI cyZ p0 p1 p2 p3 p4 mn me ml mt (nI (rlk mr mt y)) wo mr mo mk mz mq) ∧ va_S A s.heap H locs ∧ lv_has ls 5 [(4, .int (nI i)), (3, .int 0), (0, .ref p0), (1, .int x), (2, .int y)]) (fun i hi H locs ls hI ih => ?_) (fun H locs ls hI => ?_) 0 (Nat.zero_le _) ⟨hP, hD, hS, lv_sub hl [0, 1, 2, 3, 4] rfl⟩
        · skip
          obtain ⟨hP, hD, hS, hl⟩ := hI
          refine lv_iload hx hb dX1_seam_41 (lv_at hl 0 rfl) ?_
          refine lv_aload_n hx hb dX1_seam_43 rfl (lv_at hl 2 rfl) ?_
          refine va_get (D := (dC, dI)) (ci := 1) (v := .int mo) (C := RX1) (T := TX1) (N := 11) hx hb hts iw hown hK hP 0 rfl rfl 5 (by decide) (hts (.fieldLink RX1 70 "ReelLoomModel" "columns" "I") (by decide +kernel)) (fun _ h9 => h9) rfl dX1_seam_44 ?_
          refine lv_icmp_ge (tgt := 98) hx hb dX1_seam_47 (by decide) (fun h47 => ?_) (fun h47 => ?_)
          · skip
            exact absurd h47 (w_step hi)
          · skip
            refine lv_aload_n hx hb dX1_seam_50 rfl (lv_at hl 2 rfl) ?_
            refine va_get (D := (dC, dI)) (ci := 1) (v := .int (nI (rlk mr mt y))) (C := RX1) (T := TX1) (N := 11) hx hb hts iw hown hK hP 0 rfl rfl 0 (by decide) (hts (.fieldLink RX1 23 "ReelLoomModel" "thrown" "I") (by decide +kernel)) (fun _ h9 => h9) rfl dX1_seam_51 ?_
            refine lv_if_ne (tgt := 98) hx hb dX1_seam_54 (by decide) (fun h54 => ?_) (fun h54 => ?_)
            · skip
              refine lv_iload_n hx hb dX1_seam_98 rfl (lv_at hl 1 rfl) ?_
              exact W.iret (v := 0) hx hb hr (fun t ht hW => ⟨⟨0, nI (rlk mr mt y), rfl, ⟨by unfold lkSM; rw [if_neg h5, if_neg (not_not_intro h24z)], fun h => absurd h (by unfold lkSM; rw [if_neg h5, if_neg (not_not_intro h24z)]; exact hthn)⟩, by show va_P (dC, dI) vwCl (wM cyI cyZ p0 p1 p2 p3 p4 mn me ml mt (nI (rlk mr mt y)) wo mr mo mk mz mq) t.heap; rw [ht]; exact hP⟩, hS.F ht⟩) hS.2.2 dX1_seam_99
            · skip
              exact absurd (nI_z (Nat.lt_of_lt_of_le (rlk_lt _ _ _) (by decide)) h54) hthn
        · skip
          obtain ⟨hP, hD, hS, hl⟩ := hI
          refine lv_iload hx hb dX1_seam_41 (lv_at hl 0 rfl) ?_
          refine lv_aload_n hx hb dX1_seam_43 rfl (lv_at hl 2 rfl) ?_
          refine va_get (D := (dC, dI)) (ci := 1) (v := .int mo) (C := RX1) (T := TX1) (N := 11) hx hb hts iw hown hK hP 0 rfl rfl 5 (by decide) (hts (.fieldLink RX1 70 "ReelLoomModel" "columns" "I") (by decide +kernel)) (fun _ h9 => h9) rfl dX1_seam_44 ?_
          refine lv_icmp_ge (tgt := 98) hx hb dX1_seam_47 (by decide) (fun h47 => ?_) (fun h47 => ?_)
          · skip
            refine lv_iload_n hx hb dX1_seam_98 rfl (lv_at hl 1 rfl) ?_
            exact W.iret (v := 0) hx hb hr (fun t ht hW => ⟨⟨0, nI (rlk mr mt y), rfl, ⟨by unfold lkSM; rw [if_neg h5, if_neg (not_not_intro h24z)], fun h => absurd h (by unfold lkSM; rw [if_neg h5, if_neg (not_not_intro h24z)]; exact hthn)⟩, by show va_P (dC, dI) vwCl (wM cyI cyZ p0 p1 p2 p3 p4 mn me ml mt (nI (rlk mr mt y)) wo mr mo mk mz mq) t.heap; rw [ht]; exact hP⟩, hS.F ht⟩) hS.2.2 dX1_seam_99
          · skip
            exact absurd (w_last _) h47
  · skip
    refine lv_iconst (v := 1) hx hb dX1_seam_8 (by decide) ?_
    refine lv_goto (tgt := 17) hx hb dX1_seam_9 (by decide) ?_
    refine va_put (D := (dC, dI)) (ci := 1) (v := .int 1) (ty := .int) (C := RX1) (T := TX1) (N := 11) hx hb hts iw tyX1 tyX1_ok nmX1 hown hK hP hD hS 0 rfl rfl 0 (by decide) (hts (.fieldLink RX1 23 "ReelLoomModel" "thrown" "I") (by decide +kernel)) (fun _ h9 => h9) rfl (by decide +kernel) rfl rfl (Nat.le_of_ble_eq_true rfl) dX1_seam_17 (fun H locs hP hD hS => ?_)
    have hP : va_P (dC, dI) vwCl (wM cyI cyZ p0 p1 p2 p3 p4 mn me ml mt 1 wo mr mo mk mz mq) H := hP
    have hD : va_D A (wM cyI cyZ p0 p1 p2 p3 p4 mn me ml mt 1 wo mr mo mk mz mq) := hD
    refine lv_aload_n hx hb dX1_seam_20 rfl (lv_at hl 0 rfl) ?_
    refine va_get (D := (dC, dI)) (ci := 1) (v := .int 1) (C := RX1) (T := TX1) (N := 11) hx hb hts iw hown hK hP 0 rfl rfl 0 (by decide) (hts (.fieldLink RX1 23 "ReelLoomModel" "thrown" "I") (by decide +kernel)) (fun _ h9 => h9) rfl dX1_seam_21 ?_
    refine lv_if_ne (tgt := 36) hx hb dX1_seam_24 (by decide) (fun h24 => ?_) (fun h24 => ?_)
    · skip
      refine lv_iconst (v := 0) hx hb dX1_seam_36 (by decide) ?_
      refine lv_istore_n (lv' := [(3, .int 0), (0, .ref p0), (1, .int x), (2, .int y)]) hx hb dX1_seam_37 rfl hl (by decide) rfl (fun ls hl => ?_)
      refine lv_iconst (v := nI 0) hx hb dX1_seam_38 (by decide) ?_
      refine lv_istore (lv' := [(4, .int (nI 0)), (3, .int 0), (0, .ref p0), (1, .int x), (2, .int y)]) hx hb dX1_seam_39 hl (by decide) rfl (fun ls hl => ?_)
      refine lpW (N := mo.toNatClampNeg) (I := fun i H locs ls => va_P (dC, dI) vwCl (wM cyI cyZ p0 p1 p2 p3 p4 mn me ml mt 1 wo mr mo mk mz mq) H ∧ va_D A (wM cyI cyZ p0 p1 p2 p3 p4 mn me ml mt 1 wo mr mo mk mz mq) ∧ va_S A s.heap H locs ∧ lv_has ls 5 [(4, .int (nI i)), (3, .int 0), (0, .ref p0), (1, .int x), (2, .int y)]) (fun i hi H locs ls hI ih => ?_) (fun H locs ls hI => ?_) 0 (Nat.zero_le _) ⟨hP, hD, hS, lv_sub hl [0, 1, 2, 3, 4] rfl⟩
      · skip
        obtain ⟨hP, hD, hS, hl⟩ := hI
        refine lv_iload hx hb dX1_seam_41 (lv_at hl 0 rfl) ?_
        refine lv_aload_n hx hb dX1_seam_43 rfl (lv_at hl 2 rfl) ?_
        refine va_get (D := (dC, dI)) (ci := 1) (v := .int mo) (C := RX1) (T := TX1) (N := 11) hx hb hts iw hown hK hP 0 rfl rfl 5 (by decide) (hts (.fieldLink RX1 70 "ReelLoomModel" "columns" "I") (by decide +kernel)) (fun _ h9 => h9) rfl dX1_seam_44 ?_
        refine lv_icmp_ge (tgt := 98) hx hb dX1_seam_47 (by decide) (fun h47 => ?_) (fun h47 => ?_)
        · skip
          exact absurd h47 (w_step hi)
        · skip
          refine lv_aload_n hx hb dX1_seam_50 rfl (lv_at hl 2 rfl) ?_
          refine va_get (D := (dC, dI)) (ci := 1) (v := .int 1) (C := RX1) (T := TX1) (N := 11) hx hb hts iw hown hK hP 0 rfl rfl 0 (by decide) (hts (.fieldLink RX1 23 "ReelLoomModel" "thrown" "I") (by decide +kernel)) (fun _ h9 => h9) rfl dX1_seam_51 ?_
          refine lv_if_ne (tgt := 98) hx hb dX1_seam_54 (by decide) (fun h54 => ?_) (fun h54 => ?_)
          · skip
            refine lv_iload_n hx hb dX1_seam_98 rfl (lv_at hl 1 rfl) ?_
            exact W.iret (v := 0) hx hb hr (fun t ht hW => ⟨⟨0, 1, rfl, ⟨by unfold lkSM; rw [if_pos h5]; rfl, fun h => absurd h (by unfold lkSM; rw [if_pos h5]; decide)⟩, by show va_P (dC, dI) vwCl (wM cyI cyZ p0 p1 p2 p3 p4 mn me ml mt 1 wo mr mo mk mz mq) t.heap; rw [ht]; exact hP⟩, hS.F ht⟩) hS.2.2 dX1_seam_99
          · skip
            exact absurd h54 (by decide)
      · skip
        obtain ⟨hP, hD, hS, hl⟩ := hI
        refine lv_iload hx hb dX1_seam_41 (lv_at hl 0 rfl) ?_
        refine lv_aload_n hx hb dX1_seam_43 rfl (lv_at hl 2 rfl) ?_
        refine va_get (D := (dC, dI)) (ci := 1) (v := .int mo) (C := RX1) (T := TX1) (N := 11) hx hb hts iw hown hK hP 0 rfl rfl 5 (by decide) (hts (.fieldLink RX1 70 "ReelLoomModel" "columns" "I") (by decide +kernel)) (fun _ h9 => h9) rfl dX1_seam_44 ?_
        refine lv_icmp_ge (tgt := 98) hx hb dX1_seam_47 (by decide) (fun h47 => ?_) (fun h47 => ?_)
        · skip
          refine lv_iload_n hx hb dX1_seam_98 rfl (lv_at hl 1 rfl) ?_
          exact W.iret (v := 0) hx hb hr (fun t ht hW => ⟨⟨0, 1, rfl, ⟨by unfold lkSM; rw [if_pos h5]; rfl, fun h => absurd h (by unfold lkSM; rw [if_pos h5]; decide)⟩, by show va_P (dC, dI) vwCl (wM cyI cyZ p0 p1 p2 p3 p4 mn me ml mt 1 wo mr mo mk mz mq) t.heap; rw [ht]; exact hP⟩, hS.F ht⟩) hS.2.2 dX1_seam_99
        · skip
          exact absurd (w_last _) h47
    · skip
      exact absurd h24 (by decide)
set_option maxHeartbeats 4000000 in
set_option maxRecDepth 100000 in
theorem k_X1_sumOfAll (l : Launch) (dC : Nat → ClassId) (dI : Nat → Nat → Nat) (cyI cyZ : ClassId) (H0 : Heap) (p0 p1 p2 p3 p4 : Nat) (mn me ml mt : Nat → Int32) (th wo mr mo mk mz mq : Int32) (hP : va_P (dC, dI) vwCl (wM cyI cyZ p0 p1 p2 p3 p4 mn me ml mt th wo mr mo mk mz mq) H0) (hD0 : va_D (fun _ => True) (wM cyI cyZ p0 p1 p2 p3 p4 mn me ml mt th wo mr mo mk mz mq))  (hmn : ∀ k, k < 5 → mn (2 * k) = -1 ∨ ∃ n : Nat, n ≤ 64 ∧ mn (2 * k) = nI n) : Met l yX1_sumOfAll wsX1_sumOfAll ({ frames := 1, cells := 0, slots := 0, locals := 21 }) (va_Pc [.ref p0] (pK dC dI (tyW cyI cyZ) H0)) (gx_Qi (fun r : Int32 => r = wOm me mn 5) H0) 0 0 (gx_new H0) := by
  refine Met.ofW (cc := cX1_sumOfAll) (maxL := 4) (ret := (some .int)) (by decide) rfl ?_
  intro p e s m args below meth c s₁ B hml hv
  obtain ⟨rfl, rfl, hK⟩ := hv
  have hx := B.exec
  have hb := B.bytes
  have hr := B.returns
  have hts := atoms_spec (ws := wsX1_sumOfAll) B.pre
  have hown : s.vm.findClass RX1 = some m.cls := findClass_of_methodNamed B.named
  have hlocks := B.notSynchronized
  have hD := hD0.self (sz := s.heap.size)
  generalize hAe : (gx_new s.heap) = A at ⊢
  have hA : ∀ q : Nat, s.heap.size ≤ q → A q := fun q h => by rw [← hAe]; exact h
  have hS : va_S A s.heap s.heap [] := va_S.rf
  have hl := lv_entry ([.ref p0]) (n := 4) (Nat.le_of_ble_eq_true rfl)
  rw [lg_entry_eq]
  generalize (lg_sl ([.ref p0]) ++ List.replicate (4 - (lg_sl ([.ref p0])).length) Slot.unset).toArray = ls at hl ⊢
  have hl : lv_has ls 4 [(0, .ref p0)] := hl
  have iw : ∀ w ∈ wsX10, w ∈ wsX1_sumOfAll := by decide +kernel
  refine lv_iconst (v := 0) hx hb dX1_sumOfAll_0 (by decide) ?_
  refine lv_istore_n (lv' := [(1, .int 0), (0, .ref p0)]) hx hb dX1_sumOfAll_1 rfl hl (by decide) rfl (fun ls hl => ?_)
  refine lv_iconst (v := nI 0) hx hb dX1_sumOfAll_2 (by decide) ?_
  refine lv_istore_n (lv' := [(2, .int (nI 0)), (1, .int 0), (0, .ref p0)]) hx hb dX1_sumOfAll_3 rfl hl (by decide) rfl (fun ls hl => ?_)
  refine lpW (N := 5) (I := fun so H locs ls => H = s.heap ∧ va_S A s.heap H locs ∧ lv_has ls 4 [(2, .int (nI so)), (1, .int (wOm me mn so)), (0, .ref p0)]) (fun so hi H locs ls hI ih => ?_) (fun H locs ls hI => ?_) 0 (Nat.zero_le _) ⟨rfl, hS, lv_sub hl [0, 1, 2] rfl⟩
  · skip
    obtain ⟨rfl, hS, hl⟩ := hI
    refine lv_iload_n hx hb dX1_sumOfAll_4 rfl (lv_at hl 0 rfl) ?_
    refine lv_iconst (v := nI 5) hx hb dX1_sumOfAll_5 (by decide) ?_
    refine lv_icmp_ge (tgt := 52) hx hb dX1_sumOfAll_6 (by decide) (fun c_1 => ?_) (fun c_1 => ?_)
    · skip
      exact absurd c_1 (nI_ge (by omega) (by omega))
    · skip
      refine lv_iconst (v := nI 0) hx hb dX1_sumOfAll_9 (by decide) ?_
      refine lv_istore_n (lv' := [(3, .int (nI 0)), (2, .int (nI so)), (1, .int (wOm me mn so)), (0, .ref p0)]) hx hb dX1_sumOfAll_10 rfl hl (by decide) rfl (fun ls hl => ?_)
      refine lpW (N := (mn (2 * so)).toNatClampNeg) (I := fun i H locs ls => H = s.heap ∧ va_S A s.heap H locs ∧ lv_has ls 4 [(3, .int (nI i)), (2, .int (nI so)), (1, .int (wIm me so (wOm me mn so) i)), (0, .ref p0)]) (fun i hi H locs ls hI ih => ?_) (fun H locs ls hI => ?_) 0 (Nat.zero_le _) ⟨rfl, hS, lv_sub hl [0, 1, 2, 3] rfl⟩
      · skip
        obtain ⟨rfl, hS, hl⟩ := hI
        have hw9 := w_le (by decide) (mnB hmn (show so < 5 by omega))
        refine lv_iload_n hx hb dX1_sumOfAll_11 rfl (lv_at hl 0 rfl) ?_
        refine lv_aload_n hx hb dX1_sumOfAll_12 rfl (lv_at hl 3 rfl) ?_
        refine va_get (D := (dC, dI)) (ci := 1) (v := .ref p1) (C := RX1) (T := TX1) (N := 11) hx hb hts iw hown hK hP 0 rfl rfl 1 (by decide) (hts (.fieldLink RX1 7 "ReelLoomModel" "many" "[I") (by decide +kernel)) (fun _ h9 => h9) rfl dX1_sumOfAll_13 ?_
        refine lv_iconst (v := nI 2) hx hb dX1_sumOfAll_16 (by decide) ?_
        refine lv_iload_n hx hb dX1_sumOfAll_17 rfl (lv_at hl 1 rfl) ?_
        refine lv_imul hx hb dX1_sumOfAll_18 ?_
        rw [pk_mul]
        refine va_iald hx hb hK hP 1 0 rfl rfl (vp_in_nI (by omega) (by omega)) dX1_sumOfAll_19 ?_
        rw [nI_clamp (show (2 * so) < 2 ^ 31 by omega)]
        refine lv_icmp_ge (tgt := 46) hx hb dX1_sumOfAll_20 (by decide) (fun h20 => ?_) (fun h20 => ?_)
        · skip
          exact absurd h20 (w_step hi)
        · skip
          refine lv_iload_n hx hb dX1_sumOfAll_23 rfl (lv_at hl 2 rfl) ?_
          refine lv_iload_n hx hb dX1_sumOfAll_24 rfl (lv_at hl 1 rfl) ?_
          refine lv_iconst (v := 1) hx hb dX1_sumOfAll_25 (by decide) ?_
          refine lv_iadd hx hb dX1_sumOfAll_26 ?_
          refine lv_aload_n hx hb dX1_sumOfAll_27 rfl (lv_at hl 3 rfl) ?_
          refine va_get (D := (dC, dI)) (ci := 1) (v := .ref p2) (C := RX1) (T := TX1) (N := 11) hx hb hts iw hown hK hP 0 rfl rfl 2 (by decide) (hts (.fieldLink RX1 13 "ReelLoomModel" "cells" "[I") (by decide +kernel)) (fun _ h9 => h9) rfl dX1_sumOfAll_28 ?_
          refine lv_iload_n hx hb dX1_sumOfAll_31 rfl (lv_at hl 1 rfl) ?_
          refine lv_iload_n hx hb dX1_sumOfAll_32 rfl (lv_at hl 0 rfl) ?_
          refine gx_calli (va_runS (As := [.int (nI so), .int (nI i)]) (rest := [.ref p2, .int ((nI so) + 1), .int (wIm me so (wOm me mn so) i)]) ⟨hx, hb, hml, hown, hts⟩ (k_X1_at l dC dI  _   so i ) (va_cwS 2 hts gX1_sumOfAll_X1_at rfl rfl rfl (by decide +kernel) ⟨Nat.le_of_ble_eq_true rfl, Nat.le_of_ble_eq_true rfl⟩) (pK_S (hK.sub (tys' := []) [] rfl)) rfl rfl hl.1 rfl (lv_room (Nat.le_of_ble_eq_true rfl)) dX1_sumOfAll_33 ⟨Nat.le_of_ble_eq_true rfl, Nat.le_of_ble_eq_true rfl⟩) (fun r_3 hr_3 => ?_)
          subst hr_3
          refine va_iald hx hb hK hP 2 0 rfl rfl (vp_in_nI (by omega) (by omega)) dX1_sumOfAll_36 ?_
          rw [nI_clamp (show (64 * (2 * so) + i) < 2 ^ 31 by omega)]
          refine lv_imul hx hb dX1_sumOfAll_37 ?_
          refine lv_iadd hx hb dX1_sumOfAll_38 ?_
          refine lv_istore_n (lv' := [(1, .int ((wIm me so (wOm me mn so) i) + (((nI so) + 1) * (me ((64 * (2 * so) + i)))))), (3, .int (nI i)), (2, .int (nI so)), (0, .ref p0)]) hx hb dX1_sumOfAll_39 rfl hl (by decide) rfl (fun ls hl => ?_)
          refine lv_iinc (v := nI (i + 1)) (lv' := [(3, .int (nI (i + 1))), (1, .int ((wIm me so (wOm me mn so) i) + (((nI so) + 1) * (me ((64 * (2 * so) + i)))))), (2, .int (nI so)), (0, .ref p0)]) hx hb dX1_sumOfAll_40 hl (k := 1) rfl (nI_1 _) (by decide) rfl (fun ls hl => ?_)
          refine lv_goto (tgt := 11) hx hb dX1_sumOfAll_43 (by decide) ?_
          exact ih _ _ _ ⟨rfl, hS, lv_sub hl [0, 2, 1, 3] rfl⟩
      · skip
        obtain ⟨rfl, hS, hl⟩ := hI
        refine lv_iload_n hx hb dX1_sumOfAll_11 rfl (lv_at hl 0 rfl) ?_
        refine lv_aload_n hx hb dX1_sumOfAll_12 rfl (lv_at hl 3 rfl) ?_
        refine va_get (D := (dC, dI)) (ci := 1) (v := .ref p1) (C := RX1) (T := TX1) (N := 11) hx hb hts iw hown hK hP 0 rfl rfl 1 (by decide) (hts (.fieldLink RX1 7 "ReelLoomModel" "many" "[I") (by decide +kernel)) (fun _ h9 => h9) rfl dX1_sumOfAll_13 ?_
        refine lv_iconst (v := nI 2) hx hb dX1_sumOfAll_16 (by decide) ?_
        refine lv_iload_n hx hb dX1_sumOfAll_17 rfl (lv_at hl 1 rfl) ?_
        refine lv_imul hx hb dX1_sumOfAll_18 ?_
        rw [pk_mul]
        refine va_iald hx hb hK hP 1 0 rfl rfl (vp_in_nI (by omega) (by omega)) dX1_sumOfAll_19 ?_
        rw [nI_clamp (show (2 * so) < 2 ^ 31 by omega)]
        refine lv_icmp_ge (tgt := 46) hx hb dX1_sumOfAll_20 (by decide) (fun h20 => ?_) (fun h20 => ?_)
        · skip
          refine lv_iinc (v := nI (so + 1)) (lv' := [(2, .int (nI (so + 1))), (3, .int (nI (((mn (2 * so)).toNatClampNeg)))), (1, .int (wIm me so (wOm me mn so) (((mn (2 * so)).toNatClampNeg)))), (0, .ref p0)]) hx hb dX1_sumOfAll_46 hl (k := 1) rfl (nI_1 _) (by decide) rfl (fun ls hl => ?_)
          refine lv_goto (tgt := 4) hx hb dX1_sumOfAll_49 (by decide) ?_
          exact ih _ _ _ ⟨rfl, hS, lv_sub hl [0, 2, 3] rfl⟩
        · skip
          exact absurd (w_last _) h20
  · skip
    obtain ⟨rfl, hS, hl⟩ := hI
    refine lv_iload_n hx hb dX1_sumOfAll_4 rfl (lv_at hl 0 rfl) ?_
    refine lv_iconst (v := nI 5) hx hb dX1_sumOfAll_5 (by decide) ?_
    refine lv_icmp_ge (tgt := 52) hx hb dX1_sumOfAll_6 (by decide) (fun c_5 => ?_) (fun c_5 => ?_)
    · skip
      refine lv_iload_n hx hb dX1_sumOfAll_52 rfl (lv_at hl 1 rfl) ?_
      exact W.iret (v := (wOm me mn 5)) hx hb hr (fun t ht hW => ⟨(wOm me mn 5), rfl, rfl, ht⟩) hS.2.2 dX1_sumOfAll_53
    · skip
      exact absurd (nI_le (Nat.le_refl _) (by omega)) c_5
set_option maxHeartbeats 4000000 in
set_option maxRecDepth 100000 in
theorem k_X1_sum (l : Launch) (dC : Nat → ClassId) (dI : Nat → Nat → Nat) (cyI cyZ : ClassId) (H0 : Heap) (p0 p1 p2 p3 p4 : Nat) (mn me ml mt : Nat → Int32) (th wo mr mo mk mz mq : Int32) (hP : va_P (dC, dI) vwCl (wM cyI cyZ p0 p1 p2 p3 p4 mn me ml mt th wo mr mo mk mz mq) H0) (hD0 : va_D (fun _ => True) (wM cyI cyZ p0 p1 p2 p3 p4 mn me ml mt th wo mr mo mk mz mq)) (x : Int32) (hmn : ∀ k, k < 5 → mn (2 * k) = -1 ∨ ∃ n : Nat, n ≤ 64 ∧ mn (2 * k) = nI n) (hmr : mr ≤ nI 40) : Met l yX1_sum wsX1_sum ({ frames := 2, cells := 0, slots := 0, locals := 44 }) (va_Pc [.ref p0, .int x] (pK dC dI (tyW cyI cyZ) H0)) (va_Qi (fun (r : Int32) (u : Int32) => match u with | th2 => ((x.toInt < 0 ∨ 4 < x.toInt) ∧ th2 = 1) ∨ (th2 = 0 ∧ ((x = 0 ∧ r = wOm me mn 5) ∨ (x = 1 ∧ r = nOffM mn 5) ∨ (x = 2 ∧ r = (if wo = 0 then -1 else mr)) ∨ (x = 3 ∧ r = (if wo = 0 then -1 else mo)) ∨ (x = 4 ∧ r = (if wo = 0 then -1 else nCutM mt mr.toNatClampNeg))))) (fun (u : Int32) (t : State) => match u with | th2 => va_P (dC, dI) vwCl (wM cyI cyZ p0 p1 p2 p3 p4 mn me ml mt th2 wo mr mo mk mz mq) t.heap) (va_A (wM cyI cyZ p0 p1 p2 p3 p4 mn me ml mt th wo mr mo mk mz mq) H0.size)) 0 0 (va_A (wM cyI cyZ p0 p1 p2 p3 p4 mn me ml mt th wo mr mo mk mz mq) H0.size) := by
  refine Met.ofW (cc := cX1_sum) (maxL := 4) (ret := (some .int)) (by decide) rfl ?_
  intro p e s m args below meth c s₁ B hml hv
  obtain ⟨rfl, rfl, hK⟩ := hv
  have hx := B.exec
  have hb := B.bytes
  have hr := B.returns
  have hts := atoms_spec (ws := wsX1_sum) B.pre
  have hown : s.vm.findClass RX1 = some m.cls := findClass_of_methodNamed B.named
  have hlocks := B.notSynchronized
  have hD := hD0.self (sz := s.heap.size)
  generalize hAe : (va_A (wM cyI cyZ p0 p1 p2 p3 p4 mn me ml mt th wo mr mo mk mz mq) s.heap.size) = A at hD ⊢
  have hA : ∀ q : Nat, s.heap.size ≤ q → A q := fun q h => by rw [← hAe]; exact Or.inr h
  have hS : va_S A s.heap s.heap [] := va_S.rf
  have hl := lv_entry ([.ref p0, .int x]) (n := 4) (Nat.le_of_ble_eq_true rfl)
  rw [lg_entry_eq]
  generalize (lg_sl ([.ref p0, .int x]) ++ List.replicate (4 - (lg_sl ([.ref p0, .int x])).length) Slot.unset).toArray = ls at hl ⊢
  have hl : lv_has ls 4 [(0, .ref p0), (1, .int x)] := hl
  have iw : ∀ w ∈ wsX10, w ∈ wsX1_sum := by decide +kernel
  refine lv_aload_n hx hb dX1_sum_0 rfl (lv_at hl 0 rfl) ?_
  refine lv_iload_n hx hb dX1_sum_1 rfl (lv_at hl 1 rfl) ?_
  refine lv_if_lt (tgt := 10) hx hb dX1_sum_2 (by decide) (fun h2 => ?_) (fun h2 => ?_)
  · skip
    refine lv_iconst (v := 1) hx hb dX1_sum_10 (by decide) ?_
    refine lv_goto (tgt := 15) hx hb dX1_sum_11 (by decide) ?_
    refine va_put (D := (dC, dI)) (ci := 1) (v := .int 1) (ty := .int) (C := RX1) (T := TX1) (N := 11) hx hb hts iw tyX1 tyX1_ok nmX1 hown hK hP hD hS 0 rfl rfl 0 (by decide) (hts (.fieldLink RX1 23 "ReelLoomModel" "thrown" "I") (by decide +kernel)) (fun _ h9 => h9) rfl (by decide +kernel) rfl rfl (Nat.le_of_ble_eq_true rfl) dX1_sum_15 (fun H locs hP hD hS => ?_)
    have hP : va_P (dC, dI) vwCl (wM cyI cyZ p0 p1 p2 p3 p4 mn me ml mt 1 wo mr mo mk mz mq) H := hP
    have hD : va_D A (wM cyI cyZ p0 p1 p2 p3 p4 mn me ml mt 1 wo mr mo mk mz mq) := hD
    refine lv_iconst (v := 0) hx hb dX1_sum_18 (by decide) ?_
    refine lv_istore_n (lv' := [(2, .int 0), (0, .ref p0), (1, .int x)]) hx hb dX1_sum_19 rfl hl (by decide) rfl (fun ls hl => ?_)
    refine lv_iload_n hx hb dX1_sum_20 rfl (lv_at hl 2 rfl) ?_
    rcases sw5 x with rfl | rfl | rfl | rfl | rfl | hout
    · skip
      exact absurd (by first | exact Or.inl h2 | exact Or.inr h7) (by decide : ¬ ((0 : Int32) < 0 ∨ ¬ (0 : Int32) ≤ nI 4))
    · skip
      exact absurd (by first | exact Or.inl h2 | exact Or.inr h7) (by decide : ¬ ((1 : Int32) < 0 ∨ ¬ (1 : Int32) ≤ nI 4))
    · skip
      exact absurd (by first | exact Or.inl h2 | exact Or.inr h7) (by decide : ¬ ((2 : Int32) < 0 ∨ ¬ (2 : Int32) ≤ nI 4))
    · skip
      exact absurd (by first | exact Or.inl h2 | exact Or.inr h7) (by decide : ¬ ((3 : Int32) < 0 ∨ ¬ (3 : Int32) ≤ nI 4))
    · skip
      exact absurd (by first | exact Or.inl h2 | exact Or.inr h7) (by decide : ¬ ((4 : Int32) < 0 ∨ ¬ (4 : Int32) ≤ nI 4))
    · skip
      refine lv_tableOut (tgt := 174) hx hb dX1_sum_21 hout (by decide) ?_
      refine lv_iconst (v := 0) hx hb dX1_sum_174 (by decide) ?_
      exact W.iret (v := 0) hx hb hr (fun t ht hW => ⟨⟨0, 1, rfl, Or.inl ⟨hout, rfl⟩, by show va_P (dC, dI) vwCl (wM cyI cyZ p0 p1 p2 p3 p4 mn me ml mt 1 wo mr mo mk mz mq) t.heap; rw [ht]; exact hP⟩, hS.F ht⟩) hS.2.2 dX1_sum_175
  · skip
    refine lv_iload_n hx hb dX1_sum_5 rfl (lv_at hl 1 rfl) ?_
    refine lv_iconst (v := nI 4) hx hb dX1_sum_6 (by decide) ?_
    refine lv_icmp_le (tgt := 14) hx hb dX1_sum_7 (by decide) (fun h7 => ?_) (fun h7 => ?_)
    · skip
      refine lv_iconst (v := 0) hx hb dX1_sum_14 (by decide) ?_
      refine va_put (D := (dC, dI)) (ci := 1) (v := .int 0) (ty := .int) (C := RX1) (T := TX1) (N := 11) hx hb hts iw tyX1 tyX1_ok nmX1 hown hK hP hD hS 0 rfl rfl 0 (by decide) (hts (.fieldLink RX1 23 "ReelLoomModel" "thrown" "I") (by decide +kernel)) (fun _ h9 => h9) rfl (by decide +kernel) rfl rfl (Nat.le_of_ble_eq_true rfl) dX1_sum_15 (fun H locs hP hD hS => ?_)
      have hP : va_P (dC, dI) vwCl (wM cyI cyZ p0 p1 p2 p3 p4 mn me ml mt 0 wo mr mo mk mz mq) H := hP
      have hD : va_D A (wM cyI cyZ p0 p1 p2 p3 p4 mn me ml mt 0 wo mr mo mk mz mq) := hD
      refine lv_iconst (v := 0) hx hb dX1_sum_18 (by decide) ?_
      refine lv_istore_n (lv' := [(2, .int 0), (0, .ref p0), (1, .int x)]) hx hb dX1_sum_19 rfl hl (by decide) rfl (fun ls hl => ?_)
      refine lv_iload_n hx hb dX1_sum_20 rfl (lv_at hl 2 rfl) ?_
      rcases sw5 x with rfl | rfl | rfl | rfl | rfl | hout
      · skip
        refine lv_tableIn (off := 35) (tgt := 56) hx hb dX1_sum_21 (by decide +kernel) (by decide +kernel) (by decide +kernel) (by decide) ?_
        refine lv_aload_n hx hb dX1_sum_56 rfl (lv_at hl 1 rfl) ?_
        refine gx_calli (va_runV (As := []) (rest := []) ⟨hx, hb, hml, hown, hts⟩ (k_X1_sumOfAll l dC dI cyI cyZ _ p0 p1 p2 p3 p4 mn me ml mt 0 wo mr mo mk mz mq hP (hD.weaken (fun _ _ _ _ => trivial))  hmn) (cwV 0 hts gX1_sum_X1_sumOfAll rfl rfl rfl (by decide +kernel) ⟨Nat.le_of_ble_eq_true rfl, Nat.le_of_ble_eq_true rfl⟩) (pK_V hK (va_recv hK hP (ci := 1) (q0 := 0) rfl rfl)) rfl rfl hl.1 rfl (lv_room (Nat.le_of_ble_eq_true rfl)) dX1_sum_57 ⟨Nat.le_of_ble_eq_true rfl, Nat.le_of_ble_eq_true rfl⟩) (fun r_3 hr_3 => ?_)
        subst hr_3
        exact W.iret (v := (wOm me mn 5)) hx hb hr (fun t ht hW => ⟨⟨(wOm me mn 5), 0, rfl, Or.inr ⟨rfl, Or.inl ⟨rfl, rfl⟩⟩, by show va_P (dC, dI) vwCl (wM cyI cyZ p0 p1 p2 p3 p4 mn me ml mt 0 wo mr mo mk mz mq) t.heap; rw [ht]; exact hP⟩, hS.F ht⟩) hS.2.2 dX1_sum_60
      · skip
        refine lv_tableIn (off := 40) (tgt := 61) hx hb dX1_sum_21 (by decide +kernel) (by decide +kernel) (by decide +kernel) (by decide) ?_
        refine lv_iconst (v := nI 0) hx hb dX1_sum_61 (by decide) ?_
        refine lv_istore_n (lv' := [(3, .int (nI 0)), (2, .int 0), (0, .ref p0), (1, .int 1)]) hx hb dX1_sum_62 rfl hl (by decide) rfl (fun ls hl => ?_)
        refine lpW (N := 5) (I := fun i H locs ls => va_P (dC, dI) vwCl (wM cyI cyZ p0 p1 p2 p3 p4 mn me ml mt 0 wo mr mo mk mz mq) H ∧ va_D A (wM cyI cyZ p0 p1 p2 p3 p4 mn me ml mt 0 wo mr mo mk mz mq) ∧ va_S A s.heap H locs ∧ lv_has ls 4 [(3, .int (nI i)), (2, .int (nOffM mn i)), (0, .ref p0), (1, .int 1)]) (fun i hi H locs ls hI ih => ?_) (fun H locs ls hI => ?_) 0 (Nat.zero_le _) ⟨hP, hD, hS, lv_sub hl [0, 1, 2, 3] rfl⟩
        · skip
          obtain ⟨hP, hD, hS, hl⟩ := hI
          refine lv_iload_n hx hb dX1_sum_63 rfl (lv_at hl 0 rfl) ?_
          refine lv_iconst (v := nI 5) hx hb dX1_sum_64 (by decide) ?_
          refine lv_icmp_ge (tgt := 94) hx hb dX1_sum_65 (by decide) (fun c_4 => ?_) (fun c_4 => ?_)
          · skip
            exact absurd c_4 (nI_ge (by omega) (by omega))
          · skip
            refine lv_iload_n hx hb dX1_sum_68 rfl (lv_at hl 1 rfl) ?_
            refine lv_aload_n hx hb dX1_sum_69 rfl (lv_at hl 2 rfl) ?_
            refine va_get (D := (dC, dI)) (ci := 1) (v := .ref p1) (C := RX1) (T := TX1) (N := 11) hx hb hts iw hown hK hP 0 rfl rfl 1 (by decide) (hts (.fieldLink RX1 7 "ReelLoomModel" "many" "[I") (by decide +kernel)) (fun _ h9 => h9) rfl dX1_sum_70 ?_
            refine lv_iconst (v := nI 2) hx hb dX1_sum_73 (by decide) ?_
            refine lv_iload_n hx hb dX1_sum_74 rfl (lv_at hl 0 rfl) ?_
            refine lv_imul hx hb dX1_sum_75 ?_
            rw [pk_mul]
            refine va_iald hx hb hK hP 1 0 rfl rfl (vp_in_nI (by omega) (by omega)) dX1_sum_76 ?_
            rw [nI_clamp (show (2 * i) < 2 ^ 31 by omega)]
            refine lv_iconst (v := -1) hx hb dX1_sum_77 (by decide) ?_
            refine lv_icmp_ne (tgt := 85) hx hb dX1_sum_78 (by decide) (fun h78 => ?_) (fun h78 => ?_)
            · skip
              refine lv_iconst (v := 0) hx hb dX1_sum_85 (by decide) ?_
              refine lv_iadd hx hb dX1_sum_86 ?_
              refine lv_istore_n (lv' := [(2, .int ((nOffM mn i) + 0)), (3, .int (nI i)), (0, .ref p0), (1, .int 1)]) hx hb dX1_sum_87 rfl hl (by decide) rfl (fun ls hl => ?_)
              refine lv_iinc (v := nI (i + 1)) (lv' := [(3, .int (nI (i + 1))), (2, .int ((nOffM mn i) + 0)), (0, .ref p0), (1, .int 1)]) hx hb dX1_sum_88 hl (k := 1) rfl (nI_1 _) (by decide) rfl (fun ls hl => ?_)
              refine lv_goto (tgt := 63) hx hb dX1_sum_91 (by decide) ?_
              have e1 : (nOffM mn i) + 0 = nOffM mn (i + 1) := by show _ = nOffM mn i + (if _ then _ else _); first | rw [if_pos h78] | rw [if_neg h78]
              rw [e1] at hl
              exact ih _ _ _ ⟨hP, hD, hS, lv_sub hl [0, 1, 2, 3] rfl⟩
            · skip
              refine lv_iconst (v := 1) hx hb dX1_sum_81 (by decide) ?_
              refine lv_goto (tgt := 86) hx hb dX1_sum_82 (by decide) ?_
              refine lv_iadd hx hb dX1_sum_86 ?_
              refine lv_istore_n (lv' := [(2, .int ((nOffM mn i) + 1)), (3, .int (nI i)), (0, .ref p0), (1, .int 1)]) hx hb dX1_sum_87 rfl hl (by decide) rfl (fun ls hl => ?_)
              refine lv_iinc (v := nI (i + 1)) (lv' := [(3, .int (nI (i + 1))), (2, .int ((nOffM mn i) + 1)), (0, .ref p0), (1, .int 1)]) hx hb dX1_sum_88 hl (k := 1) rfl (nI_1 _) (by decide) rfl (fun ls hl => ?_)
              refine lv_goto (tgt := 63) hx hb dX1_sum_91 (by decide) ?_
              have e1 : (nOffM mn i) + 1 = nOffM mn (i + 1) := by show _ = nOffM mn i + (if _ then _ else _); first | rw [if_pos h78] | rw [if_neg h78]
              rw [e1] at hl
              exact ih _ _ _ ⟨hP, hD, hS, lv_sub hl [0, 1, 2, 3] rfl⟩
        · skip
          obtain ⟨hP, hD, hS, hl⟩ := hI
          refine lv_iload_n hx hb dX1_sum_63 rfl (lv_at hl 0 rfl) ?_
          refine lv_iconst (v := nI 5) hx hb dX1_sum_64 (by decide) ?_
          refine lv_icmp_ge (tgt := 94) hx hb dX1_sum_65 (by decide) (fun c_6 => ?_) (fun c_6 => ?_)
          · skip
            refine lv_iload_n hx hb dX1_sum_94 rfl (lv_at hl 1 rfl) ?_
            exact W.iret (v := (nOffM mn 5)) hx hb hr (fun t ht hW => ⟨⟨(nOffM mn 5), 0, rfl, Or.inr ⟨rfl, Or.inr (Or.inl ⟨rfl, rfl⟩)⟩, by show va_P (dC, dI) vwCl (wM cyI cyZ p0 p1 p2 p3 p4 mn me ml mt 0 wo mr mo mk mz mq) t.heap; rw [ht]; exact hP⟩, hS.F ht⟩) hS.2.2 dX1_sum_95
          · skip
            exact absurd (nI_le (Nat.le_refl _) (by omega)) c_6
      · skip
        refine lv_tableIn (off := 75) (tgt := 96) hx hb dX1_sum_21 (by decide +kernel) (by decide +kernel) (by decide +kernel) (by decide) ?_
        refine lv_aload_n hx hb dX1_sum_96 rfl (lv_at hl 1 rfl) ?_
        refine va_get (D := (dC, dI)) (ci := 1) (v := .int wo) (C := RX1) (T := TX1) (N := 11) hx hb hts iw hown hK hP 0 rfl rfl 3 (by decide) (hts (.fieldLink RX1 73 "ReelLoomModel" "isWoven" "Z") (by decide +kernel)) (fun _ h9 => h9) rfl dX1_sum_97 ?_
        refine lv_if_eq (tgt := 110) hx hb dX1_sum_100 (by decide) (fun h100 => ?_) (fun h100 => ?_)
        · skip
          refine lv_iconst (v := -1) hx hb dX1_sum_110 (by decide) ?_
          exact W.iret (v := (-1)) hx hb hr (fun t ht hW => ⟨⟨(-1), 0, rfl, Or.inr ⟨rfl, Or.inr (Or.inr (Or.inl ⟨rfl, by first | exact (if_pos h100).symm | exact (if_neg h100).symm⟩))⟩, by show va_P (dC, dI) vwCl (wM cyI cyZ p0 p1 p2 p3 p4 mn me ml mt 0 wo mr mo mk mz mq) t.heap; rw [ht]; exact hP⟩, hS.F ht⟩) hS.2.2 dX1_sum_111
        · skip
          refine lv_aload_n hx hb dX1_sum_103 rfl (lv_at hl 1 rfl) ?_
          refine va_get (D := (dC, dI)) (ci := 1) (v := .int mr) (C := RX1) (T := TX1) (N := 11) hx hb hts iw hown hK hP 0 rfl rfl 4 (by decide) (hts (.fieldLink RX1 67 "ReelLoomModel" "rows" "I") (by decide +kernel)) (fun _ h9 => h9) rfl dX1_sum_104 ?_
          refine lv_goto (tgt := 111) hx hb dX1_sum_107 (by decide) ?_
          exact W.iret (v := mr) hx hb hr (fun t ht hW => ⟨⟨mr, 0, rfl, Or.inr ⟨rfl, Or.inr (Or.inr (Or.inl ⟨rfl, by first | exact (if_pos h100).symm | exact (if_neg h100).symm⟩))⟩, by show va_P (dC, dI) vwCl (wM cyI cyZ p0 p1 p2 p3 p4 mn me ml mt 0 wo mr mo mk mz mq) t.heap; rw [ht]; exact hP⟩, hS.F ht⟩) hS.2.2 dX1_sum_111
      · skip
        refine lv_tableIn (off := 91) (tgt := 112) hx hb dX1_sum_21 (by decide +kernel) (by decide +kernel) (by decide +kernel) (by decide) ?_
        refine lv_aload_n hx hb dX1_sum_112 rfl (lv_at hl 1 rfl) ?_
        refine va_get (D := (dC, dI)) (ci := 1) (v := .int wo) (C := RX1) (T := TX1) (N := 11) hx hb hts iw hown hK hP 0 rfl rfl 3 (by decide) (hts (.fieldLink RX1 73 "ReelLoomModel" "isWoven" "Z") (by decide +kernel)) (fun _ h9 => h9) rfl dX1_sum_113 ?_
        refine lv_if_eq (tgt := 126) hx hb dX1_sum_116 (by decide) (fun h116 => ?_) (fun h116 => ?_)
        · skip
          refine lv_iconst (v := -1) hx hb dX1_sum_126 (by decide) ?_
          exact W.iret (v := (-1)) hx hb hr (fun t ht hW => ⟨⟨(-1), 0, rfl, Or.inr ⟨rfl, Or.inr (Or.inr (Or.inr (Or.inl ⟨rfl, by first | exact (if_pos h116).symm | exact (if_neg h116).symm⟩)))⟩, by show va_P (dC, dI) vwCl (wM cyI cyZ p0 p1 p2 p3 p4 mn me ml mt 0 wo mr mo mk mz mq) t.heap; rw [ht]; exact hP⟩, hS.F ht⟩) hS.2.2 dX1_sum_127
        · skip
          refine lv_aload_n hx hb dX1_sum_119 rfl (lv_at hl 1 rfl) ?_
          refine va_get (D := (dC, dI)) (ci := 1) (v := .int mo) (C := RX1) (T := TX1) (N := 11) hx hb hts iw hown hK hP 0 rfl rfl 5 (by decide) (hts (.fieldLink RX1 70 "ReelLoomModel" "columns" "I") (by decide +kernel)) (fun _ h9 => h9) rfl dX1_sum_120 ?_
          refine lv_goto (tgt := 127) hx hb dX1_sum_123 (by decide) ?_
          exact W.iret (v := mo) hx hb hr (fun t ht hW => ⟨⟨mo, 0, rfl, Or.inr ⟨rfl, Or.inr (Or.inr (Or.inr (Or.inl ⟨rfl, by first | exact (if_pos h116).symm | exact (if_neg h116).symm⟩)))⟩, by show va_P (dC, dI) vwCl (wM cyI cyZ p0 p1 p2 p3 p4 mn me ml mt 0 wo mr mo mk mz mq) t.heap; rw [ht]; exact hP⟩, hS.F ht⟩) hS.2.2 dX1_sum_127
      · skip
        refine lv_tableIn (off := 107) (tgt := 128) hx hb dX1_sum_21 (by decide +kernel) (by decide +kernel) (by decide +kernel) (by decide) ?_
        refine lv_iconst (v := nI 0) hx hb dX1_sum_128 (by decide) ?_
        refine lv_istore_n (lv' := [(3, .int (nI 0)), (2, .int 0), (0, .ref p0), (1, .int 4)]) hx hb dX1_sum_129 rfl hl (by decide) rfl (fun ls hl => ?_)
        refine lpW (N := mr.toNatClampNeg) (I := fun i H locs ls => va_P (dC, dI) vwCl (wM cyI cyZ p0 p1 p2 p3 p4 mn me ml mt 0 wo mr mo mk mz mq) H ∧ va_D A (wM cyI cyZ p0 p1 p2 p3 p4 mn me ml mt 0 wo mr mo mk mz mq) ∧ va_S A s.heap H locs ∧ lv_has ls 4 [(3, .int (nI i)), (2, .int (nCutM mt i)), (0, .ref p0), (1, .int 4)]) (fun i hi H locs ls hI ih => ?_) (fun H locs ls hI => ?_) 0 (Nat.zero_le _) ⟨hP, hD, hS, lv_sub hl [0, 1, 2, 3] rfl⟩
        · skip
          obtain ⟨hP, hD, hS, hl⟩ := hI
          have hw9 := w_le (by decide) hmr
          refine lv_iload_n hx hb dX1_sum_130 rfl (lv_at hl 0 rfl) ?_
          refine lv_aload_n hx hb dX1_sum_131 rfl (lv_at hl 2 rfl) ?_
          refine va_get (D := (dC, dI)) (ci := 1) (v := .int mr) (C := RX1) (T := TX1) (N := 11) hx hb hts iw hown hK hP 0 rfl rfl 4 (by decide) (hts (.fieldLink RX1 67 "ReelLoomModel" "rows" "I") (by decide +kernel)) (fun _ h9 => h9) rfl dX1_sum_132 ?_
          refine lv_icmp_ge (tgt := 161) hx hb dX1_sum_135 (by decide) (fun h135 => ?_) (fun h135 => ?_)
          · skip
            exact absurd h135 (w_step hi)
          · skip
            refine lv_iload_n hx hb dX1_sum_138 rfl (lv_at hl 1 rfl) ?_
            refine lv_aload_n hx hb dX1_sum_139 rfl (lv_at hl 2 rfl) ?_
            refine va_get (D := (dC, dI)) (ci := 1) (v := .ref p4) (C := RX1) (T := TX1) (N := 11) hx hb hts iw hown hK hP 0 rfl rfl 7 (by decide) (hts (.fieldLink RX1 19 "ReelLoomModel" "isCut" "[Z") (by decide +kernel)) (fun _ h9 => h9) rfl dX1_sum_140 ?_
            refine lv_iload_n hx hb dX1_sum_143 rfl (lv_at hl 0 rfl) ?_
            refine va_zald hx hb hK hP 4 1 rfl rfl (vp_in_nI (by omega) (by omega)) dX1_sum_144 ?_
            rw [nI_clamp (show i < 2 ^ 31 by omega)]
            refine lv_if_eq (tgt := 152) hx hb dX1_sum_145 (by decide) (fun h145 => ?_) (fun h145 => ?_)
            · skip
              refine lv_iconst (v := 0) hx hb dX1_sum_152 (by decide) ?_
              refine lv_iadd hx hb dX1_sum_153 ?_
              refine lv_istore_n (lv' := [(2, .int ((nCutM mt i) + 0)), (3, .int (nI i)), (0, .ref p0), (1, .int 4)]) hx hb dX1_sum_154 rfl hl (by decide) rfl (fun ls hl => ?_)
              refine lv_iinc (v := nI (i + 1)) (lv' := [(3, .int (nI (i + 1))), (2, .int ((nCutM mt i) + 0)), (0, .ref p0), (1, .int 4)]) hx hb dX1_sum_155 hl (k := 1) rfl (nI_1 _) (by decide) rfl (fun ls hl => ?_)
              refine lv_goto (tgt := 130) hx hb dX1_sum_158 (by decide) ?_
              have e1 : (nCutM mt i) + 0 = nCutM mt (i + 1) := by show _ = nCutM mt i + (if _ then _ else _); first | rw [if_pos h145] | rw [if_neg h145]
              rw [e1] at hl
              exact ih _ _ _ ⟨hP, hD, hS, lv_sub hl [0, 1, 2, 3] rfl⟩
            · skip
              refine lv_iconst (v := 1) hx hb dX1_sum_148 (by decide) ?_
              refine lv_goto (tgt := 153) hx hb dX1_sum_149 (by decide) ?_
              refine lv_iadd hx hb dX1_sum_153 ?_
              refine lv_istore_n (lv' := [(2, .int ((nCutM mt i) + 1)), (3, .int (nI i)), (0, .ref p0), (1, .int 4)]) hx hb dX1_sum_154 rfl hl (by decide) rfl (fun ls hl => ?_)
              refine lv_iinc (v := nI (i + 1)) (lv' := [(3, .int (nI (i + 1))), (2, .int ((nCutM mt i) + 1)), (0, .ref p0), (1, .int 4)]) hx hb dX1_sum_155 hl (k := 1) rfl (nI_1 _) (by decide) rfl (fun ls hl => ?_)
              refine lv_goto (tgt := 130) hx hb dX1_sum_158 (by decide) ?_
              have e1 : (nCutM mt i) + 1 = nCutM mt (i + 1) := by show _ = nCutM mt i + (if _ then _ else _); first | rw [if_pos h145] | rw [if_neg h145]
              rw [e1] at hl
              exact ih _ _ _ ⟨hP, hD, hS, lv_sub hl [0, 1, 2, 3] rfl⟩
        · skip
          obtain ⟨hP, hD, hS, hl⟩ := hI
          refine lv_iload_n hx hb dX1_sum_130 rfl (lv_at hl 0 rfl) ?_
          refine lv_aload_n hx hb dX1_sum_131 rfl (lv_at hl 2 rfl) ?_
          refine va_get (D := (dC, dI)) (ci := 1) (v := .int mr) (C := RX1) (T := TX1) (N := 11) hx hb hts iw hown hK hP 0 rfl rfl 4 (by decide) (hts (.fieldLink RX1 67 "ReelLoomModel" "rows" "I") (by decide +kernel)) (fun _ h9 => h9) rfl dX1_sum_132 ?_
          refine lv_icmp_ge (tgt := 161) hx hb dX1_sum_135 (by decide) (fun h135 => ?_) (fun h135 => ?_)
          · skip
            refine lv_aload_n hx hb dX1_sum_161 rfl (lv_at hl 2 rfl) ?_
            refine va_get (D := (dC, dI)) (ci := 1) (v := .int wo) (C := RX1) (T := TX1) (N := 11) hx hb hts iw hown hK hP 0 rfl rfl 3 (by decide) (hts (.fieldLink RX1 73 "ReelLoomModel" "isWoven" "Z") (by decide +kernel)) (fun _ h9 => h9) rfl dX1_sum_162 ?_
            refine lv_if_eq (tgt := 172) hx hb dX1_sum_165 (by decide) (fun h165 => ?_) (fun h165 => ?_)
            · skip
              refine lv_iconst (v := -1) hx hb dX1_sum_172 (by decide) ?_
              exact W.iret (v := (-1)) hx hb hr (fun t ht hW => ⟨⟨(-1), 0, rfl, Or.inr ⟨rfl, Or.inr (Or.inr (Or.inr (Or.inr ⟨rfl, by first | exact (if_pos h165).symm | exact (if_neg h165).symm⟩)))⟩, by show va_P (dC, dI) vwCl (wM cyI cyZ p0 p1 p2 p3 p4 mn me ml mt 0 wo mr mo mk mz mq) t.heap; rw [ht]; exact hP⟩, hS.F ht⟩) hS.2.2 dX1_sum_173
            · skip
              refine lv_iload_n hx hb dX1_sum_168 rfl (lv_at hl 1 rfl) ?_
              refine lv_goto (tgt := 173) hx hb dX1_sum_169 (by decide) ?_
              exact W.iret (v := (nCutM mt mr.toNatClampNeg)) hx hb hr (fun t ht hW => ⟨⟨(nCutM mt mr.toNatClampNeg), 0, rfl, Or.inr ⟨rfl, Or.inr (Or.inr (Or.inr (Or.inr ⟨rfl, by first | exact (if_pos h165).symm | exact (if_neg h165).symm⟩)))⟩, by show va_P (dC, dI) vwCl (wM cyI cyZ p0 p1 p2 p3 p4 mn me ml mt 0 wo mr mo mk mz mq) t.heap; rw [ht]; exact hP⟩, hS.F ht⟩) hS.2.2 dX1_sum_173
          · skip
            exact absurd (w_last _) h135
      · skip
        exact absurd hout (i_in (by decide) h2 h7)
    · skip
      refine lv_iconst (v := 1) hx hb dX1_sum_10 (by decide) ?_
      refine lv_goto (tgt := 15) hx hb dX1_sum_11 (by decide) ?_
      refine va_put (D := (dC, dI)) (ci := 1) (v := .int 1) (ty := .int) (C := RX1) (T := TX1) (N := 11) hx hb hts iw tyX1 tyX1_ok nmX1 hown hK hP hD hS 0 rfl rfl 0 (by decide) (hts (.fieldLink RX1 23 "ReelLoomModel" "thrown" "I") (by decide +kernel)) (fun _ h9 => h9) rfl (by decide +kernel) rfl rfl (Nat.le_of_ble_eq_true rfl) dX1_sum_15 (fun H locs hP hD hS => ?_)
      have hP : va_P (dC, dI) vwCl (wM cyI cyZ p0 p1 p2 p3 p4 mn me ml mt 1 wo mr mo mk mz mq) H := hP
      have hD : va_D A (wM cyI cyZ p0 p1 p2 p3 p4 mn me ml mt 1 wo mr mo mk mz mq) := hD
      refine lv_iconst (v := 0) hx hb dX1_sum_18 (by decide) ?_
      refine lv_istore_n (lv' := [(2, .int 0), (0, .ref p0), (1, .int x)]) hx hb dX1_sum_19 rfl hl (by decide) rfl (fun ls hl => ?_)
      refine lv_iload_n hx hb dX1_sum_20 rfl (lv_at hl 2 rfl) ?_
      rcases sw5 x with rfl | rfl | rfl | rfl | rfl | hout
      · skip
        exact absurd (by first | exact Or.inl h2 | exact Or.inr h7) (by decide : ¬ ((0 : Int32) < 0 ∨ ¬ (0 : Int32) ≤ nI 4))
      · skip
        exact absurd (by first | exact Or.inl h2 | exact Or.inr h7) (by decide : ¬ ((1 : Int32) < 0 ∨ ¬ (1 : Int32) ≤ nI 4))
      · skip
        exact absurd (by first | exact Or.inl h2 | exact Or.inr h7) (by decide : ¬ ((2 : Int32) < 0 ∨ ¬ (2 : Int32) ≤ nI 4))
      · skip
        exact absurd (by first | exact Or.inl h2 | exact Or.inr h7) (by decide : ¬ ((3 : Int32) < 0 ∨ ¬ (3 : Int32) ≤ nI 4))
      · skip
        exact absurd (by first | exact Or.inl h2 | exact Or.inr h7) (by decide : ¬ ((4 : Int32) < 0 ∨ ¬ (4 : Int32) ≤ nI 4))
      · skip
        refine lv_tableOut (tgt := 174) hx hb dX1_sum_21 hout (by decide) ?_
        refine lv_iconst (v := 0) hx hb dX1_sum_174 (by decide) ?_
        exact W.iret (v := 0) hx hb hr (fun t ht hW => ⟨⟨0, 1, rfl, Or.inl ⟨hout, rfl⟩, by show va_P (dC, dI) vwCl (wM cyI cyZ p0 p1 p2 p3 p4 mn me ml mt 1 wo mr mo mk mz mq) t.heap; rw [ht]; exact hP⟩, hS.F ht⟩) hS.2.2 dX1_sum_175
