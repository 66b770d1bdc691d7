set_option maxHeartbeats 4000000 in
set_option maxRecDepth 100000 in
theorem k_X0_pass (l : Launch) (hst : l.stackTraces = false) (dC : Nat → ClassId) (dI : Nat → Nat → Nat) (cyI cyZ : ClassId) (H0 : Heap) (q0 q1 q2 q3 q4 q5 q6 : Nat) (wc wl sc sl cl ct : Nat → Int32) (rw co sk ss sq : Int32) (hP : va_P (dC, dI) vwCl (wX cyI cyZ q0 q1 q2 q3 q4 q5 q6 wc wl sc sl cl ct rw co sk ss sq) H0) (hD0 : va_D (fun _ => True) (wX cyI cyZ q0 q1 q2 q3 q4 q5 q6 wc wl sc sl cl ct rw co sk ss sq)) (x : Int32) (y : Int32) (hrw : rw ≤ nI 40) (hco : co ≤ nI 40) : vx_Met l yX0_pass wsX0_pass ({ frames := 7, cells := 1, slots := 6, locals := 116 }) (va_Pc [.ref q0, .int x, .int y] (pZ dC dI (tyW cyI cyZ) H0 (va_A (wX cyI cyZ q0 q1 q2 q3 q4 q5 q6 wc wl sc sl cl ct rw co sk ss sq) H0.size))) (va_Qi (fun (r : Int32) (u : Nat × Nat × (Nat → Int32) × (Nat → Int32) × Int32 × Int32) => match u with | (ro, jj, wc2, cl2, sk2, ss2) => x = nI ro ∧ ro < 40 ∧ (¬ y < 0 ∧ y ≤ 65535) ∧ ¬ rw = -1 ∧ nI ro < rw ∧ prun wl ct ro y co.toNatClampNeg 0 wc cl 0 0 = (jj, wc2, cl2, sk2, ss2) ∧ r = nI jj) (fun (u : Nat × Nat × (Nat → Int32) × (Nat → Int32) × Int32 × Int32) (t : State) => match u with | (ro, jj, wc2, cl2, sk2, ss2) => va_P (dC, dI) vwCl (wX cyI cyZ q0 q1 q2 q3 q4 q5 q6 wc2 wl sc sl cl2 ct rw co sk2 ss2 (nI jj)) t.heap) (va_A (wX cyI cyZ q0 q1 q2 q3 q4 q5 q6 wc wl sc sl cl ct rw co sk ss sq) H0.size)) (gx_X (fun E : String => (E = eIA ∧ ¬ (¬ y < 0 ∧ y ≤ 65535)) ∨ (E = eIS ∧ (¬ y < 0 ∧ y ≤ 65535) ∧ rw = -1) ∨ (E = eIO ∧ (¬ y < 0 ∧ y ≤ 65535) ∧ ¬ rw = -1 ∧ ¬ (¬ x < 0 ∧ x < rw))) H0) 1 6 (va_A (wX cyI cyZ q0 q1 q2 q3 q4 q5 q6 wc wl sc sl cl ct rw co sk ss sq) H0.size) := by
  refine vx_ofW (cc := cX0_pass) (maxL := 4) (ret := (some .int)) (by decide) rfl ?_
  intro p e s m args below meth c s₁ B hml hne hv
  obtain ⟨rfl, rfl, hK, hz⟩ := hv
  have hx := B.exec
  have hb := B.bytes
  have hr := B.returns
  have hts := atoms_spec (ws := wsX0_pass) B.pre
  have hown : s.vm.findClass RX0 = some m.cls := findClass_of_methodNamed B.named
  have hlocks := B.notSynchronized
  have hD := hD0.self (sz := s.heap.size)
  generalize hAe : (va_A (wX cyI cyZ q0 q1 q2 q3 q4 q5 q6 wc wl sc sl cl ct rw co sk ss sq) s.heap.size) = A at hD hz ⊢
  have hA : ∀ q : Nat, s.heap.size ≤ q → A q := fun q h => by rw [← hAe]; exact Or.inr h
  have hS : va_S A s.heap s.heap [] := va_S.rf
  have hl := lv_entry ([.ref q0, .int x, .int y]) (n := 4) (Nat.le_of_ble_eq_true rfl)
  rw [lg_entry_eq]
  generalize (lg_sl ([.ref q0, .int x, .int y]) ++ List.replicate (4 - (lg_sl ([.ref q0, .int x, .int y])).length) Slot.unset).toArray = ls at hl ⊢
  have hl : lv_has ls 4 [(0, .ref q0), (1, .int x), (2, .int y)] := hl
  have iw : ∀ w ∈ wsX00, w ∈ wsX0_pass := by decide +kernel
  refine lv_iload_n hx hb dX0_pass_0 rfl (lv_at hl 2 rfl) ?_
  refine lv_if_lt (tgt := 10) hx hb dX0_pass_1 (by decide) (fun h1 => ?_) (fun h1 => ?_)
  · skip
    obtain ⟨sa, hsa⟩ := hz.2.2.2 95 "a colour is 0 to 65535" (by decide)
    exact vx_throwS hx hb hst (own := RX0) (cls := "java/lang/IllegalArgumentException") (text := "a colour is 0 to 65535") (names := zN) (ik := 55) (is := 95) (ic := 59) (sa := sa) (A := A) hown (by decide) (by decide) (hts (.classLink RX0 55 "java/lang/IllegalArgumentException") (by decide +kernel)) (hts (.initialized "java/lang/IllegalArgumentException") (by decide +kernel)) hsa (zHatIA hz (fun w h => hts w (List.mem_cons_of_mem _ (List.mem_append_left _ (List.mem_append_left _ (List.mem_append_right _ h)))))) zGdIA hz.1 hz.2.1 hS (hl.1.trans hml.symm) dX0_pass_10 dX0_pass_13 dX0_pass_14 dX0_pass_16 dX0_pass_19 (fun y h => (hne y h).elim) (by decide) (by decide) (by decide) (by decide) hlocks (fun t hal hz9 hk9 => ⟨Or.inl ⟨rfl, fun h => by first | exact h.1 h1 | exact h7 h.2⟩, hz9, hk9⟩) hS.2.2 (by decide) (by decide)
  · skip
    refine lv_iload_n hx hb dX0_pass_4 rfl (lv_at hl 2 rfl) ?_
    refine lv_ldc (v := 65535) hx hb hown (hts (.constant RX0 94 (65535)) (by decide +kernel)) dX0_pass_5 ?_
    refine lv_icmp_le (tgt := 20) hx hb dX0_pass_7 (by decide) (fun h7 => ?_) (fun h7 => ?_)
    · skip
      refine lv_aload_n hx hb dX0_pass_20 rfl (lv_at hl 0 rfl) ?_
      refine gx_callv (vx_runV (As := []) (rest := []) ⟨hx, hb, hml, hown, hts⟩ (k_X0_requireCloth l hst dC dI cyI cyZ _ q0 q1 q2 q3 q4 q5 q6 wc wl sc sl cl ct rw co sk ss sq hP (hD.weaken (fun _ _ _ _ => trivial))  ) (cwV 0 hts gX0_pass_X0_requireCloth rfl rfl rfl (by decide +kernel) ⟨Nat.le_of_ble_eq_true rfl, Nat.le_of_ble_eq_true rfl⟩) (pZ_V hK hz hS (fun q h => hA q (Nat.le_trans hS.1 h)) (va_recv hK hP (ci := 0) (q0 := 0) rfl rfl)) rfl rfl hl.1 rfl (lv_room (Nat.le_of_ble_eq_true rfl)) dX0_pass_21 ⟨Nat.le_of_ble_eq_true rfl, Nat.le_of_ble_eq_true rfl⟩) hS (fun q h => hA q (Nat.le_trans hS.1 h)) (fun E ce q9 H1 locs1 hbad hz9 hk9 hS9 hce hcv hcl => ?_) (fun hok => ?_)
      · skip
        exact vx_out (fun y h => (hne y h).elim) hlocks hce hcv hcl (fun t ht _ => ⟨Or.inr (Or.inl ⟨hbad.1, ⟨h1, h7⟩, hbad.2⟩), by rw [ht]; exact hz9, fun q hq => by rw [ht]; exact hk9 q hq⟩) hS9.2.2 (by decide) (by decide)
      · skip
        have k1 := hok
        refine lv_aload_n hx hb dX0_pass_24 rfl (lv_at hl 0 rfl) ?_
        refine lv_iload_n hx hb dX0_pass_25 rfl (lv_at hl 1 rfl) ?_
        refine gx_callv (vx_runV (As := [.int x]) (rest := []) ⟨hx, hb, hml, hown, hts⟩ (k_X0_requireRow l hst dC dI cyI cyZ _ q0 q1 q2 q3 q4 q5 q6 wc wl sc sl cl ct rw co sk ss sq hP (hD.weaken (fun _ _ _ _ => trivial)) x ) (cwV 1 hts gX0_pass_X0_requireRow rfl rfl rfl (by decide +kernel) ⟨Nat.le_of_ble_eq_true rfl, Nat.le_of_ble_eq_true rfl⟩) (pZ_V hK hz hS (fun q h => hA q (Nat.le_trans hS.1 h)) (va_recv hK hP (ci := 0) (q0 := 0) rfl rfl)) rfl rfl hl.1 rfl (lv_room (Nat.le_of_ble_eq_true rfl)) dX0_pass_26 ⟨Nat.le_of_ble_eq_true rfl, Nat.le_of_ble_eq_true rfl⟩) hS (fun q h => hA q (Nat.le_trans hS.1 h)) (fun E ce q9 H1 locs1 hbad hz9 hk9 hS9 hce hcv hcl => ?_) (fun hok => ?_)
        · skip
          exact vx_out (fun y h => (hne y h).elim) hlocks hce hcv hcl (fun t ht _ => ⟨Or.inr (Or.inr ⟨hbad.1, ⟨h1, h7⟩, k1, hbad.2⟩), by rw [ht]; exact hz9, fun q hq => by rw [ht]; exact hk9 q hq⟩) hS9.2.2 (by decide) (by decide)
        · skip
          have k2 := hok
          obtain ⟨ro, hro, rfl⟩ := in_of (n := 40) (by decide) hok.1 (i_lt hok.2 hrw)
          refine lv_aload_n hx hb dX0_pass_29 rfl (lv_at hl 0 rfl) ?_
          refine lv_iconst (v := 0) hx hb dX0_pass_30 (by decide) ?_
          refine va_put (D := (dC, dI)) (ci := 0) (v := .int 0) (ty := .int) (C := RX0) (T := TX0) (N := 11) hx hb hts iw tyX0 tyX0_ok nmX0 hown hK hP hD hS 0 rfl rfl 8 (by decide) (hts (.fieldLink RX0 42 "ReelLoom" "stopKind" "I") (by decide +kernel)) (fun _ h9 => h9) rfl (by decide +kernel) rfl rfl (Nat.le_of_ble_eq_true rfl) dX0_pass_31 (fun H locs hP hD hS => ?_)
          have hP : va_P (dC, dI) vwCl (wX cyI cyZ q0 q1 q2 q3 q4 q5 q6 wc wl sc sl cl ct rw co 0 ss sq) H := hP
          have hD : va_D A (wX cyI cyZ q0 q1 q2 q3 q4 q5 q6 wc wl sc sl cl ct rw co 0 ss sq) := hD
          refine lv_aload_n hx hb dX0_pass_34 rfl (lv_at hl 0 rfl) ?_
          refine lv_iconst (v := 0) hx hb dX0_pass_35 (by decide) ?_
          refine va_put (D := (dC, dI)) (ci := 0) (v := .int 0) (ty := .int) (C := RX0) (T := TX0) (N := 11) hx hb hts iw tyX0 tyX0_ok nmX0 hown hK hP hD hS 0 rfl rfl 9 (by decide) (hts (.fieldLink RX0 45 "ReelLoom" "stopSort" "I") (by decide +kernel)) (fun _ h9 => h9) rfl (by decide +kernel) rfl rfl (Nat.le_of_ble_eq_true rfl) dX0_pass_36 (fun H locs hP hD hS => ?_)
          have hP : va_P (dC, dI) vwCl (wX cyI cyZ q0 q1 q2 q3 q4 q5 q6 wc wl sc sl cl ct rw co 0 0 sq) H := hP
          have hD : va_D A (wX cyI cyZ q0 q1 q2 q3 q4 q5 q6 wc wl sc sl cl ct rw co 0 0 sq) := hD
          refine lv_iconst (v := nI 0) hx hb dX0_pass_39 (by decide) ?_
          refine lv_istore_n (lv' := [(3, .int (nI 0)), (0, .ref q0), (1, .int (nI ro)), (2, .int y)]) hx hb dX0_pass_40 rfl hl (by decide) rfl (fun ls hl => ?_)
          refine lpW (N := co.toNatClampNeg) (I := fun j H locs ls => ∃ wk : Nat → Int32, ∃ ck : Nat → Int32, ∃ kk : Int32, ∃ zk : Int32, prun wl ct ro y (co.toNatClampNeg - j) j wk ck kk zk = prun wl ct ro y co.toNatClampNeg 0 wc cl 0 0 ∧ va_P (dC, dI) vwCl (wX cyI cyZ q0 q1 q2 q3 q4 q5 q6 wk wl sc sl ck ct rw co kk zk sq) H ∧ va_D A (wX cyI cyZ q0 q1 q2 q3 q4 q5 q6 wk wl sc sl ck ct rw co kk zk sq) ∧ va_S A s.heap H locs ∧ lv_has ls 4 [(3, .int (nI j)), (0, .ref q0), (1, .int (nI ro)), (2, .int y)]) (fun j hi H locs ls hI ih => ?_) (fun H locs ls hI => ?_) 0 (Nat.zero_le _) ⟨wc, cl, 0, 0, rfl, hP, hD, hS, lv_sub hl [0, 1, 2, 3] rfl⟩
          · skip
            obtain ⟨wk, ck, kk, zk, hinv, hP, hD, hS, hl⟩ := hI
            have hw9 := w_le (by decide) hco
            refine lv_iload_n hx hb dX0_pass_41 rfl (lv_at hl 0 rfl) ?_
            refine lv_aload_n hx hb dX0_pass_42 rfl (lv_at hl 1 rfl) ?_
            refine va_get (D := (dC, dI)) (ci := 0) (v := .int co) (C := RX0) (T := TX0) (N := 11) hx hb hts iw hown hK hP 0 rfl rfl 7 (by decide) (hts (.fieldLink RX0 39 "ReelLoom" "columns" "I") (by decide +kernel)) (fun _ h9 => h9) rfl dX0_pass_43 ?_
            refine lv_icmp_ge (tgt := 65) hx hb dX0_pass_46 (by decide) (fun h46 => ?_) (fun h46 => ?_)
            · skip
              exact absurd h46 (w_step hi)
            · skip
              refine lv_aload_n hx hb dX0_pass_49 rfl (lv_at hl 1 rfl) ?_
              refine lv_iload_n hx hb dX0_pass_50 rfl (lv_at hl 2 rfl) ?_
              refine lv_iload_n hx hb dX0_pass_51 rfl (lv_at hl 0 rfl) ?_
              refine lv_iload_n hx hb dX0_pass_52 rfl (lv_at hl 3 rfl) ?_
              have hFc := va_free (wc := wX cyI cyZ q0 q1 q2 q3 q4 q5 q6 wk wl sc sl ck ct rw co kk zk sq) hD hS hA [0, 1, 2, 3, 4, 5, 6] rfl
              refine va_calli (va_runV (As := [.int (nI ro), .int (nI j), .int y]) (rest := []) ⟨hx, hb, hml, hown, hts⟩ (k_X0_passesColumn l dC dI cyI cyZ _ q0 q1 q2 q3 q4 q5 q6 wk wl sc sl ck ct rw co kk zk sq hP (hD.weaken (fun _ _ _ _ => trivial)) ro j y (by omega) (by omega)) (cwV 3 hts gX0_pass_X0_passesColumn rfl rfl rfl (by decide +kernel) ⟨Nat.le_of_ble_eq_true rfl, Nat.le_of_ble_eq_true rfl⟩) (pK_V hK (va_recv hK hP (ci := 0) (q0 := 0) rfl rfl)) rfl rfl hl.1 rfl (lv_room (Nat.le_of_ble_eq_true rfl)) dX0_pass_53 ⟨Nat.le_of_ble_eq_true rfl, Nat.le_of_ble_eq_true rfl⟩) hS (fun q _ h => hFc q h) hFc (fun r53 u t H1 locs ht hvm hw hB hz1 hk1 hS => ?_)
              obtain ⟨w53, c53, k53, z53⟩ := u
              dsimp only at hw
              have hP : va_P (dC, dI) vwCl (wX cyI cyZ q0 q1 q2 q3 q4 q5 q6 w53 wl sc sl c53 ct rw co k53 z53 sq) t.heap := hB
              rw [ht] at hP
              have hD : va_D A (wX cyI cyZ q0 q1 q2 q3 q4 q5 q6 w53 wl sc sl c53 ct rw co k53 z53 sq) := wX_D hD
              clear hB
              generalize H1 = H at hP hS ⊢
              refine lv_if_eq (tgt := 65) hx hb dX0_pass_56 (by decide) (fun h56 => ?_) (fun h56 => ?_)
              · skip
                have hpc := (hw.resolve_right (fun a => absurd (a.1.symm.trans h56) (by decide))).2
                rw [show co.toNatClampNeg - j = (co.toNatClampNeg - (j + 1)) + 1 by omega] at hinv
                simp only [prun, hpc] at hinv
                refine lv_aload_n hx hb dX0_pass_65 rfl (lv_at hl 1 rfl) ?_
                refine lv_iload_n hx hb dX0_pass_66 rfl (lv_at hl 0 rfl) ?_
                refine va_put (D := (dC, dI)) (ci := 0) (v := .int (nI j)) (ty := .int) (C := RX0) (T := TX0) (N := 11) hx hb hts iw tyX0 tyX0_ok nmX0 hown hK hP hD hS 0 rfl rfl 10 (by decide) (hts (.fieldLink RX0 48 "ReelLoom" "stopColumn" "I") (by decide +kernel)) (fun _ h9 => h9) rfl (by decide +kernel) rfl rfl (Nat.le_of_ble_eq_true rfl) dX0_pass_67 (fun H locs hP hD hS => ?_)
                have hP : va_P (dC, dI) vwCl (wX cyI cyZ q0 q1 q2 q3 q4 q5 q6 w53 wl sc sl c53 ct rw co k53 z53 (nI j)) H := hP
                have hD : va_D A (wX cyI cyZ q0 q1 q2 q3 q4 q5 q6 w53 wl sc sl c53 ct rw co k53 z53 (nI j)) := hD
                refine lv_iload_n hx hb dX0_pass_70 rfl (lv_at hl 0 rfl) ?_
                refine vx_ret ?_
                refine W.widen (k := 1) (n := 6) (by decide) (by decide) ?_
                exact W.iret (v := (nI j)) hx hb hr (fun t ht hW => ⟨⟨(nI j), (ro, j, w53, c53, k53, z53), rfl, ⟨rfl, hro, ⟨h1, h7⟩, k1, k2.2, hinv.symm, rfl⟩, by show va_P (dC, dI) vwCl (wX cyI cyZ q0 q1 q2 q3 q4 q5 q6 w53 wl sc sl c53 ct rw co k53 z53 (nI j)) t.heap; rw [ht]; exact hP⟩, hS.F ht⟩) hS.2.2 dX0_pass_71
              · skip
                have hpc := (hw.resolve_left (fun a => h56 a.1)).2
                rw [show co.toNatClampNeg - j = (co.toNatClampNeg - (j + 1)) + 1 by omega] at hinv
                simp only [prun, hpc] at hinv
                refine lv_iinc (v := nI (j + 1)) (lv' := [(3, .int (nI (j + 1))), (0, .ref q0), (1, .int (nI ro)), (2, .int y)]) hx hb dX0_pass_59 hl (k := 0) rfl (nI_1 _) (by decide) rfl (fun ls hl => ?_)
                refine lv_goto (tgt := 41) hx hb dX0_pass_62 (by decide) ?_
                exact ih _ _ _ ⟨w53, c53, k53, z53, hinv, hP, hD, hS, lv_sub hl [0, 1, 2, 3] rfl⟩
          · skip
            obtain ⟨wk, ck, kk, zk, hinv, hP, hD, hS, hl⟩ := hI
            rw [Nat.sub_self] at hinv
            refine lv_iload_n hx hb dX0_pass_41 rfl (lv_at hl 0 rfl) ?_
            refine lv_aload_n hx hb dX0_pass_42 rfl (lv_at hl 1 rfl) ?_
            refine va_get (D := (dC, dI)) (ci := 0) (v := .int co) (C := RX0) (T := TX0) (N := 11) hx hb hts iw hown hK hP 0 rfl rfl 7 (by decide) (hts (.fieldLink RX0 39 "ReelLoom" "columns" "I") (by decide +kernel)) (fun _ h9 => h9) rfl dX0_pass_43 ?_
            refine lv_icmp_ge (tgt := 65) hx hb dX0_pass_46 (by decide) (fun h46 => ?_) (fun h46 => ?_)
            · skip
              refine lv_aload_n hx hb dX0_pass_65 rfl (lv_at hl 1 rfl) ?_
              refine lv_iload_n hx hb dX0_pass_66 rfl (lv_at hl 0 rfl) ?_
              refine va_put (D := (dC, dI)) (ci := 0) (v := .int (nI co.toNatClampNeg)) (ty := .int) (C := RX0) (T := TX0) (N := 11) hx hb hts iw tyX0 tyX0_ok nmX0 hown hK hP hD hS 0 rfl rfl 10 (by decide) (hts (.fieldLink RX0 48 "ReelLoom" "stopColumn" "I") (by decide +kernel)) (fun _ h9 => h9) rfl (by decide +kernel) rfl rfl (Nat.le_of_ble_eq_true rfl) dX0_pass_67 (fun H locs hP hD hS => ?_)
              have hP : va_P (dC, dI) vwCl (wX cyI cyZ q0 q1 q2 q3 q4 q5 q6 wk wl sc sl ck ct rw co kk zk (nI co.toNatClampNeg)) H := hP
              have hD : va_D A (wX cyI cyZ q0 q1 q2 q3 q4 q5 q6 wk wl sc sl ck ct rw co kk zk (nI co.toNatClampNeg)) := hD
              refine lv_iload_n hx hb dX0_pass_70 rfl (lv_at hl 0 rfl) ?_
              refine vx_ret ?_
              refine W.widen (k := 1) (n := 6) (by decide) (by decide) ?_
              exact W.iret (v := (nI co.toNatClampNeg)) hx hb hr (fun t ht hW => ⟨⟨(nI co.toNatClampNeg), (ro, co.toNatClampNeg, wk, ck, kk, zk), rfl, ⟨rfl, hro, ⟨h1, h7⟩, k1, k2.2, hinv.symm, rfl⟩, by show va_P (dC, dI) vwCl (wX cyI cyZ q0 q1 q2 q3 q4 q5 q6 wk wl sc sl ck ct rw co kk zk (nI co.toNatClampNeg)) t.heap; rw [ht]; exact hP⟩, hS.F ht⟩) hS.2.2 dX0_pass_71
            · skip
              exact absurd (w_last _) h46
    · skip
      obtain ⟨sa, hsa⟩ := hz.2.2.2 95 "a colour is 0 to 65535" (by decide)
      exact vx_throwS hx hb hst (own := RX0) (cls := "java/lang/IllegalArgumentException") (text := "a colour is 0 to 65535") (names := zN) (ik := 55) (is := 95) (ic := 59) (sa := sa) (A := A) hown (by decide) (by decide) (hts (.classLink RX0 55 "java/lang/IllegalArgumentException") (by decide +kernel)) (hts (.initialized "java/lang/IllegalArgumentException") (by decide +kernel)) hsa (zHatIA hz (fun w h => hts w (List.mem_cons_of_mem _ (List.mem_append_left _ (List.mem_append_left _ (List.mem_append_right _ h)))))) zGdIA hz.1 hz.2.1 hS (hl.1.trans hml.symm) dX0_pass_10 dX0_pass_13 dX0_pass_14 dX0_pass_16 dX0_pass_19 (fun y h => (hne y h).elim) (by decide) (by decide) (by decide) (by decide) hlocks (fun t hal hz9 hk9 => ⟨Or.inl ⟨rfl, fun h => by first | exact h.1 h1 | exact h7 h.2⟩, hz9, hk9⟩) hS.2.2 (by decide) (by decide)
