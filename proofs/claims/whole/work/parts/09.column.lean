set_option maxHeartbeats 4000000 in
set_option maxRecDepth 100000 in
theorem k_X0_passesColumn (l : Launch) (dC : Nat → ClassId) (dI : Nat → Nat → Nat) (cyI cyZ : ClassId) (H0 : Heap) (q0 q1 q2 q3 q4 q5 q6 : Nat) (wc wl sc sl cl ct : Nat → Int32) (rw co sk ss sq : Int32) (hP : va_P (dC, dI) vwCl (wX cyI cyZ q0 q1 q2 q3 q4 q5 q6 wc wl sc sl cl ct rw co sk ss sq) H0) (hD0 : va_D (fun _ => True) (wX cyI cyZ q0 q1 q2 q3 q4 q5 q6 wc wl sc sl cl ct rw co sk ss sq)) (ro : Nat) (j : Nat) (v : Int32) (hro : ro < 40) (hj : j < 40) : Met l yX0_passesColumn wsX0_passesColumn ({ frames := 4, cells := 0, slots := 0, locals := 92 }) (va_Pc [.ref q0, .int (nI ro), .int (nI j), .int v] (pK dC dI (tyW cyI cyZ) H0)) (va_Qi (fun (r : Int32) (u : (Nat → Int32) × (Nat → Int32) × Int32 × Int32) => match u with | (wc2, cl2, sk2, ss2) => (r = 0 ∧ pcol wc wl cl ct sk ss ro j v = (false, wc2, cl2, sk2, ss2)) ∨ (r = 1 ∧ pcol wc wl cl ct sk ss ro j v = (true, wc2, cl2, sk2, ss2))) (fun (u : (Nat → Int32) × (Nat → Int32) × Int32 × Int32) (t : State) => match u with | (wc2, cl2, sk2, ss2) => va_P (dC, dI) vwCl (wX cyI cyZ q0 q1 q2 q3 q4 q5 q6 wc2 wl sc sl cl2 ct rw co sk2 ss2 sq) t.heap) (va_A (wX cyI cyZ q0 q1 q2 q3 q4 q5 q6 wc wl sc sl cl ct rw co sk ss sq) H0.size)) 0 0 (va_A (wX cyI cyZ q0 q1 q2 q3 q4 q5 q6 wc wl sc sl cl ct rw co sk ss sq) H0.size) := by
  refine Met.ofW (cc := cX0_passesColumn) (maxL := 5) (ret := (some .boolean)) (by decide) rfl ?_
  intro p e s m args below meth c s₁ B hml hv
  obtain ⟨rfl, rfl, hK⟩ := hv
  have hx := B.exec
  have hb := B.bytes
  have hr := B.returns
  have hts := atoms_spec (ws := wsX0_passesColumn) B.pre
  have hown : s.vm.findClass RX0 = some m.cls := findClass_of_methodNamed B.named
  have hlocks := B.notSynchronized
  have hD := hD0.self (sz := s.heap.size)
  generalize hAe : (va_A (wX cyI cyZ q0 q1 q2 q3 q4 q5 q6 wc wl sc sl cl ct rw co sk ss sq) s.heap.size) = A at hD ⊢
  have hA : ∀ q : Nat, s.heap.size ≤ q → A q := fun q h => by rw [← hAe]; exact Or.inr h
  have hS : va_S A s.heap s.heap [] := va_S.rf
  have hl := lv_entry ([.ref q0, .int (nI ro), .int (nI j), .int v]) (n := 5) (Nat.le_of_ble_eq_true rfl)
  rw [lg_entry_eq]
  generalize (lg_sl ([.ref q0, .int (nI ro), .int (nI j), .int v]) ++ List.replicate (5 - (lg_sl ([.ref q0, .int (nI ro), .int (nI j), .int v])).length) Slot.unset).toArray = ls at hl ⊢
  have hl : lv_has ls 5 [(0, .ref q0), (1, .int (nI ro)), (2, .int (nI j)), (3, .int v)] := hl
  have iw : ∀ w ∈ wsX00, w ∈ wsX0_passesColumn := by decide +kernel
  refine lv_aload_n hx hb dX0_passesColumn_0 rfl (lv_at hl 0 rfl) ?_
  refine lv_iconst (v := nI 3) hx hb dX0_passesColumn_1 (by decide) ?_
  refine lv_iload_n hx hb dX0_passesColumn_2 rfl (lv_at hl 2 rfl) ?_
  have hFc := va_free (wc := wX cyI cyZ q0 q1 q2 q3 q4 q5 q6 wc wl sc sl cl ct rw co sk ss sq) hD hS hA [0, 1, 2, 3, 4, 5, 6] rfl
  refine va_calli (va_runV (As := [.int (nI 3), .int (nI j)]) (rest := []) ⟨hx, hb, hml, hown, hts⟩ (k_X0_stopsAtReel l dC dI cyI cyZ _ q0 q1 q2 q3 q4 q5 q6 wc wl sc sl cl ct rw co sk ss sq hP (hD.weaken (fun _ _ _ _ => trivial)) 3 j (by omega)) (cwV 2 hts gX0_passesColumn_X0_stopsAtReel rfl rfl rfl (by decide +kernel) ⟨Nat.le_of_ble_eq_true rfl, Nat.le_of_ble_eq_true rfl⟩) (pK_V hK (va_recv hK hP (ci := 0) (q0 := 0) rfl rfl)) rfl rfl hl.1 rfl (lv_room (Nat.le_of_ble_eq_true rfl)) dX0_passesColumn_3 ⟨Nat.le_of_ble_eq_true rfl, Nat.le_of_ble_eq_true rfl⟩) hS (fun q _ h => hFc q h) hFc (fun r3 u t H1 locs ht hvm hw hB hz1 hk1 hS => ?_)
  obtain ⟨sk3, ss3⟩ := u
  dsimp only at hw
  have hP : va_P (dC, dI) vwCl (wX cyI cyZ q0 q1 q2 q3 q4 q5 q6 wc wl sc sl cl ct rw co sk3 ss3 sq) t.heap := hB
  rw [ht] at hP
  have hD : va_D A (wX cyI cyZ q0 q1 q2 q3 q4 q5 q6 wc wl sc sl cl ct rw co sk3 ss3 sq) := wX_D hD
  clear hB
  generalize H1 = H at hP hS ⊢
  refine lv_if_eq (tgt := 11) hx hb dX0_passesColumn_6 (by decide) (fun hq3 => ?_) (fun hq3 => ?_)
  · skip
    have hc : nI j < wl 3 ∧ sk3 = sk ∧ ss3 = ss := by rcases hw with ⟨a1, a2, a3, a4⟩ | ⟨a1, a2, a3, a4⟩; exact ⟨a1, a3, a4⟩; exact absurd (a2.symm.trans hq3) (by decide)
    rw [hc.2.1, hc.2.2] at hP hD
    have f3 := hc.1
    refine lv_aload_n hx hb dX0_passesColumn_11 rfl (lv_at hl 0 rfl) ?_
    refine va_get (D := (dC, dI)) (ci := 0) (v := .ref q1) (C := RX0) (T := TX0) (N := 11) hx hb hts iw hown hK hP 0 rfl rfl 0 (by decide) (hts (.fieldLink RX0 9 "ReelLoom" "workingCells" "[I") (by decide +kernel)) (fun _ h9 => h9) rfl dX0_passesColumn_12 ?_
    refine lv_iconst (v := nI 3) hx hb dX0_passesColumn_15 (by decide) ?_
    refine lv_iload_n hx hb dX0_passesColumn_16 rfl (lv_at hl 2 rfl) ?_
    refine gx_calli (va_runS (As := [.int (nI 3), .int (nI j)]) (rest := [.ref q1]) ⟨hx, hb, hml, hown, hts⟩ (k_X0_reelIndex l dC dI  _   3 j ) (va_cwS 2 hts gX0_passesColumn_X0_reelIndex rfl rfl rfl (by decide +kernel) ⟨Nat.le_of_ble_eq_true rfl, Nat.le_of_ble_eq_true rfl⟩) (pK_S (hK.sub (tys' := []) [] rfl)) rfl rfl hl.1 rfl (lv_room (Nat.le_of_ble_eq_true rfl)) dX0_passesColumn_17 ⟨Nat.le_of_ble_eq_true rfl, Nat.le_of_ble_eq_true rfl⟩) (fun r_3 hr_3 => ?_)
    subst hr_3
    refine va_iald hx hb hK hP 1 0 rfl rfl (vp_in_nI (by omega) (by omega)) dX0_passesColumn_20 ?_
    rw [nI_clamp (show (3 * 64 + j) < 2 ^ 31 by omega)]
    refine lv_iconst (v := 1) hx hb dX0_passesColumn_21 (by decide) ?_
    refine lv_icmp_ne (tgt := 29) hx hb dX0_passesColumn_22 (by decide) (fun h22 => ?_) (fun h22 => ?_)
    · skip
      refine lv_iconst (v := 0) hx hb dX0_passesColumn_29 (by decide) ?_
      refine lv_istore (lv' := [(4, .int 0), (0, .ref q0), (1, .int (nI ro)), (2, .int (nI j)), (3, .int v)]) hx hb dX0_passesColumn_30 hl (by decide) rfl (fun ls hl => ?_)
      refine lv_iload hx hb dX0_passesColumn_32 (lv_at hl 0 rfl) ?_
      refine lv_if_eq (tgt := 48) hx hb dX0_passesColumn_34 (by decide) (fun c_5 => ?_) (fun c_5 => ?_)
      · skip
        refine lv_aload_n hx hb dX0_passesColumn_48 rfl (lv_at hl 1 rfl) ?_
        refine lv_iload_n hx hb dX0_passesColumn_49 rfl (lv_at hl 2 rfl) ?_
        have hFc := va_free (wc := wX cyI cyZ q0 q1 q2 q3 q4 q5 q6 wc wl sc sl cl ct rw co sk ss sq) hD hS hA [0, 1, 2, 3, 4, 5, 6] rfl
        refine va_calli (va_runV (As := [.int (nI ro)]) (rest := []) ⟨hx, hb, hml, hown, hts⟩ (k_X0_stopsAtRow l dC dI cyI cyZ _ q0 q1 q2 q3 q4 q5 q6 wc wl sc sl cl ct rw co sk ss sq hP (hD.weaken (fun _ _ _ _ => trivial)) ro (by omega)) (cwV 1 hts gX0_passesColumn_X0_stopsAtRow rfl rfl rfl (by decide +kernel) ⟨Nat.le_of_ble_eq_true rfl, Nat.le_of_ble_eq_true rfl⟩) (pK_V hK (va_recv hK hP (ci := 0) (q0 := 0) rfl rfl)) rfl rfl hl.1 rfl (lv_room (Nat.le_of_ble_eq_true rfl)) dX0_passesColumn_50 ⟨Nat.le_of_ble_eq_true rfl, Nat.le_of_ble_eq_true rfl⟩) hS (fun q _ h => hFc q h) hFc (fun r50 u t H1 locs ht hvm hw hB hz1 hk1 hS => ?_)
        obtain ⟨sk50, ss50⟩ := u
        dsimp only at hw
        have hP : va_P (dC, dI) vwCl (wX cyI cyZ q0 q1 q2 q3 q4 q5 q6 wc wl sc sl cl ct rw co sk50 ss50 sq) t.heap := hB
        rw [ht] at hP
        have hD : va_D A (wX cyI cyZ q0 q1 q2 q3 q4 q5 q6 wc wl sc sl cl ct rw co sk50 ss50 sq) := wX_D hD
        clear hB
        generalize H1 = H at hP hS ⊢
        refine lv_if_eq (tgt := 58) hx hb dX0_passesColumn_53 (by decide) (fun hq50 => ?_) (fun hq50 => ?_)
        · skip
          have hc : ct ro = 0 ∧ sk50 = sk ∧ ss50 = ss := by rcases hw with ⟨a1, a2, a3, a4⟩ | ⟨a1, a2, a3, a4⟩; exact ⟨a1, a3, a4⟩; exact absurd (a2.symm.trans hq50) (by decide)
          rw [hc.2.1, hc.2.2] at hP hD
          have fr := hc.1
          refine lv_aload_n hx hb dX0_passesColumn_58 rfl (lv_at hl 1 rfl) ?_
          refine va_get (D := (dC, dI)) (ci := 0) (v := .ref q5) (C := RX0) (T := TX0) (N := 11) hx hb hts iw hown hK hP 0 rfl rfl 4 (by decide) (hts (.fieldLink RX0 28 "ReelLoom" "clothCells" "[I") (by decide +kernel)) (fun _ h9 => h9) rfl dX0_passesColumn_59 ?_
          refine lv_iload_n hx hb dX0_passesColumn_62 rfl (lv_at hl 2 rfl) ?_
          refine lv_iload_n hx hb dX0_passesColumn_63 rfl (lv_at hl 3 rfl) ?_
          refine gx_calli (va_runS (As := [.int (nI ro), .int (nI j)]) (rest := [.ref q5]) ⟨hx, hb, hml, hown, hts⟩ (k_X0_clothIndex l dC dI  _   ro j ) (va_cwS 2 hts gX0_passesColumn_X0_clothIndex rfl rfl rfl (by decide +kernel) ⟨Nat.le_of_ble_eq_true rfl, Nat.le_of_ble_eq_true rfl⟩) (pK_S (hK.sub (tys' := []) [] rfl)) rfl rfl hl.1 rfl (lv_room (Nat.le_of_ble_eq_true rfl)) dX0_passesColumn_64 ⟨Nat.le_of_ble_eq_true rfl, Nat.le_of_ble_eq_true rfl⟩) (fun r_8 hr_8 => ?_)
          subst hr_8
          refine lv_iload hx hb dX0_passesColumn_67 (lv_at hl 0 rfl) ?_
          refine lv_if_eq (tgt := 85) hx hb dX0_passesColumn_69 (by decide) (fun c_9 => ?_) (fun c_9 => ?_)
          · skip
            refine lv_iload_n hx hb dX0_passesColumn_85 rfl (lv_at hl 4 rfl) ?_
            refine va_iast hx hb hK hP hD hS 5 0 rfl rfl (vp_in_nI (by omega) (by omega)) dX0_passesColumn_86 (fun H locs hP hD hS => ?_)
            rw [nI_clamp (show (ro * 40 + j) < 2 ^ 31 by omega)] at hP hD
            have hP : va_P (dC, dI) vwCl (wX cyI cyZ q0 q1 q2 q3 q4 q5 q6 wc wl sc sl (upd cl ((ro * 40 + j)) v) ct rw co sk ss sq) H := hP
            have hD : va_D A (wX cyI cyZ q0 q1 q2 q3 q4 q5 q6 wc wl sc sl (upd cl ((ro * 40 + j)) v) ct rw co sk ss sq) := hD
            refine lv_aload_n hx hb dX0_passesColumn_87 rfl (lv_at hl 1 rfl) ?_
            refine lv_iconst (v := nI 1) hx hb dX0_passesColumn_88 (by decide) ?_
            refine lv_iload_n hx hb dX0_passesColumn_89 rfl (lv_at hl 3 rfl) ?_
            refine lv_iconst (v := 1) hx hb dX0_passesColumn_90 (by decide) ?_
            have hFc := va_free (wc := wX cyI cyZ q0 q1 q2 q3 q4 q5 q6 wc wl sc sl (upd cl ((ro * 40 + j)) v) ct rw co sk ss sq) hD hS hA [0, 1, 2, 3, 4, 5, 6] rfl
            refine va_calli (va_runV (As := [.int (nI 1), .int (nI j), .int 1]) (rest := []) ⟨hx, hb, hml, hown, hts⟩ (k_X0_addsInPass l dC dI cyI cyZ _ q0 q1 q2 q3 q4 q5 q6 wc wl sc sl (upd cl ((ro * 40 + j)) v) ct rw co sk ss sq hP (hD.weaken (fun _ _ _ _ => trivial)) 1 j 1 (by omega) (by omega)) (cwV 3 hts gX0_passesColumn_X0_addsInPass rfl rfl rfl (by decide +kernel) ⟨Nat.le_of_ble_eq_true rfl, Nat.le_of_ble_eq_true rfl⟩) (pK_V hK (va_recv hK hP (ci := 0) (q0 := 0) rfl rfl)) rfl rfl hl.1 rfl (lv_room (Nat.le_of_ble_eq_true rfl)) dX0_passesColumn_91 ⟨Nat.le_of_ble_eq_true rfl, Nat.le_of_ble_eq_true rfl⟩) hS (fun q _ h => hFc q h) hFc (fun r91 u t H1 locs ht hvm hw hB hz1 hk1 hS => ?_)
            obtain ⟨wc91, sk91, ss91⟩ := u
            dsimp only at hw
            have hP : va_P (dC, dI) vwCl (wX cyI cyZ q0 q1 q2 q3 q4 q5 q6 wc91 wl sc sl (upd cl ((ro * 40 + j)) v) ct rw co sk91 ss91 sq) t.heap := hB
            rw [ht] at hP
            have hD : va_D A (wX cyI cyZ q0 q1 q2 q3 q4 q5 q6 wc91 wl sc sl (upd cl ((ro * 40 + j)) v) ct rw co sk91 ss91 sq) := wX_D hD
            clear hB
            generalize H1 = H at hP hS ⊢
            refine lv_if_eq (tgt := 135) hx hb dX0_passesColumn_94 (by decide) (fun hq91 => ?_) (fun hq91 => ?_)
            · skip
              have hc : ¬ nI j < wl 1 ∧ wc91 = wc ∧ sk91 = stK wl 1 ∧ ss91 = nI 1 := by rcases hw with ⟨a1, a2, a3, a4, a5⟩ | ⟨a1, a2, a3, a4, a5⟩; exact absurd (a2.symm.trans hq91) (by decide); exact ⟨a1, a3, a4, a5⟩
              rw [hc.2.1, hc.2.2.1, hc.2.2.2] at hP hD
              have f1 := hc.1
              refine lv_iconst (v := 0) hx hb dX0_passesColumn_135 (by decide) ?_
              exact W.zret (v := 0) (ty := .boolean) hx hb hr rfl (fun t ht hW => ⟨⟨0, (wc, upd cl ((ro * 40 + j)) v, stK wl 1, nI 1), rfl, Or.inl ⟨rfl, by unfold pcol; rw [if_neg (not_not_intro f3), if_neg (fun h => h22 h.1), if_neg (not_not_intro fr), if_pos f1, if_neg h22]⟩, by show va_P (dC, dI) vwCl (wX cyI cyZ q0 q1 q2 q3 q4 q5 q6 wc wl sc sl (upd cl ((ro * 40 + j)) v) ct rw co (stK wl 1) (nI 1) sq) t.heap; rw [ht]; exact hP⟩, hS.F ht⟩) hS.2.2 dX0_passesColumn_136
            · skip
              have hc : nI j < wl 1 ∧ wc91 = upd wc (1 * 64 + j) (ft 1 (wc (1 * 64 + j) + 1)) ∧ sk91 = sk ∧ ss91 = ss := by rcases hw with ⟨a1, a2, a3, a4, a5⟩ | ⟨a1, a2, a3, a4, a5⟩; exact ⟨a1, a3, a4, a5⟩; exact absurd a2 hq91
              rw [hc.2.1, hc.2.2.1, hc.2.2.2] at hP hD
              have f1 := hc.1
              refine lv_aload_n hx hb dX0_passesColumn_97 rfl (lv_at hl 1 rfl) ?_
              refine lv_iconst (v := nI 2) hx hb dX0_passesColumn_98 (by decide) ?_
              refine lv_iload_n hx hb dX0_passesColumn_99 rfl (lv_at hl 3 rfl) ?_
              refine lv_iload hx hb dX0_passesColumn_100 (lv_at hl 0 rfl) ?_
              refine lv_if_eq (tgt := 109) hx hb dX0_passesColumn_102 (by decide) (fun c_12 => ?_) (fun c_12 => ?_)
              · skip
                refine lv_iconst (v := -1) hx hb dX0_passesColumn_109 (by decide) ?_
                have hFc := va_free (wc := wX cyI cyZ q0 q1 q2 q3 q4 q5 q6 (upd wc (1 * 64 + j) (ft 1 (wc (1 * 64 + j) + 1))) wl sc sl (upd cl ((ro * 40 + j)) v) ct rw co sk ss sq) hD hS hA [0, 1, 2, 3, 4, 5, 6] rfl
                refine va_calli (va_runV (As := [.int (nI 2), .int (nI j), .int (-1)]) (rest := []) ⟨hx, hb, hml, hown, hts⟩ (k_X0_addsInPass l dC dI cyI cyZ _ q0 q1 q2 q3 q4 q5 q6 (upd wc (1 * 64 + j) (ft 1 (wc (1 * 64 + j) + 1))) wl sc sl (upd cl ((ro * 40 + j)) v) ct rw co sk ss sq hP (hD.weaken (fun _ _ _ _ => trivial)) 2 j (-1) (by omega) (by omega)) (cwV 3 hts gX0_passesColumn_X0_addsInPass rfl rfl rfl (by decide +kernel) ⟨Nat.le_of_ble_eq_true rfl, Nat.le_of_ble_eq_true rfl⟩) (pK_V hK (va_recv hK hP (ci := 0) (q0 := 0) rfl rfl)) rfl rfl hl.1 rfl (lv_room (Nat.le_of_ble_eq_true rfl)) dX0_passesColumn_110 ⟨Nat.le_of_ble_eq_true rfl, Nat.le_of_ble_eq_true rfl⟩) hS (fun q _ h => hFc q h) hFc (fun r110 u t H1 locs ht hvm hw hB hz1 hk1 hS => ?_)
                obtain ⟨wc110, sk110, ss110⟩ := u
                dsimp only at hw
                have hP : va_P (dC, dI) vwCl (wX cyI cyZ q0 q1 q2 q3 q4 q5 q6 wc110 wl sc sl (upd cl ((ro * 40 + j)) v) ct rw co sk110 ss110 sq) t.heap := hB
                rw [ht] at hP
                have hD : va_D A (wX cyI cyZ q0 q1 q2 q3 q4 q5 q6 wc110 wl sc sl (upd cl ((ro * 40 + j)) v) ct rw co sk110 ss110 sq) := wX_D hD
                clear hB
                generalize H1 = H at hP hS ⊢
                refine lv_if_eq (tgt := 135) hx hb dX0_passesColumn_113 (by decide) (fun hq110 => ?_) (fun hq110 => ?_)
                · skip
                  have hc : ¬ nI j < wl 2 ∧ wc110 = (upd wc (1 * 64 + j) (ft 1 (wc (1 * 64 + j) + 1))) ∧ sk110 = stK wl 2 ∧ ss110 = nI 2 := by rcases hw with ⟨a1, a2, a3, a4, a5⟩ | ⟨a1, a2, a3, a4, a5⟩; exact absurd (a2.symm.trans hq110) (by decide); exact ⟨a1, a3, a4, a5⟩
                  rw [hc.2.1, hc.2.2.1, hc.2.2.2] at hP hD
                  have f2 := hc.1
                  refine lv_iconst (v := 0) hx hb dX0_passesColumn_135 (by decide) ?_
                  exact W.zret (v := 0) (ty := .boolean) hx hb hr rfl (fun t ht hW => ⟨⟨0, (upd wc (1 * 64 + j) (ft 1 (wc (1 * 64 + j) + 1)), upd cl ((ro * 40 + j)) v, stK wl 2, nI 2), rfl, Or.inl ⟨rfl, by unfold pcol; rw [if_neg (not_not_intro f3), if_neg (fun h => h22 h.1), if_neg (not_not_intro fr), if_neg (not_not_intro f1), if_pos f2, if_neg h22]⟩, by show va_P (dC, dI) vwCl (wX cyI cyZ q0 q1 q2 q3 q4 q5 q6 (upd wc (1 * 64 + j) (ft 1 (wc (1 * 64 + j) + 1))) wl sc sl (upd cl ((ro * 40 + j)) v) ct rw co (stK wl 2) (nI 2) sq) t.heap; rw [ht]; exact hP⟩, hS.F ht⟩) hS.2.2 dX0_passesColumn_136
                · skip
                  have hc : nI j < wl 2 ∧ wc110 = upd (upd wc (1 * 64 + j) (ft 1 (wc (1 * 64 + j) + 1))) (2 * 64 + j) (ft 2 ((upd wc (1 * 64 + j) (ft 1 (wc (1 * 64 + j) + 1))) (2 * 64 + j) + (-1))) ∧ sk110 = sk ∧ ss110 = ss := by rcases hw with ⟨a1, a2, a3, a4, a5⟩ | ⟨a1, a2, a3, a4, a5⟩; exact ⟨a1, a3, a4, a5⟩; exact absurd a2 hq110
                  rw [hc.2.1, hc.2.2.1, hc.2.2.2] at hP hD
                  have f2 := hc.1
                  refine lv_iload hx hb dX0_passesColumn_116 (lv_at hl 0 rfl) ?_
                  refine lv_if_eq (tgt := 131) hx hb dX0_passesColumn_118 (by decide) (fun c_15 => ?_) (fun c_15 => ?_)
                  · skip
                    refine lv_iconst (v := 1) hx hb dX0_passesColumn_131 (by decide) ?_
                    refine lv_goto (tgt := 136) hx hb dX0_passesColumn_132 (by decide) ?_
                    exact W.zret (v := 1) (ty := .boolean) hx hb hr rfl (fun t ht hW => ⟨⟨1, (upd (upd wc (1 * 64 + j) (ft 1 (wc (1 * 64 + j) + 1))) (2 * 64 + j) (ft 2 ((upd wc (1 * 64 + j) (ft 1 (wc (1 * 64 + j) + 1))) (2 * 64 + j) + (-1))), upd cl ((ro * 40 + j)) v, sk, ss), rfl, Or.inr ⟨rfl, by unfold pcol; rw [if_neg (not_not_intro f3), if_neg (fun h => h22 h.1), if_neg (not_not_intro fr), if_neg (not_not_intro f1), if_neg (not_not_intro f2), if_neg (fun h => h22 h.1), if_neg h22]⟩, by show va_P (dC, dI) vwCl (wX cyI cyZ q0 q1 q2 q3 q4 q5 q6 (upd (upd wc (1 * 64 + j) (ft 1 (wc (1 * 64 + j) + 1))) (2 * 64 + j) (ft 2 ((upd wc (1 * 64 + j) (ft 1 (wc (1 * 64 + j) + 1))) (2 * 64 + j) + (-1)))) wl sc sl (upd cl ((ro * 40 + j)) v) ct rw co sk ss sq) t.heap; rw [ht]; exact hP⟩, hS.F ht⟩) hS.2.2 dX0_passesColumn_136
                  · skip
                    exact absurd (by decide) c_15
              · skip
                exact absurd (by decide) c_12
          · skip
            exact absurd (by decide) c_9
        · skip
          have hc : ¬ ct ro = 0 ∧ sk50 = 1 ∧ ss50 = 5 := by rcases hw with ⟨a1, a2, a3, a4⟩ | ⟨a1, a2, a3, a4⟩; exact absurd a2 hq50; exact ⟨a1, a3, a4⟩
          rw [hc.2.1, hc.2.2] at hP hD
          have fr := hc.1
          refine lv_iconst (v := 0) hx hb dX0_passesColumn_56 (by decide) ?_
          exact W.zret (v := 0) (ty := .boolean) hx hb hr rfl (fun t ht hW => ⟨⟨0, (wc, cl, 1, 5), rfl, Or.inl ⟨rfl, by unfold pcol; rw [if_neg (not_not_intro f3), if_neg (fun h => h22 h.1), if_pos fr]⟩, by show va_P (dC, dI) vwCl (wX cyI cyZ q0 q1 q2 q3 q4 q5 q6 wc wl sc sl cl ct rw co 1 5 sq) t.heap; rw [ht]; exact hP⟩, hS.F ht⟩) hS.2.2 dX0_passesColumn_57
      · skip
        exact absurd (by decide) c_5
    · skip
      refine lv_iconst (v := 1) hx hb dX0_passesColumn_25 (by decide) ?_
      refine lv_goto (tgt := 30) hx hb dX0_passesColumn_26 (by decide) ?_
      refine lv_istore (lv' := [(4, .int 1), (0, .ref q0), (1, .int (nI ro)), (2, .int (nI j)), (3, .int v)]) hx hb dX0_passesColumn_30 hl (by decide) rfl (fun ls hl => ?_)
      refine lv_iload hx hb dX0_passesColumn_32 (lv_at hl 0 rfl) ?_
      refine lv_if_eq (tgt := 48) hx hb dX0_passesColumn_34 (by decide) (fun c_16 => ?_) (fun c_16 => ?_)
      · skip
        exact absurd c_16 (by decide)
      · skip
        refine lv_aload_n hx hb dX0_passesColumn_37 rfl (lv_at hl 1 rfl) ?_
        refine lv_iconst (v := nI 0) hx hb dX0_passesColumn_38 (by decide) ?_
        refine lv_iload_n hx hb dX0_passesColumn_39 rfl (lv_at hl 3 rfl) ?_
        have hFc := va_free (wc := wX cyI cyZ q0 q1 q2 q3 q4 q5 q6 wc wl sc sl cl ct rw co sk ss sq) hD hS hA [0, 1, 2, 3, 4, 5, 6] rfl
        refine va_calli (va_runV (As := [.int (nI 0), .int (nI j)]) (rest := []) ⟨hx, hb, hml, hown, hts⟩ (k_X0_stopsAtReel l dC dI cyI cyZ _ q0 q1 q2 q3 q4 q5 q6 wc wl sc sl cl ct rw co sk ss sq hP (hD.weaken (fun _ _ _ _ => trivial)) 0 j (by omega)) (cwV 2 hts gX0_passesColumn_X0_stopsAtReel rfl rfl rfl (by decide +kernel) ⟨Nat.le_of_ble_eq_true rfl, Nat.le_of_ble_eq_true rfl⟩) (pK_V hK (va_recv hK hP (ci := 0) (q0 := 0) rfl rfl)) rfl rfl hl.1 rfl (lv_room (Nat.le_of_ble_eq_true rfl)) dX0_passesColumn_40 ⟨Nat.le_of_ble_eq_true rfl, Nat.le_of_ble_eq_true rfl⟩) hS (fun q _ h => hFc q h) hFc (fun r40 u t H1 locs ht hvm hw hB hz1 hk1 hS => ?_)
        obtain ⟨sk40, ss40⟩ := u
        dsimp only at hw
        have hP : va_P (dC, dI) vwCl (wX cyI cyZ q0 q1 q2 q3 q4 q5 q6 wc wl sc sl cl ct rw co sk40 ss40 sq) t.heap := hB
        rw [ht] at hP
        have hD : va_D A (wX cyI cyZ q0 q1 q2 q3 q4 q5 q6 wc wl sc sl cl ct rw co sk40 ss40 sq) := wX_D hD
        clear hB
        generalize H1 = H at hP hS ⊢
        refine lv_if_eq (tgt := 48) hx hb dX0_passesColumn_43 (by decide) (fun hq40 => ?_) (fun hq40 => ?_)
        · skip
          have hc : nI j < wl 0 ∧ sk40 = sk ∧ ss40 = ss := by rcases hw with ⟨a1, a2, a3, a4⟩ | ⟨a1, a2, a3, a4⟩; exact ⟨a1, a3, a4⟩; exact absurd (a2.symm.trans hq40) (by decide)
          rw [hc.2.1, hc.2.2] at hP hD
          have f0 := hc.1
          refine lv_aload_n hx hb dX0_passesColumn_48 rfl (lv_at hl 1 rfl) ?_
          refine lv_iload_n hx hb dX0_passesColumn_49 rfl (lv_at hl 2 rfl) ?_
          have hFc := va_free (wc := wX cyI cyZ q0 q1 q2 q3 q4 q5 q6 wc wl sc sl cl ct rw co sk ss sq) hD hS hA [0, 1, 2, 3, 4, 5, 6] rfl
          refine va_calli (va_runV (As := [.int (nI ro)]) (rest := []) ⟨hx, hb, hml, hown, hts⟩ (k_X0_stopsAtRow l dC dI cyI cyZ _ q0 q1 q2 q3 q4 q5 q6 wc wl sc sl cl ct rw co sk ss sq hP (hD.weaken (fun _ _ _ _ => trivial)) ro (by omega)) (cwV 1 hts gX0_passesColumn_X0_stopsAtRow rfl rfl rfl (by decide +kernel) ⟨Nat.le_of_ble_eq_true rfl, Nat.le_of_ble_eq_true rfl⟩) (pK_V hK (va_recv hK hP (ci := 0) (q0 := 0) rfl rfl)) rfl rfl hl.1 rfl (lv_room (Nat.le_of_ble_eq_true rfl)) dX0_passesColumn_50 ⟨Nat.le_of_ble_eq_true rfl, Nat.le_of_ble_eq_true rfl⟩) hS (fun q _ h => hFc q h) hFc (fun r50 u t H1 locs ht hvm hw hB hz1 hk1 hS => ?_)
          obtain ⟨sk50, ss50⟩ := u
          dsimp only at hw
          have hP : va_P (dC, dI) vwCl (wX cyI cyZ q0 q1 q2 q3 q4 q5 q6 wc wl sc sl cl ct rw co sk50 ss50 sq) t.heap := hB
          rw [ht] at hP
          have hD : va_D A (wX cyI cyZ q0 q1 q2 q3 q4 q5 q6 wc wl sc sl cl ct rw co sk50 ss50 sq) := wX_D hD
          clear hB
          generalize H1 = H at hP hS ⊢
          refine lv_if_eq (tgt := 58) hx hb dX0_passesColumn_53 (by decide) (fun hq50 => ?_) (fun hq50 => ?_)
          · skip
            have hc : ct ro = 0 ∧ sk50 = sk ∧ ss50 = ss := by rcases hw with ⟨a1, a2, a3, a4⟩ | ⟨a1, a2, a3, a4⟩; exact ⟨a1, a3, a4⟩; exact absurd (a2.symm.trans hq50) (by decide)
            rw [hc.2.1, hc.2.2] at hP hD
            have fr := hc.1
            refine lv_aload_n hx hb dX0_passesColumn_58 rfl (lv_at hl 1 rfl) ?_
            refine va_get (D := (dC, dI)) (ci := 0) (v := .ref q5) (C := RX0) (T := TX0) (N := 11) hx hb hts iw hown hK hP 0 rfl rfl 4 (by decide) (hts (.fieldLink RX0 28 "ReelLoom" "clothCells" "[I") (by decide +kernel)) (fun _ h9 => h9) rfl dX0_passesColumn_59 ?_
            refine lv_iload_n hx hb dX0_passesColumn_62 rfl (lv_at hl 2 rfl) ?_
            refine lv_iload_n hx hb dX0_passesColumn_63 rfl (lv_at hl 3 rfl) ?_
            refine gx_calli (va_runS (As := [.int (nI ro), .int (nI j)]) (rest := [.ref q5]) ⟨hx, hb, hml, hown, hts⟩ (k_X0_clothIndex l dC dI  _   ro j ) (va_cwS 2 hts gX0_passesColumn_X0_clothIndex rfl rfl rfl (by decide +kernel) ⟨Nat.le_of_ble_eq_true rfl, Nat.le_of_ble_eq_true rfl⟩) (pK_S (hK.sub (tys' := []) [] rfl)) rfl rfl hl.1 rfl (lv_room (Nat.le_of_ble_eq_true rfl)) dX0_passesColumn_64 ⟨Nat.le_of_ble_eq_true rfl, Nat.le_of_ble_eq_true rfl⟩) (fun r_21 hr_21 => ?_)
            subst hr_21
            refine lv_iload hx hb dX0_passesColumn_67 (lv_at hl 0 rfl) ?_
            refine lv_if_eq (tgt := 85) hx hb dX0_passesColumn_69 (by decide) (fun c_22 => ?_) (fun c_22 => ?_)
            · skip
              exact absurd c_22 (by decide)
            · skip
              refine lv_aload_n hx hb dX0_passesColumn_72 rfl (lv_at hl 1 rfl) ?_
              refine va_get (D := (dC, dI)) (ci := 0) (v := .ref q1) (C := RX0) (T := TX0) (N := 11) hx hb hts iw hown hK hP 0 rfl rfl 0 (by decide) (hts (.fieldLink RX0 9 "ReelLoom" "workingCells" "[I") (by decide +kernel)) (fun _ h9 => h9) rfl dX0_passesColumn_73 ?_
              refine lv_iconst (v := nI 0) hx hb dX0_passesColumn_76 (by decide) ?_
              refine lv_iload_n hx hb dX0_passesColumn_77 rfl (lv_at hl 3 rfl) ?_
              refine gx_calli (va_runS (As := [.int (nI 0), .int (nI j)]) (rest := [.ref q1, .int (nI (ro * 40 + j)), .ref q5]) ⟨hx, hb, hml, hown, hts⟩ (k_X0_reelIndex l dC dI  _   0 j ) (va_cwS 2 hts gX0_passesColumn_X0_reelIndex rfl rfl rfl (by decide +kernel) ⟨Nat.le_of_ble_eq_true rfl, Nat.le_of_ble_eq_true rfl⟩) (pK_S (hK.sub (tys' := []) [] rfl)) rfl rfl hl.1 rfl (lv_room (Nat.le_of_ble_eq_true rfl)) dX0_passesColumn_78 ⟨Nat.le_of_ble_eq_true rfl, Nat.le_of_ble_eq_true rfl⟩) (fun r_23 hr_23 => ?_)
              subst hr_23
              refine va_iald hx hb hK hP 1 0 rfl rfl (vp_in_nI (by omega) (by omega)) dX0_passesColumn_81 ?_
              rw [nI_clamp (show (0 * 64 + j) < 2 ^ 31 by omega)]
              refine lv_goto (tgt := 86) hx hb dX0_passesColumn_82 (by decide) ?_
              refine va_iast hx hb hK hP hD hS 5 0 rfl rfl (vp_in_nI (by omega) (by omega)) dX0_passesColumn_86 (fun H locs hP hD hS => ?_)
              rw [nI_clamp (show (ro * 40 + j) < 2 ^ 31 by omega)] at hP hD
              have hP : va_P (dC, dI) vwCl (wX cyI cyZ q0 q1 q2 q3 q4 q5 q6 wc wl sc sl (upd cl ((ro * 40 + j)) (wc ((0 * 64 + j)))) ct rw co sk ss sq) H := hP
              have hD : va_D A (wX cyI cyZ q0 q1 q2 q3 q4 q5 q6 wc wl sc sl (upd cl ((ro * 40 + j)) (wc ((0 * 64 + j)))) ct rw co sk ss sq) := hD
              refine lv_aload_n hx hb dX0_passesColumn_87 rfl (lv_at hl 1 rfl) ?_
              refine lv_iconst (v := nI 1) hx hb dX0_passesColumn_88 (by decide) ?_
              refine lv_iload_n hx hb dX0_passesColumn_89 rfl (lv_at hl 3 rfl) ?_
              refine lv_iconst (v := 1) hx hb dX0_passesColumn_90 (by decide) ?_
              have hFc := va_free (wc := wX cyI cyZ q0 q1 q2 q3 q4 q5 q6 wc wl sc sl (upd cl ((ro * 40 + j)) (wc ((0 * 64 + j)))) ct rw co sk ss sq) hD hS hA [0, 1, 2, 3, 4, 5, 6] rfl
              refine va_calli (va_runV (As := [.int (nI 1), .int (nI j), .int 1]) (rest := []) ⟨hx, hb, hml, hown, hts⟩ (k_X0_addsInPass l dC dI cyI cyZ _ q0 q1 q2 q3 q4 q5 q6 wc wl sc sl (upd cl ((ro * 40 + j)) (wc ((0 * 64 + j)))) ct rw co sk ss sq hP (hD.weaken (fun _ _ _ _ => trivial)) 1 j 1 (by omega) (by omega)) (cwV 3 hts gX0_passesColumn_X0_addsInPass rfl rfl rfl (by decide +kernel) ⟨Nat.le_of_ble_eq_true rfl, Nat.le_of_ble_eq_true rfl⟩) (pK_V hK (va_recv hK hP (ci := 0) (q0 := 0) rfl rfl)) rfl rfl hl.1 rfl (lv_room (Nat.le_of_ble_eq_true rfl)) dX0_passesColumn_91 ⟨Nat.le_of_ble_eq_true rfl, Nat.le_of_ble_eq_true rfl⟩) hS (fun q _ h => hFc q h) hFc (fun r91 u t H1 locs ht hvm hw hB hz1 hk1 hS => ?_)
              obtain ⟨wc91, sk91, ss91⟩ := u
              dsimp only at hw
              have hP : va_P (dC, dI) vwCl (wX cyI cyZ q0 q1 q2 q3 q4 q5 q6 wc91 wl sc sl (upd cl ((ro * 40 + j)) (wc ((0 * 64 + j)))) ct rw co sk91 ss91 sq) t.heap := hB
              rw [ht] at hP
              have hD : va_D A (wX cyI cyZ q0 q1 q2 q3 q4 q5 q6 wc91 wl sc sl (upd cl ((ro * 40 + j)) (wc ((0 * 64 + j)))) ct rw co sk91 ss91 sq) := wX_D hD
              clear hB
              generalize H1 = H at hP hS ⊢
              refine lv_if_eq (tgt := 135) hx hb dX0_passesColumn_94 (by decide) (fun hq91 => ?_) (fun hq91 => ?_)
              · skip
                have hc : ¬ nI j < wl 1 ∧ wc91 = wc ∧ sk91 = stK wl 1 ∧ ss91 = nI 1 := by rcases hw with ⟨a1, a2, a3, a4, a5⟩ | ⟨a1, a2, a3, a4, a5⟩; exact absurd (a2.symm.trans hq91) (by decide); exact ⟨a1, a3, a4, a5⟩
                rw [hc.2.1, hc.2.2.1, hc.2.2.2] at hP hD
                have f1 := hc.1
                refine lv_iconst (v := 0) hx hb dX0_passesColumn_135 (by decide) ?_
                exact W.zret (v := 0) (ty := .boolean) hx hb hr rfl (fun t ht hW => ⟨⟨0, (wc, upd cl ((ro * 40 + j)) (wc ((0 * 64 + j))), stK wl 1, nI 1), rfl, Or.inl ⟨rfl, by unfold pcol; rw [if_neg (not_not_intro f3), if_neg (fun h => h.2 f0), if_neg (not_not_intro fr), if_pos f1, if_pos h22]⟩, by show va_P (dC, dI) vwCl (wX cyI cyZ q0 q1 q2 q3 q4 q5 q6 wc wl sc sl (upd cl ((ro * 40 + j)) (wc ((0 * 64 + j)))) ct rw co (stK wl 1) (nI 1) sq) t.heap; rw [ht]; exact hP⟩, hS.F ht⟩) hS.2.2 dX0_passesColumn_136
              · skip
                have hc : nI j < wl 1 ∧ wc91 = upd wc (1 * 64 + j) (ft 1 (wc (1 * 64 + j) + 1)) ∧ sk91 = sk ∧ ss91 = ss := by rcases hw with ⟨a1, a2, a3, a4, a5⟩ | ⟨a1, a2, a3, a4, a5⟩; exact ⟨a1, a3, a4, a5⟩; exact absurd a2 hq91
                rw [hc.2.1, hc.2.2.1, hc.2.2.2] at hP hD
                have f1 := hc.1
                refine lv_aload_n hx hb dX0_passesColumn_97 rfl (lv_at hl 1 rfl) ?_
                refine lv_iconst (v := nI 2) hx hb dX0_passesColumn_98 (by decide) ?_
                refine lv_iload_n hx hb dX0_passesColumn_99 rfl (lv_at hl 3 rfl) ?_
                refine lv_iload hx hb dX0_passesColumn_100 (lv_at hl 0 rfl) ?_
                refine lv_if_eq (tgt := 109) hx hb dX0_passesColumn_102 (by decide) (fun c_26 => ?_) (fun c_26 => ?_)
                · skip
                  exact absurd c_26 (by decide)
                · skip
                  refine lv_iconst (v := 2) hx hb dX0_passesColumn_105 (by decide) ?_
                  refine lv_goto (tgt := 110) hx hb dX0_passesColumn_106 (by decide) ?_
                  have hFc := va_free (wc := wX cyI cyZ q0 q1 q2 q3 q4 q5 q6 (upd wc (1 * 64 + j) (ft 1 (wc (1 * 64 + j) + 1))) wl sc sl (upd cl ((ro * 40 + j)) (wc ((0 * 64 + j)))) ct rw co sk ss sq) hD hS hA [0, 1, 2, 3, 4, 5, 6] rfl
                  refine va_calli (va_runV (As := [.int (nI 2), .int (nI j), .int 2]) (rest := []) ⟨hx, hb, hml, hown, hts⟩ (k_X0_addsInPass l dC dI cyI cyZ _ q0 q1 q2 q3 q4 q5 q6 (upd wc (1 * 64 + j) (ft 1 (wc (1 * 64 + j) + 1))) wl sc sl (upd cl ((ro * 40 + j)) (wc ((0 * 64 + j)))) ct rw co sk ss sq hP (hD.weaken (fun _ _ _ _ => trivial)) 2 j 2 (by omega) (by omega)) (cwV 3 hts gX0_passesColumn_X0_addsInPass rfl rfl rfl (by decide +kernel) ⟨Nat.le_of_ble_eq_true rfl, Nat.le_of_ble_eq_true rfl⟩) (pK_V hK (va_recv hK hP (ci := 0) (q0 := 0) rfl rfl)) rfl rfl hl.1 rfl (lv_room (Nat.le_of_ble_eq_true rfl)) dX0_passesColumn_110 ⟨Nat.le_of_ble_eq_true rfl, Nat.le_of_ble_eq_true rfl⟩) hS (fun q _ h => hFc q h) hFc (fun r110 u t H1 locs ht hvm hw hB hz1 hk1 hS => ?_)
                  obtain ⟨wc110, sk110, ss110⟩ := u
                  dsimp only at hw
                  have hP : va_P (dC, dI) vwCl (wX cyI cyZ q0 q1 q2 q3 q4 q5 q6 wc110 wl sc sl (upd cl ((ro * 40 + j)) (wc ((0 * 64 + j)))) ct rw co sk110 ss110 sq) t.heap := hB
                  rw [ht] at hP
                  have hD : va_D A (wX cyI cyZ q0 q1 q2 q3 q4 q5 q6 wc110 wl sc sl (upd cl ((ro * 40 + j)) (wc ((0 * 64 + j)))) ct rw co sk110 ss110 sq) := wX_D hD
                  clear hB
                  generalize H1 = H at hP hS ⊢
                  refine lv_if_eq (tgt := 135) hx hb dX0_passesColumn_113 (by decide) (fun hq110 => ?_) (fun hq110 => ?_)
                  · skip
                    have hc : ¬ nI j < wl 2 ∧ wc110 = (upd wc (1 * 64 + j) (ft 1 (wc (1 * 64 + j) + 1))) ∧ sk110 = stK wl 2 ∧ ss110 = nI 2 := by rcases hw with ⟨a1, a2, a3, a4, a5⟩ | ⟨a1, a2, a3, a4, a5⟩; exact absurd (a2.symm.trans hq110) (by decide); exact ⟨a1, a3, a4, a5⟩
                    rw [hc.2.1, hc.2.2.1, hc.2.2.2] at hP hD
                    have f2 := hc.1
                    refine lv_iconst (v := 0) hx hb dX0_passesColumn_135 (by decide) ?_
                    exact W.zret (v := 0) (ty := .boolean) hx hb hr rfl (fun t ht hW => ⟨⟨0, (upd wc (1 * 64 + j) (ft 1 (wc (1 * 64 + j) + 1)), upd cl ((ro * 40 + j)) (wc ((0 * 64 + j))), stK wl 2, nI 2), rfl, Or.inl ⟨rfl, by unfold pcol; rw [if_neg (not_not_intro f3), if_neg (fun h => h.2 f0), if_neg (not_not_intro fr), if_neg (not_not_intro f1), if_pos f2, if_pos h22]⟩, by show va_P (dC, dI) vwCl (wX cyI cyZ q0 q1 q2 q3 q4 q5 q6 (upd wc (1 * 64 + j) (ft 1 (wc (1 * 64 + j) + 1))) wl sc sl (upd cl ((ro * 40 + j)) (wc ((0 * 64 + j)))) ct rw co (stK wl 2) (nI 2) sq) t.heap; rw [ht]; exact hP⟩, hS.F ht⟩) hS.2.2 dX0_passesColumn_136
                  · skip
                    have hc : nI j < wl 2 ∧ wc110 = upd (upd wc (1 * 64 + j) (ft 1 (wc (1 * 64 + j) + 1))) (2 * 64 + j) (ft 2 ((upd wc (1 * 64 + j) (ft 1 (wc (1 * 64 + j) + 1))) (2 * 64 + j) + 2)) ∧ sk110 = sk ∧ ss110 = ss := by rcases hw with ⟨a1, a2, a3, a4, a5⟩ | ⟨a1, a2, a3, a4, a5⟩; exact ⟨a1, a3, a4, a5⟩; exact absurd a2 hq110
                    rw [hc.2.1, hc.2.2.1, hc.2.2.2] at hP hD
                    have f2 := hc.1
                    refine lv_iload hx hb dX0_passesColumn_116 (lv_at hl 0 rfl) ?_
                    refine lv_if_eq (tgt := 131) hx hb dX0_passesColumn_118 (by decide) (fun c_29 => ?_) (fun c_29 => ?_)
                    · skip
                      exact absurd c_29 (by decide)
                    · skip
                      refine lv_aload_n hx hb dX0_passesColumn_121 rfl (lv_at hl 1 rfl) ?_
                      refine lv_iconst (v := nI 4) hx hb dX0_passesColumn_122 (by decide) ?_
                      refine lv_iload_n hx hb dX0_passesColumn_123 rfl (lv_at hl 3 rfl) ?_
                      refine lv_iconst (v := 1) hx hb dX0_passesColumn_124 (by decide) ?_
                      have hFc := va_free (wc := wX cyI cyZ q0 q1 q2 q3 q4 q5 q6 (upd (upd wc (1 * 64 + j) (ft 1 (wc (1 * 64 + j) + 1))) (2 * 64 + j) (ft 2 ((upd wc (1 * 64 + j) (ft 1 (wc (1 * 64 + j) + 1))) (2 * 64 + j) + 2))) wl sc sl (upd cl ((ro * 40 + j)) (wc ((0 * 64 + j)))) ct rw co sk ss sq) hD hS hA [0, 1, 2, 3, 4, 5, 6] rfl
                      refine va_calli (va_runV (As := [.int (nI 4), .int (nI j), .int 1]) (rest := []) ⟨hx, hb, hml, hown, hts⟩ (k_X0_addsInPass l dC dI cyI cyZ _ q0 q1 q2 q3 q4 q5 q6 (upd (upd wc (1 * 64 + j) (ft 1 (wc (1 * 64 + j) + 1))) (2 * 64 + j) (ft 2 ((upd wc (1 * 64 + j) (ft 1 (wc (1 * 64 + j) + 1))) (2 * 64 + j) + 2))) wl sc sl (upd cl ((ro * 40 + j)) (wc ((0 * 64 + j)))) ct rw co sk ss sq hP (hD.weaken (fun _ _ _ _ => trivial)) 4 j 1 (by omega) (by omega)) (cwV 3 hts gX0_passesColumn_X0_addsInPass rfl rfl rfl (by decide +kernel) ⟨Nat.le_of_ble_eq_true rfl, Nat.le_of_ble_eq_true rfl⟩) (pK_V hK (va_recv hK hP (ci := 0) (q0 := 0) rfl rfl)) rfl rfl hl.1 rfl (lv_room (Nat.le_of_ble_eq_true rfl)) dX0_passesColumn_125 ⟨Nat.le_of_ble_eq_true rfl, Nat.le_of_ble_eq_true rfl⟩) hS (fun q _ h => hFc q h) hFc (fun r125 u t H1 locs ht hvm hw hB hz1 hk1 hS => ?_)
                      obtain ⟨wc125, sk125, ss125⟩ := u
                      dsimp only at hw
                      have hP : va_P (dC, dI) vwCl (wX cyI cyZ q0 q1 q2 q3 q4 q5 q6 wc125 wl sc sl (upd cl ((ro * 40 + j)) (wc ((0 * 64 + j)))) ct rw co sk125 ss125 sq) t.heap := hB
                      rw [ht] at hP
                      have hD : va_D A (wX cyI cyZ q0 q1 q2 q3 q4 q5 q6 wc125 wl sc sl (upd cl ((ro * 40 + j)) (wc ((0 * 64 + j)))) ct rw co sk125 ss125 sq) := wX_D hD
                      clear hB
                      generalize H1 = H at hP hS ⊢
                      refine lv_if_eq (tgt := 135) hx hb dX0_passesColumn_128 (by decide) (fun hq125 => ?_) (fun hq125 => ?_)
                      · skip
                        have hc : ¬ nI j < wl 4 ∧ wc125 = (upd (upd wc (1 * 64 + j) (ft 1 (wc (1 * 64 + j) + 1))) (2 * 64 + j) (ft 2 ((upd wc (1 * 64 + j) (ft 1 (wc (1 * 64 + j) + 1))) (2 * 64 + j) + 2))) ∧ sk125 = stK wl 4 ∧ ss125 = nI 4 := by rcases hw with ⟨a1, a2, a3, a4, a5⟩ | ⟨a1, a2, a3, a4, a5⟩; exact absurd (a2.symm.trans hq125) (by decide); exact ⟨a1, a3, a4, a5⟩
                        rw [hc.2.1, hc.2.2.1, hc.2.2.2] at hP hD
                        have f4 := hc.1
                        refine lv_iconst (v := 0) hx hb dX0_passesColumn_135 (by decide) ?_
                        exact W.zret (v := 0) (ty := .boolean) hx hb hr rfl (fun t ht hW => ⟨⟨0, (upd (upd wc (1 * 64 + j) (ft 1 (wc (1 * 64 + j) + 1))) (2 * 64 + j) (ft 2 ((upd wc (1 * 64 + j) (ft 1 (wc (1 * 64 + j) + 1))) (2 * 64 + j) + 2)), upd cl ((ro * 40 + j)) (wc ((0 * 64 + j))), stK wl 4, nI 4), rfl, Or.inl ⟨rfl, by unfold pcol; rw [if_neg (not_not_intro f3), if_neg (fun h => h.2 f0), if_neg (not_not_intro fr), if_neg (not_not_intro f1), if_neg (not_not_intro f2), if_pos ⟨h22, f4⟩]⟩, by show va_P (dC, dI) vwCl (wX cyI cyZ q0 q1 q2 q3 q4 q5 q6 (upd (upd wc (1 * 64 + j) (ft 1 (wc (1 * 64 + j) + 1))) (2 * 64 + j) (ft 2 ((upd wc (1 * 64 + j) (ft 1 (wc (1 * 64 + j) + 1))) (2 * 64 + j) + 2))) wl sc sl (upd cl ((ro * 40 + j)) (wc ((0 * 64 + j)))) ct rw co (stK wl 4) (nI 4) sq) t.heap; rw [ht]; exact hP⟩, hS.F ht⟩) hS.2.2 dX0_passesColumn_136
                      · skip
                        have hc : nI j < wl 4 ∧ wc125 = upd (upd (upd wc (1 * 64 + j) (ft 1 (wc (1 * 64 + j) + 1))) (2 * 64 + j) (ft 2 ((upd wc (1 * 64 + j) (ft 1 (wc (1 * 64 + j) + 1))) (2 * 64 + j) + 2))) (4 * 64 + j) (ft 4 ((upd (upd wc (1 * 64 + j) (ft 1 (wc (1 * 64 + j) + 1))) (2 * 64 + j) (ft 2 ((upd wc (1 * 64 + j) (ft 1 (wc (1 * 64 + j) + 1))) (2 * 64 + j) + 2))) (4 * 64 + j) + 1)) ∧ sk125 = sk ∧ ss125 = ss := by rcases hw with ⟨a1, a2, a3, a4, a5⟩ | ⟨a1, a2, a3, a4, a5⟩; exact ⟨a1, a3, a4, a5⟩; exact absurd a2 hq125
                        rw [hc.2.1, hc.2.2.1, hc.2.2.2] at hP hD
                        have f4 := hc.1
                        refine lv_iconst (v := 1) hx hb dX0_passesColumn_131 (by decide) ?_
                        refine lv_goto (tgt := 136) hx hb dX0_passesColumn_132 (by decide) ?_
                        exact W.zret (v := 1) (ty := .boolean) hx hb hr rfl (fun t ht hW => ⟨⟨1, (upd (upd (upd wc (1 * 64 + j) (ft 1 (wc (1 * 64 + j) + 1))) (2 * 64 + j) (ft 2 ((upd wc (1 * 64 + j) (ft 1 (wc (1 * 64 + j) + 1))) (2 * 64 + j) + 2))) (4 * 64 + j) (ft 4 ((upd (upd wc (1 * 64 + j) (ft 1 (wc (1 * 64 + j) + 1))) (2 * 64 + j) (ft 2 ((upd wc (1 * 64 + j) (ft 1 (wc (1 * 64 + j) + 1))) (2 * 64 + j) + 2))) (4 * 64 + j) + 1)), upd cl ((ro * 40 + j)) (wc ((0 * 64 + j))), sk, ss), rfl, Or.inr ⟨rfl, by unfold pcol; rw [if_neg (not_not_intro f3), if_neg (fun h => h.2 f0), if_neg (not_not_intro fr), if_neg (not_not_intro f1), if_neg (not_not_intro f2), if_neg (fun h => h.2 f4), if_pos h22]⟩, by show va_P (dC, dI) vwCl (wX cyI cyZ q0 q1 q2 q3 q4 q5 q6 (upd (upd (upd wc (1 * 64 + j) (ft 1 (wc (1 * 64 + j) + 1))) (2 * 64 + j) (ft 2 ((upd wc (1 * 64 + j) (ft 1 (wc (1 * 64 + j) + 1))) (2 * 64 + j) + 2))) (4 * 64 + j) (ft 4 ((upd (upd wc (1 * 64 + j) (ft 1 (wc (1 * 64 + j) + 1))) (2 * 64 + j) (ft 2 ((upd wc (1 * 64 + j) (ft 1 (wc (1 * 64 + j) + 1))) (2 * 64 + j) + 2))) (4 * 64 + j) + 1))) wl sc sl (upd cl ((ro * 40 + j)) (wc ((0 * 64 + j)))) ct rw co sk ss sq) t.heap; rw [ht]; exact hP⟩, hS.F ht⟩) hS.2.2 dX0_passesColumn_136
          · skip
            have hc : ¬ ct ro = 0 ∧ sk50 = 1 ∧ ss50 = 5 := by rcases hw with ⟨a1, a2, a3, a4⟩ | ⟨a1, a2, a3, a4⟩; exact absurd a2 hq50; exact ⟨a1, a3, a4⟩
            rw [hc.2.1, hc.2.2] at hP hD
            have fr := hc.1
            refine lv_iconst (v := 0) hx hb dX0_passesColumn_56 (by decide) ?_
            exact W.zret (v := 0) (ty := .boolean) hx hb hr rfl (fun t ht hW => ⟨⟨0, (wc, cl, 1, 5), rfl, Or.inl ⟨rfl, by unfold pcol; rw [if_neg (not_not_intro f3), if_neg (fun h => h.2 f0), if_pos fr]⟩, by show va_P (dC, dI) vwCl (wX cyI cyZ q0 q1 q2 q3 q4 q5 q6 wc wl sc sl cl ct rw co 1 5 sq) t.heap; rw [ht]; exact hP⟩, hS.F ht⟩) hS.2.2 dX0_passesColumn_57
        · skip
          have hc : ¬ nI j < wl 0 ∧ sk40 = stK wl 0 ∧ ss40 = nI 0 := by rcases hw with ⟨a1, a2, a3, a4⟩ | ⟨a1, a2, a3, a4⟩; exact absurd a2 hq40; exact ⟨a1, a3, a4⟩
          rw [hc.2.1, hc.2.2] at hP hD
          have f0 := hc.1
          refine lv_iconst (v := 0) hx hb dX0_passesColumn_46 (by decide) ?_
          exact W.zret (v := 0) (ty := .boolean) hx hb hr rfl (fun t ht hW => ⟨⟨0, (wc, cl, stK wl 0, nI 0), rfl, Or.inl ⟨rfl, by unfold pcol; rw [if_neg (not_not_intro f3), if_pos ⟨h22, f0⟩]⟩, by show va_P (dC, dI) vwCl (wX cyI cyZ q0 q1 q2 q3 q4 q5 q6 wc wl sc sl cl ct rw co (stK wl 0) (nI 0) sq) t.heap; rw [ht]; exact hP⟩, hS.F ht⟩) hS.2.2 dX0_passesColumn_47
  · skip
    have hc : ¬ nI j < wl 3 ∧ sk3 = stK wl 3 ∧ ss3 = nI 3 := by rcases hw with ⟨a1, a2, a3, a4⟩ | ⟨a1, a2, a3, a4⟩; exact absurd a2 hq3; exact ⟨a1, a3, a4⟩
    rw [hc.2.1, hc.2.2] at hP hD
    have f3 := hc.1
    refine lv_iconst (v := 0) hx hb dX0_passesColumn_9 (by decide) ?_
    exact W.zret (v := 0) (ty := .boolean) hx hb hr rfl (fun t ht hW => ⟨⟨0, (wc, cl, stK wl 3, nI 3), rfl, Or.inl ⟨rfl, by unfold pcol; rw [if_pos f3]⟩, by show va_P (dC, dI) vwCl (wX cyI cyZ q0 q1 q2 q3 q4 q5 q6 wc wl sc sl cl ct rw co (stK wl 3) (nI 3) sq) t.heap; rw [ht]; exact hP⟩, hS.F ht⟩) hS.2.2 dX0_passesColumn_10
