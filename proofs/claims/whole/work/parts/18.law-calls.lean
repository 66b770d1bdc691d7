abbrev wXO (cyI cyZ cyJ : ClassId) (q0 q1 q2 q3 q4 q5 q6 qo : Nat) (wc wl sc sl cl ct : Nat → Int32) (rw co sk ss sq : Int32) (oo : Nat → Int64) : va_W :=
  [(q0, .inr (0, [.ref q1, .ref q2, .ref q3, .ref q4, .ref q5, .ref q6, .int rw, .int co, .int sk, .int ss, .int sq])), (q1, .inl (cyI, 320, .inl wc)), (q2, .inl (cyI, 5, .inl wl)), (q3, .inl (cyI, 320, .inl sc)), (q4, .inl (cyI, 5, .inl sl)), (q5, .inl (cyI, 1600, .inl cl)), (q6, .inl (cyZ, 40, .inl ct)), (qo, .inl (cyJ, 1, .inr (.inl oo)))]
abbrev tyO (cyI cyZ cyJ : ClassId) : List (ClassId × FieldType) := [(cyI, .int), (cyZ, .boolean), (cyJ, .long)]
set_option maxHeartbeats 4000000 in
set_option maxRecDepth 100000 in
theorem k_L_mount (l : Launch) (hst : l.stackTraces = false) (dC : Nat → ClassId) (dI : Nat → Nat → Nat) (cyI cyZ cyJ : ClassId) (H0 : Heap) (q0 q1 q2 q3 q4 q5 q6 qo : Nat) (wc wl sc sl cl ct : Nat → Int32) (rw co sk ss sq : Int32) (oo : Nat → Int64) (hP : va_P (dC, dI) vwCl (wXO cyI cyZ cyJ q0 q1 q2 q3 q4 q5 q6 qo wc wl sc sl cl ct rw co sk ss sq oo) H0) (hD0 : va_D (fun _ => True) (wXO cyI cyZ cyJ q0 q1 q2 q3 q4 q5 q6 qo wc wl sc sl cl ct rw co sk ss sq oo)) (x : Int32) (y : Int32)  : Met l yL_mount wsL_mount ({ frames := 8, cells := 1, slots := 6, locals := 134 }) (va_Pc [.ref q0, .int x, .int y, .ref qo] (pZ dC dI (tyO cyI cyZ cyJ) H0 (va_A (wXO cyI cyZ cyJ q0 q1 q2 q3 q4 q5 q6 qo wc wl sc sl cl ct rw co sk ss sq oo) H0.size))) (va_Qi (fun (r : Int32) (u : (Nat → Int32) × (Nat → Int32) × (Nat → Int64)) => match u with | (wc9, wl9, oo9) => ((¬ ((¬ x < 0 ∧ x < nI 5) ∧ ¬ y < 0 ∧ y ≤ nI 64)) ∧ r = 1 ∧ wc9 = wc ∧ wl9 = wl ∧ oo9 = oo) ∨ (r = 0 ∧ ∃ (rr : Int32) (so : Nat) (nn : Nat), (x = nI so ∧ so < 5 ∧ y = nI nn ∧ nn ≤ 64 ∧ rr = wl so) ∧ wc9 = fl wc (so * 64) 0 nn ∧ wl9 = upd wl so (nI nn) ∧ oo9 = vp_updL oo 0 rr.toInt64)) (fun (u : (Nat → Int32) × (Nat → Int32) × (Nat → Int64)) (t : State) => match u with | (wc9, wl9, oo9) => va_P (dC, dI) vwCl (wXO cyI cyZ cyJ q0 q1 q2 q3 q4 q5 q6 qo wc9 wl9 sc sl cl ct rw co sk ss sq oo9) t.heap) (va_A (wXO cyI cyZ cyJ q0 q1 q2 q3 q4 q5 q6 qo wc wl sc sl cl ct rw co sk ss sq oo) H0.size)) 1 6 (va_A (wXO cyI cyZ cyJ q0 q1 q2 q3 q4 q5 q6 qo wc wl sc sl cl ct rw co sk ss sq oo) H0.size) := by
  refine va_MetW (hh := [(0, 10, 13, 13)]) (cc := cL_mount) (maxL := 5) (ret := (some .int)) (by decide) rfl ?_
  intro p e s m args below meth c s₁ B hml hv
  obtain ⟨rfl, rfl, hK, hz⟩ := hv
  have hx := B.exec
  have hb := B.bytes
  have hr := B.returns
  have hts := atoms_spec (ws := wsL_mount) B.pre
  have hown : s.vm.findClass RL = some m.cls := findClass_of_methodNamed B.named
  have hlocks := B.notSynchronized
  have htab := vx_table (x := yL_mount) B (hts _ List.mem_cons_self)
  have hD := hD0.self (sz := s.heap.size)
  generalize hAe : (va_A (wXO cyI cyZ cyJ q0 q1 q2 q3 q4 q5 q6 qo wc wl sc sl cl ct rw co sk ss sq oo) s.heap.size) = A at hD hz ⊢
  have hA : ∀ q : Nat, s.heap.size ≤ q → A q := fun q h => by rw [← hAe]; exact Or.inr h
  have hS : va_S A s.heap s.heap [] := va_S.rf
  have hl := lv_entry ([.ref q0, .int x, .int y, .ref qo]) (n := 5) (Nat.le_of_ble_eq_true rfl)
  rw [lg_entry_eq]
  generalize (lg_sl ([.ref q0, .int x, .int y, .ref qo]) ++ List.replicate (5 - (lg_sl ([.ref q0, .int x, .int y, .ref qo])).length) Slot.unset).toArray = ls at hl ⊢
  have hl : lv_has ls 5 [(0, .ref q0), (1, .int x), (2, .int y), (3, .ref qo)] := hl
  refine lv_aload_n hx hb dL_mount_0 rfl (lv_at hl 3 rfl) ?_
  refine lv_iconst (v := nI 0) hx hb dL_mount_1 (by decide) ?_
  refine lv_aload_n hx hb dL_mount_2 rfl (lv_at hl 0 rfl) ?_
  refine lv_iload_n hx hb dL_mount_3 rfl (lv_at hl 1 rfl) ?_
  refine lv_iload_n hx hb dL_mount_4 rfl (lv_at hl 2 rfl) ?_
  have hPc := hP.sub (ws' := wX cyI cyZ q0 q1 q2 q3 q4 q5 q6 wc wl sc sl cl ct rw co sk ss sq) [0, 1, 2, 3, 4, 5, 6] rfl
  have hDs := hD.sub (ws' := wX cyI cyZ q0 q1 q2 q3 q4 q5 q6 wc wl sc sl cl ct rw co sk ss sq) [0, 1, 2, 3, 4, 5, 6] (by decide) rfl
  have hKc := hK.sub (tys' := tyW cyI cyZ) [0, 1] rfl
  have hFc := va_free (wc := wX cyI cyZ q0 q1 q2 q3 q4 q5 q6 wc wl sc sl cl ct rw co sk ss sq) hD hS hA [0, 1, 2, 3, 4, 5, 6] rfl
  refine gx_callx (vx_runV (As := [.int x, .int y]) (rest := [.int (nI 0), .ref qo]) ⟨hx, hb, hml, hown, hts⟩ (k_X0_mount l hst dC dI cyI cyZ _ q0 q1 q2 q3 q4 q5 q6 wc wl sc sl cl ct rw co sk ss sq hPc (hDs.weaken (fun _ _ _ _ => trivial)) x y ) (cwV 2 hts gL_mount_X0_mount rfl rfl rfl (by decide +kernel) ⟨Nat.le_of_ble_eq_true rfl, Nat.le_of_ble_eq_true rfl⟩) (pZ_V hKc hz hS hFc (va_recv hK hP (ci := 0) (q0 := 0) rfl rfl)) rfl rfl hl.1 rfl (lv_room (Nat.le_of_ble_eq_true rfl)) dL_mount_5 ⟨Nat.le_of_ble_eq_true rfl, Nat.le_of_ble_eq_true rfl⟩) hS (fun q _ h => hFc q h) hFc (fun E ce q9 H1 locs1 hbad hz9 hk9 hS9 hce hcv hcl => ?_) (fun r9 u t H1 locs ht hvm hw hB hz1 hk1 hS => ?_)
  · skip
    have hP := hP.old hk9
    have hS := hS9
    obtain ⟨rfl, hC⟩ := hbad
    · skip
      refine vx_catch (own := RL) (name := "java/lang/IllegalArgumentException") (E := "java/lang/IllegalArgumentException") hown [] ⟨0, 10, 13, 13⟩ [] (by rw [htab]; rfl) (fun z h => by cases h) (by decide) (by decide) (hts (.classLink RL 13 "java/lang/IllegalArgumentException") (by decide +kernel)) (va_Nw.use rfl hz.2.2.1.1) hce hcv hcl ?_
      refine lv_astore (lv' := [(4, .ref q9), (0, .ref q0), (1, .int x), (2, .int y), (3, .ref qo)]) hx hb dL_mount_13 hl (by decide) rfl (fun ls hl => ?_)
      refine lv_iconst (v := 1) hx hb dL_mount_15 (by decide) ?_
      refine W.widen (k := 1) (n := 6) (by decide) (by decide) ?_
      exact W.iret (v := 1) hx hb hr (fun t ht hW => ⟨⟨1, (wc, wl, oo), rfl, Or.inl ⟨hC, rfl, rfl, rfl, rfl⟩, by show va_P (dC, dI) vwCl (wXO cyI cyZ cyJ q0 q1 q2 q3 q4 q5 q6 qo wc wl sc sl cl ct rw co sk ss sq oo) t.heap; rw [ht]; exact hP⟩, hS.F ht⟩) hS.2.2 dL_mount_16
  · skip
    obtain ⟨so, nn⟩ := u
    have hB : va_P (dC, dI) vwCl (wX cyI cyZ q0 q1 q2 q3 q4 q5 q6 (fl wc (so * 64) 0 nn) (upd wl so (nI nn)) sc sl cl ct rw co sk ss sq) t.heap := hB
    rw [ht] at hB
    obtain ⟨hP, hD⟩ := va_join (w1 := wX cyI cyZ q0 q1 q2 q3 q4 q5 q6 (fl wc (so * 64) 0 nn) (upd wl so (nI nn)) sc sl cl ct rw co sk ss sq) (wr := [(qo, .inl (cyJ, 1, .inr (.inl oo)))]) hP hD [0, 1, 2, 3, 4, 5, 6] [7] rfl rfl (by decide) (by decide) hk1 hFc hB (wX_D (hDs.self (sz := _)))
    have hP : va_P (dC, dI) vwCl (wXO cyI cyZ cyJ q0 q1 q2 q3 q4 q5 q6 qo (fl wc (so * 64) 0 nn) (upd wl so (nI nn)) sc sl cl ct rw co sk ss sq oo) H1 := hP.sub (ws' := wXO cyI cyZ cyJ q0 q1 q2 q3 q4 q5 q6 qo (fl wc (so * 64) 0 nn) (upd wl so (nI nn)) sc sl cl ct rw co sk ss sq oo) [1, 2, 3, 4, 5, 6, 7, 0] rfl
    have hD : va_D A (wXO cyI cyZ cyJ q0 q1 q2 q3 q4 q5 q6 qo (fl wc (so * 64) 0 nn) (upd wl so (nI nn)) sc sl cl ct rw co sk ss sq oo) := hD.sub (ws' := wXO cyI cyZ cyJ q0 q1 q2 q3 q4 q5 q6 qo (fl wc (so * 64) 0 nn) (upd wl so (nI nn)) sc sl cl ct rw co sk ss sq oo) [1, 2, 3, 4, 5, 6, 7, 0] (by decide) rfl
    clear hB
    generalize H1 = H at hP hS ⊢
    refine lv_i2l hx hb dL_mount_8 rfl ?_
    refine va_last hx hb hK hP hD hS 7 2 rfl rfl (vp_in_nI (by omega) (by omega)) dL_mount_9 (fun H locs hP hD hS => ?_)
    rw [nI_clamp (show 0 < 2 ^ 31 by omega)] at hP hD
    have hP : va_P (dC, dI) vwCl (wXO cyI cyZ cyJ q0 q1 q2 q3 q4 q5 q6 qo (fl wc (so * 64) 0 nn) (upd wl so (nI nn)) sc sl cl ct rw co sk ss sq (vp_updL oo 0 r9.toInt64)) H := hP
    have hD : va_D A (wXO cyI cyZ cyJ q0 q1 q2 q3 q4 q5 q6 qo (fl wc (so * 64) 0 nn) (upd wl so (nI nn)) sc sl cl ct rw co sk ss sq (vp_updL oo 0 r9.toInt64)) := hD
    refine lv_goto (tgt := 17) hx hb dL_mount_10 (by decide) ?_
    refine lv_iconst (v := 0) hx hb dL_mount_17 (by decide) ?_
    refine W.widen (k := 1) (n := 6) (by decide) (by decide) ?_
    exact W.iret (v := 0) hx hb hr (fun t ht hW => ⟨⟨0, (fl wc (so * 64) 0 nn, upd wl so (nI nn), vp_updL oo 0 r9.toInt64), rfl, Or.inr (⟨rfl, r9, so, nn, hw, rfl, rfl, rfl⟩), by show va_P (dC, dI) vwCl (wXO cyI cyZ cyJ q0 q1 q2 q3 q4 q5 q6 qo (fl wc (so * 64) 0 nn) (upd wl so (nI nn)) sc sl cl ct rw co sk ss sq (vp_updL oo 0 r9.toInt64)) t.heap; rw [ht]; exact hP⟩, hS.F ht⟩) hS.2.2 dL_mount_18
set_option maxHeartbeats 4000000 in
set_option maxRecDepth 100000 in
theorem k_L_off (l : Launch) (hst : l.stackTraces = false) (dC : Nat → ClassId) (dI : Nat → Nat → Nat) (cyI cyZ cyJ : ClassId) (H0 : Heap) (q0 q1 q2 q3 q4 q5 q6 qo : Nat) (wc wl sc sl cl ct : Nat → Int32) (rw co sk ss sq : Int32) (oo : Nat → Int64) (hP : va_P (dC, dI) vwCl (wXO cyI cyZ cyJ q0 q1 q2 q3 q4 q5 q6 qo wc wl sc sl cl ct rw co sk ss sq oo) H0) (hD0 : va_D (fun _ => True) (wXO cyI cyZ cyJ q0 q1 q2 q3 q4 q5 q6 qo wc wl sc sl cl ct rw co sk ss sq oo)) (x : Int32)  : Met l yL_off wsL_off ({ frames := 8, cells := 1, slots := 6, locals := 133 }) (va_Pc [.ref q0, .int x, .ref qo] (pZ dC dI (tyO cyI cyZ cyJ) H0 (va_A (wXO cyI cyZ cyJ q0 q1 q2 q3 q4 q5 q6 qo wc wl sc sl cl ct rw co sk ss sq oo) H0.size))) (va_Qi (fun (r : Int32) (u : (Nat → Int32) × (Nat → Int64)) => match u with | (wl9, oo9) => ((¬ (¬ x < 0 ∧ x < nI 5)) ∧ r = 1 ∧ wl9 = wl ∧ oo9 = oo) ∨ ((∃ so : Nat, so < 5 ∧ x = nI so ∧ wl so = -1) ∧ r = 2 ∧ wl9 = wl ∧ oo9 = oo) ∨ (r = 0 ∧ ∃ (rr : Int32) (so : Nat), (x = nI so ∧ so < 5 ∧ ¬ wl so = -1 ∧ rr = wl so) ∧ wl9 = upd wl so (-1) ∧ oo9 = vp_updL oo 0 rr.toInt64)) (fun (u : (Nat → Int32) × (Nat → Int64)) (t : State) => match u with | (wl9, oo9) => va_P (dC, dI) vwCl (wXO cyI cyZ cyJ q0 q1 q2 q3 q4 q5 q6 qo wc wl9 sc sl cl ct rw co sk ss sq oo9) t.heap) (va_A (wXO cyI cyZ cyJ q0 q1 q2 q3 q4 q5 q6 qo wc wl sc sl cl ct rw co sk ss sq oo) H0.size)) 1 6 (va_A (wXO cyI cyZ cyJ q0 q1 q2 q3 q4 q5 q6 qo wc wl sc sl cl ct rw co sk ss sq oo) H0.size) := by
  refine va_MetW (hh := [(0, 9, 12, 13), (0, 9, 15, 19)]) (cc := cL_off) (maxL := 4) (ret := (some .int)) (by decide) rfl ?_
  intro p e s m args below meth c s₁ B hml hv
  obtain ⟨rfl, rfl, hK, hz⟩ := hv
  have hx := B.exec
  have hb := B.bytes
  have hr := B.returns
  have hts := atoms_spec (ws := wsL_off) B.pre
  have hown : s.vm.findClass RL = some m.cls := findClass_of_methodNamed B.named
  have hlocks := B.notSynchronized
  have htab := vx_table (x := yL_off) B (hts _ List.mem_cons_self)
  have hD := hD0.self (sz := s.heap.size)
  generalize hAe : (va_A (wXO cyI cyZ cyJ q0 q1 q2 q3 q4 q5 q6 qo wc wl sc sl cl ct rw co sk ss sq oo) s.heap.size) = A at hD hz ⊢
  have hA : ∀ q : Nat, s.heap.size ≤ q → A q := fun q h => by rw [← hAe]; exact Or.inr h
  have hS : va_S A s.heap s.heap [] := va_S.rf
  have hl := lv_entry ([.ref q0, .int x, .ref qo]) (n := 4) (Nat.le_of_ble_eq_true rfl)
  rw [lg_entry_eq]
  generalize (lg_sl ([.ref q0, .int x, .ref qo]) ++ List.replicate (4 - (lg_sl ([.ref q0, .int x, .ref qo])).length) Slot.unset).toArray = ls at hl ⊢
  have hl : lv_has ls 4 [(0, .ref q0), (1, .int x), (2, .ref qo)] := hl
  refine lv_aload_n hx hb dL_off_0 rfl (lv_at hl 2 rfl) ?_
  refine lv_iconst (v := nI 0) hx hb dL_off_1 (by decide) ?_
  refine lv_aload_n hx hb dL_off_2 rfl (lv_at hl 0 rfl) ?_
  refine lv_iload_n hx hb dL_off_3 rfl (lv_at hl 1 rfl) ?_
  have hPc := hP.sub (ws' := wX cyI cyZ q0 q1 q2 q3 q4 q5 q6 wc wl sc sl cl ct rw co sk ss sq) [0, 1, 2, 3, 4, 5, 6] rfl
  have hDs := hD.sub (ws' := wX cyI cyZ q0 q1 q2 q3 q4 q5 q6 wc wl sc sl cl ct rw co sk ss sq) [0, 1, 2, 3, 4, 5, 6] (by decide) rfl
  have hKc := hK.sub (tys' := tyW cyI cyZ) [0, 1] rfl
  have hFc := va_free (wc := wX cyI cyZ q0 q1 q2 q3 q4 q5 q6 wc wl sc sl cl ct rw co sk ss sq) hD hS hA [0, 1, 2, 3, 4, 5, 6] rfl
  refine gx_callx (vx_runV (As := [.int x]) (rest := [.int (nI 0), .ref qo]) ⟨hx, hb, hml, hown, hts⟩ (k_X0_off l hst dC dI cyI cyZ _ q0 q1 q2 q3 q4 q5 q6 wc wl sc sl cl ct rw co sk ss sq hPc (hDs.weaken (fun _ _ _ _ => trivial)) x ) (cwV 1 hts gL_off_X0_off rfl rfl rfl (by decide +kernel) ⟨Nat.le_of_ble_eq_true rfl, Nat.le_of_ble_eq_true rfl⟩) (pZ_V hKc hz hS hFc (va_recv hK hP (ci := 0) (q0 := 0) rfl rfl)) rfl rfl hl.1 rfl (lv_room (Nat.le_of_ble_eq_true rfl)) dL_off_4 ⟨Nat.le_of_ble_eq_true rfl, Nat.le_of_ble_eq_true rfl⟩) hS (fun q _ h => hFc q h) hFc (fun E ce q9 H1 locs1 hbad hz9 hk9 hS9 hce hcv hcl => ?_) (fun r9 u t H1 locs ht hvm hw hB hz1 hk1 hS => ?_)
  · skip
    have hP := hP.old hk9
    have hS := hS9
    rcases hbad with ⟨rfl, hC⟩ | ⟨rfl, hC⟩
    · skip
      refine vx_catch (own := RL) (name := "java/lang/IllegalArgumentException") (E := "java/lang/IllegalArgumentException") hown [] ⟨0, 9, 12, 13⟩ [⟨0, 9, 15, 19⟩] (by rw [htab]; rfl) (fun z h => by cases h) (by decide) (by decide) (hts (.classLink RL 13 "java/lang/IllegalArgumentException") (by decide +kernel)) (va_Nw.use rfl hz.2.2.1.1) hce hcv hcl ?_
      refine lv_astore_n (lv' := [(3, .ref q9), (0, .ref q0), (1, .int x), (2, .ref qo)]) hx hb dL_off_12 rfl hl (by decide) rfl (fun ls hl => ?_)
      refine lv_iconst (v := 1) hx hb dL_off_13 (by decide) ?_
      refine W.widen (k := 1) (n := 6) (by decide) (by decide) ?_
      exact W.iret (v := 1) hx hb hr (fun t ht hW => ⟨⟨1, (wl, oo), rfl, Or.inl ⟨hC, rfl, rfl, rfl⟩, by show va_P (dC, dI) vwCl (wXO cyI cyZ cyJ q0 q1 q2 q3 q4 q5 q6 qo wc wl sc sl cl ct rw co sk ss sq oo) t.heap; rw [ht]; exact hP⟩, hS.F ht⟩) hS.2.2 dL_off_14
    · skip
      refine vx_catch (own := RL) (name := "java/lang/IllegalStateException") (E := "java/lang/IllegalStateException") hown [⟨0, 9, 12, 13⟩] ⟨0, 9, 15, 19⟩ [] (by rw [htab]; rfl) (fun z h => by simp only [List.mem_cons, List.not_mem_nil, or_false] at h; rcases h with rfl <;> first | exact Or.inr ⟨by decide, "java/lang/IllegalArgumentException", hts (.classLink RL 13 "java/lang/IllegalArgumentException") (by decide +kernel), hz.2.2.1.2.2.2.2.2.2.2 _ _ (by decide)⟩) (by decide) (by decide) (hts (.classLink RL 19 "java/lang/IllegalStateException") (by decide +kernel)) (va_Nw.use rfl hz.2.2.1.2.1) hce hcv hcl ?_
      refine lv_astore_n (lv' := [(3, .ref q9), (0, .ref q0), (1, .int x), (2, .ref qo)]) hx hb dL_off_15 rfl hl (by decide) rfl (fun ls hl => ?_)
      refine lv_iconst (v := 2) hx hb dL_off_16 (by decide) ?_
      refine W.widen (k := 1) (n := 6) (by decide) (by decide) ?_
      exact W.iret (v := 2) hx hb hr (fun t ht hW => ⟨⟨2, (wl, oo), rfl, Or.inr (Or.inl ⟨hC, rfl, rfl, rfl⟩), by show va_P (dC, dI) vwCl (wXO cyI cyZ cyJ q0 q1 q2 q3 q4 q5 q6 qo wc wl sc sl cl ct rw co sk ss sq oo) t.heap; rw [ht]; exact hP⟩, hS.F ht⟩) hS.2.2 dL_off_17
  · skip
    obtain ⟨so, rfl⟩ : ∃ z, z = u := ⟨_, rfl⟩
    have hB : va_P (dC, dI) vwCl (wX cyI cyZ q0 q1 q2 q3 q4 q5 q6 wc (upd wl so (-1)) sc sl cl ct rw co sk ss sq) t.heap := hB
    rw [ht] at hB
    obtain ⟨hP, hD⟩ := va_join (w1 := wX cyI cyZ q0 q1 q2 q3 q4 q5 q6 wc (upd wl so (-1)) sc sl cl ct rw co sk ss sq) (wr := [(qo, .inl (cyJ, 1, .inr (.inl oo)))]) hP hD [0, 1, 2, 3, 4, 5, 6] [7] rfl rfl (by decide) (by decide) hk1 hFc hB (wX_D (hDs.self (sz := _)))
    have hP : va_P (dC, dI) vwCl (wXO cyI cyZ cyJ q0 q1 q2 q3 q4 q5 q6 qo wc (upd wl so (-1)) sc sl cl ct rw co sk ss sq oo) H1 := hP.sub (ws' := wXO cyI cyZ cyJ q0 q1 q2 q3 q4 q5 q6 qo wc (upd wl so (-1)) sc sl cl ct rw co sk ss sq oo) [1, 2, 3, 4, 5, 6, 7, 0] rfl
    have hD : va_D A (wXO cyI cyZ cyJ q0 q1 q2 q3 q4 q5 q6 qo wc (upd wl so (-1)) sc sl cl ct rw co sk ss sq oo) := hD.sub (ws' := wXO cyI cyZ cyJ q0 q1 q2 q3 q4 q5 q6 qo wc (upd wl so (-1)) sc sl cl ct rw co sk ss sq oo) [1, 2, 3, 4, 5, 6, 7, 0] (by decide) rfl
    clear hB
    generalize H1 = H at hP hS ⊢
    refine lv_i2l hx hb dL_off_7 rfl ?_
    refine va_last hx hb hK hP hD hS 7 2 rfl rfl (vp_in_nI (by omega) (by omega)) dL_off_8 (fun H locs hP hD hS => ?_)
    rw [nI_clamp (show 0 < 2 ^ 31 by omega)] at hP hD
    have hP : va_P (dC, dI) vwCl (wXO cyI cyZ cyJ q0 q1 q2 q3 q4 q5 q6 qo wc (upd wl so (-1)) sc sl cl ct rw co sk ss sq (vp_updL oo 0 r9.toInt64)) H := hP
    have hD : va_D A (wXO cyI cyZ cyJ q0 q1 q2 q3 q4 q5 q6 qo wc (upd wl so (-1)) sc sl cl ct rw co sk ss sq (vp_updL oo 0 r9.toInt64)) := hD
    refine lv_goto (tgt := 18) hx hb dL_off_9 (by decide) ?_
    refine lv_iconst (v := 0) hx hb dL_off_18 (by decide) ?_
    refine W.widen (k := 1) (n := 6) (by decide) (by decide) ?_
    exact W.iret (v := 0) hx hb hr (fun t ht hW => ⟨⟨0, (upd wl so (-1), vp_updL oo 0 r9.toInt64), rfl, Or.inr (Or.inr (⟨rfl, r9, so, hw, rfl, rfl⟩)), by show va_P (dC, dI) vwCl (wXO cyI cyZ cyJ q0 q1 q2 q3 q4 q5 q6 qo wc (upd wl so (-1)) sc sl cl ct rw co sk ss sq (vp_updL oo 0 r9.toInt64)) t.heap; rw [ht]; exact hP⟩, hS.F ht⟩) hS.2.2 dL_off_19
set_option maxHeartbeats 4000000 in
set_option maxRecDepth 100000 in
theorem k_L_swap (l : Launch) (hst : l.stackTraces = false) (dC : Nat → ClassId) (dI : Nat → Nat → Nat) (cyI cyZ cyJ : ClassId) (H0 : Heap) (q0 q1 q2 q3 q4 q5 q6 qo : Nat) (wc wl sc sl cl ct : Nat → Int32) (rw co sk ss sq : Int32) (oo : Nat → Int64) (hP : va_P (dC, dI) vwCl (wXO cyI cyZ cyJ q0 q1 q2 q3 q4 q5 q6 qo wc wl sc sl cl ct rw co sk ss sq oo) H0) (hD0 : va_D (fun _ => True) (wXO cyI cyZ cyJ q0 q1 q2 q3 q4 q5 q6 qo wc wl sc sl cl ct rw co sk ss sq oo)) (x : Int32)  : Met l yL_swap wsL_swap ({ frames := 8, cells := 1, slots := 6, locals := 134 }) (va_Pc [.ref q0, .int x, .ref qo] (pZ dC dI (tyO cyI cyZ cyJ) H0 (va_A (wXO cyI cyZ cyJ q0 q1 q2 q3 q4 q5 q6 qo wc wl sc sl cl ct rw co sk ss sq oo) H0.size))) (va_Qi (fun (r : Int32) (u : (Nat → Int32) × (Nat → Int32) × (Nat → Int32) × (Nat → Int32) × (Nat → Int64)) => match u with | (wc9, sc9, wl9, sl9, oo9) => ((¬ (¬ x < 0 ∧ x < nI 5)) ∧ r = 1 ∧ wc9 = wc ∧ sc9 = sc ∧ wl9 = wl ∧ sl9 = sl ∧ oo9 = oo) ∨ (r = 0 ∧ ∃ (rr : Int32) (so : Nat), (x = nI so ∧ so < 5 ∧ rr = sl so) ∧ wc9 = (swp wc sc (so * 64) 64).1 ∧ sc9 = (swp wc sc (so * 64) 64).2 ∧ wl9 = upd wl so (sl so) ∧ sl9 = upd sl so (wl so) ∧ oo9 = vp_updL oo 0 rr.toInt64)) (fun (u : (Nat → Int32) × (Nat → Int32) × (Nat → Int32) × (Nat → Int32) × (Nat → Int64)) (t : State) => match u with | (wc9, sc9, wl9, sl9, oo9) => va_P (dC, dI) vwCl (wXO cyI cyZ cyJ q0 q1 q2 q3 q4 q5 q6 qo wc9 wl9 sc9 sl9 cl ct rw co sk ss sq oo9) t.heap) (va_A (wXO cyI cyZ cyJ q0 q1 q2 q3 q4 q5 q6 qo wc wl sc sl cl ct rw co sk ss sq oo) H0.size)) 1 6 (va_A (wXO cyI cyZ cyJ q0 q1 q2 q3 q4 q5 q6 qo wc wl sc sl cl ct rw co sk ss sq oo) H0.size) := by
  refine va_MetW (hh := [(0, 9, 12, 13)]) (cc := cL_swap) (maxL := 4) (ret := (some .int)) (by decide) rfl ?_
  intro p e s m args below meth c s₁ B hml hv
  obtain ⟨rfl, rfl, hK, hz⟩ := hv
  have hx := B.exec
  have hb := B.bytes
  have hr := B.returns
  have hts := atoms_spec (ws := wsL_swap) B.pre
  have hown : s.vm.findClass RL = some m.cls := findClass_of_methodNamed B.named
  have hlocks := B.notSynchronized
  have htab := vx_table (x := yL_swap) B (hts _ List.mem_cons_self)
  have hD := hD0.self (sz := s.heap.size)
  generalize hAe : (va_A (wXO cyI cyZ cyJ q0 q1 q2 q3 q4 q5 q6 qo wc wl sc sl cl ct rw co sk ss sq oo) s.heap.size) = A at hD hz ⊢
  have hA : ∀ q : Nat, s.heap.size ≤ q → A q := fun q h => by rw [← hAe]; exact Or.inr h
  have hS : va_S A s.heap s.heap [] := va_S.rf
  have hl := lv_entry ([.ref q0, .int x, .ref qo]) (n := 4) (Nat.le_of_ble_eq_true rfl)
  rw [lg_entry_eq]
  generalize (lg_sl ([.ref q0, .int x, .ref qo]) ++ List.replicate (4 - (lg_sl ([.ref q0, .int x, .ref qo])).length) Slot.unset).toArray = ls at hl ⊢
  have hl : lv_has ls 4 [(0, .ref q0), (1, .int x), (2, .ref qo)] := hl
  refine lv_aload_n hx hb dL_swap_0 rfl (lv_at hl 2 rfl) ?_
  refine lv_iconst (v := nI 0) hx hb dL_swap_1 (by decide) ?_
  refine lv_aload_n hx hb dL_swap_2 rfl (lv_at hl 0 rfl) ?_
  refine lv_iload_n hx hb dL_swap_3 rfl (lv_at hl 1 rfl) ?_
  have hPc := hP.sub (ws' := wX cyI cyZ q0 q1 q2 q3 q4 q5 q6 wc wl sc sl cl ct rw co sk ss sq) [0, 1, 2, 3, 4, 5, 6] rfl
  have hDs := hD.sub (ws' := wX cyI cyZ q0 q1 q2 q3 q4 q5 q6 wc wl sc sl cl ct rw co sk ss sq) [0, 1, 2, 3, 4, 5, 6] (by decide) rfl
  have hKc := hK.sub (tys' := tyW cyI cyZ) [0, 1] rfl
  have hFc := va_free (wc := wX cyI cyZ q0 q1 q2 q3 q4 q5 q6 wc wl sc sl cl ct rw co sk ss sq) hD hS hA [0, 1, 2, 3, 4, 5, 6] rfl
  refine gx_callx (vx_runV (As := [.int x]) (rest := [.int (nI 0), .ref qo]) ⟨hx, hb, hml, hown, hts⟩ (k_X0_swap l hst dC dI cyI cyZ _ q0 q1 q2 q3 q4 q5 q6 wc wl sc sl cl ct rw co sk ss sq hPc (hDs.weaken (fun _ _ _ _ => trivial)) x ) (cwV 1 hts gL_swap_X0_swap rfl rfl rfl (by decide +kernel) ⟨Nat.le_of_ble_eq_true rfl, Nat.le_of_ble_eq_true rfl⟩) (pZ_V hKc hz hS hFc (va_recv hK hP (ci := 0) (q0 := 0) rfl rfl)) rfl rfl hl.1 rfl (lv_room (Nat.le_of_ble_eq_true rfl)) dL_swap_4 ⟨Nat.le_of_ble_eq_true rfl, Nat.le_of_ble_eq_true rfl⟩) hS (fun q _ h => hFc q h) hFc (fun E ce q9 H1 locs1 hbad hz9 hk9 hS9 hce hcv hcl => ?_) (fun r9 u t H1 locs ht hvm hw hB hz1 hk1 hS => ?_)
  · skip
    have hP := hP.old hk9
    have hS := hS9
    obtain ⟨rfl, hC⟩ := hbad
    · skip
      refine vx_catch (own := RL) (name := "java/lang/IllegalArgumentException") (E := "java/lang/IllegalArgumentException") hown [] ⟨0, 9, 12, 13⟩ [] (by rw [htab]; rfl) (fun z h => by cases h) (by decide) (by decide) (hts (.classLink RL 13 "java/lang/IllegalArgumentException") (by decide +kernel)) (va_Nw.use rfl hz.2.2.1.1) hce hcv hcl ?_
      refine lv_astore_n (lv' := [(3, .ref q9), (0, .ref q0), (1, .int x), (2, .ref qo)]) hx hb dL_swap_12 rfl hl (by decide) rfl (fun ls hl => ?_)
      refine lv_iconst (v := 1) hx hb dL_swap_13 (by decide) ?_
      refine W.widen (k := 1) (n := 6) (by decide) (by decide) ?_
      exact W.iret (v := 1) hx hb hr (fun t ht hW => ⟨⟨1, (wc, sc, wl, sl, oo), rfl, Or.inl ⟨hC, rfl, rfl, rfl, rfl, rfl, rfl⟩, by show va_P (dC, dI) vwCl (wXO cyI cyZ cyJ q0 q1 q2 q3 q4 q5 q6 qo wc wl sc sl cl ct rw co sk ss sq oo) t.heap; rw [ht]; exact hP⟩, hS.F ht⟩) hS.2.2 dL_swap_14
  · skip
    obtain ⟨so, rfl⟩ : ∃ z, z = u := ⟨_, rfl⟩
    have hB : va_P (dC, dI) vwCl (wX cyI cyZ q0 q1 q2 q3 q4 q5 q6 ((swp wc sc (so * 64) 64).1) (upd wl so (sl so)) ((swp wc sc (so * 64) 64).2) (upd sl so (wl so)) cl ct rw co sk ss sq) t.heap := hB
    rw [ht] at hB
    obtain ⟨hP, hD⟩ := va_join (w1 := wX cyI cyZ q0 q1 q2 q3 q4 q5 q6 ((swp wc sc (so * 64) 64).1) (upd wl so (sl so)) ((swp wc sc (so * 64) 64).2) (upd sl so (wl so)) cl ct rw co sk ss sq) (wr := [(qo, .inl (cyJ, 1, .inr (.inl oo)))]) hP hD [0, 1, 2, 3, 4, 5, 6] [7] rfl rfl (by decide) (by decide) hk1 hFc hB (wX_D (hDs.self (sz := _)))
    have hP : va_P (dC, dI) vwCl (wXO cyI cyZ cyJ q0 q1 q2 q3 q4 q5 q6 qo ((swp wc sc (so * 64) 64).1) (upd wl so (sl so)) ((swp wc sc (so * 64) 64).2) (upd sl so (wl so)) cl ct rw co sk ss sq oo) H1 := hP.sub (ws' := wXO cyI cyZ cyJ q0 q1 q2 q3 q4 q5 q6 qo ((swp wc sc (so * 64) 64).1) (upd wl so (sl so)) ((swp wc sc (so * 64) 64).2) (upd sl so (wl so)) cl ct rw co sk ss sq oo) [1, 2, 3, 4, 5, 6, 7, 0] rfl
    have hD : va_D A (wXO cyI cyZ cyJ q0 q1 q2 q3 q4 q5 q6 qo ((swp wc sc (so * 64) 64).1) (upd wl so (sl so)) ((swp wc sc (so * 64) 64).2) (upd sl so (wl so)) cl ct rw co sk ss sq oo) := hD.sub (ws' := wXO cyI cyZ cyJ q0 q1 q2 q3 q4 q5 q6 qo ((swp wc sc (so * 64) 64).1) (upd wl so (sl so)) ((swp wc sc (so * 64) 64).2) (upd sl so (wl so)) cl ct rw co sk ss sq oo) [1, 2, 3, 4, 5, 6, 7, 0] (by decide) rfl
    clear hB
    generalize H1 = H at hP hS ⊢
    refine lv_i2l hx hb dL_swap_7 rfl ?_
    refine va_last hx hb hK hP hD hS 7 2 rfl rfl (vp_in_nI (by omega) (by omega)) dL_swap_8 (fun H locs hP hD hS => ?_)
    rw [nI_clamp (show 0 < 2 ^ 31 by omega)] at hP hD
    have hP : va_P (dC, dI) vwCl (wXO cyI cyZ cyJ q0 q1 q2 q3 q4 q5 q6 qo ((swp wc sc (so * 64) 64).1) (upd wl so (sl so)) ((swp wc sc (so * 64) 64).2) (upd sl so (wl so)) cl ct rw co sk ss sq (vp_updL oo 0 r9.toInt64)) H := hP
    have hD : va_D A (wXO cyI cyZ cyJ q0 q1 q2 q3 q4 q5 q6 qo ((swp wc sc (so * 64) 64).1) (upd wl so (sl so)) ((swp wc sc (so * 64) 64).2) (upd sl so (wl so)) cl ct rw co sk ss sq (vp_updL oo 0 r9.toInt64)) := hD
    refine lv_goto (tgt := 15) hx hb dL_swap_9 (by decide) ?_
    refine lv_iconst (v := 0) hx hb dL_swap_15 (by decide) ?_
    refine W.widen (k := 1) (n := 6) (by decide) (by decide) ?_
    exact W.iret (v := 0) hx hb hr (fun t ht hW => ⟨⟨0, ((swp wc sc (so * 64) 64).1, (swp wc sc (so * 64) 64).2, upd wl so (sl so), upd sl so (wl so), vp_updL oo 0 r9.toInt64), rfl, Or.inr (⟨rfl, r9, so, hw, rfl, rfl, rfl, rfl, rfl⟩), by show va_P (dC, dI) vwCl (wXO cyI cyZ cyJ q0 q1 q2 q3 q4 q5 q6 qo ((swp wc sc (so * 64) 64).1) (upd wl so (sl so)) ((swp wc sc (so * 64) 64).2) (upd sl so (wl so)) cl ct rw co sk ss sq (vp_updL oo 0 r9.toInt64)) t.heap; rw [ht]; exact hP⟩, hS.F ht⟩) hS.2.2 dL_swap_16
set_option maxHeartbeats 4000000 in
set_option maxRecDepth 100000 in
theorem k_L_copy (l : Launch) (hst : l.stackTraces = false) (dC : Nat → ClassId) (dI : Nat → Nat → Nat) (cyI cyZ cyJ : ClassId) (H0 : Heap) (q0 q1 q2 q3 q4 q5 q6 qo : Nat) (wc wl sc sl cl ct : Nat → Int32) (rw co sk ss sq : Int32) (oo : Nat → Int64) (hP : va_P (dC, dI) vwCl (wXO cyI cyZ cyJ q0 q1 q2 q3 q4 q5 q6 qo wc wl sc sl cl ct rw co sk ss sq oo) H0) (hD0 : va_D (fun _ => True) (wXO cyI cyZ cyJ q0 q1 q2 q3 q4 q5 q6 qo wc wl sc sl cl ct rw co sk ss sq oo)) (x : Int32) (hwl : ∀ k, k < 5 → wl k = -1 ∨ ∃ n : Nat, n ≤ 64 ∧ wl k = nI n) : Met l yL_copy wsL_copy ({ frames := 8, cells := 1, slots := 6, locals := 135 }) (va_Pc [.ref q0, .int x, .ref qo] (pZ dC dI (tyO cyI cyZ cyJ) H0 (va_A (wXO cyI cyZ cyJ q0 q1 q2 q3 q4 q5 q6 qo wc wl sc sl cl ct rw co sk ss sq oo) H0.size))) (va_Qi (fun (r : Int32) (u : (Nat → Int32) × (Nat → Int32) × (Nat → Int64)) => match u with | (sc9, sl9, oo9) => ((¬ (¬ x < 0 ∧ x < nI 5)) ∧ r = 1 ∧ sc9 = sc ∧ sl9 = sl ∧ oo9 = oo) ∨ ((∃ so : Nat, so < 5 ∧ x = nI so ∧ wl so = -1) ∧ r = 2 ∧ sc9 = sc ∧ sl9 = sl ∧ oo9 = oo) ∨ (r = 0 ∧ ∃ (rr : Int32) (so : Nat) (nn : Nat), (x = nI so ∧ so < 5 ∧ nn ≤ 64 ∧ wl so = nI nn ∧ rr = nI nn) ∧ sc9 = cpn sc wc (so * 64) nn ∧ sl9 = upd sl so (nI nn) ∧ oo9 = vp_updL oo 0 rr.toInt64)) (fun (u : (Nat → Int32) × (Nat → Int32) × (Nat → Int64)) (t : State) => match u with | (sc9, sl9, oo9) => va_P (dC, dI) vwCl (wXO cyI cyZ cyJ q0 q1 q2 q3 q4 q5 q6 qo wc wl sc9 sl9 cl ct rw co sk ss sq oo9) t.heap) (va_A (wXO cyI cyZ cyJ q0 q1 q2 q3 q4 q5 q6 qo wc wl sc sl cl ct rw co sk ss sq oo) H0.size)) 1 6 (va_A (wXO cyI cyZ cyJ q0 q1 q2 q3 q4 q5 q6 qo wc wl sc sl cl ct rw co sk ss sq oo) H0.size) := by
  refine va_MetW (hh := [(0, 9, 12, 13), (0, 9, 15, 19)]) (cc := cL_copy) (maxL := 4) (ret := (some .int)) (by decide) rfl ?_
  intro p e s m args below meth c s₁ B hml hv
  obtain ⟨rfl, rfl, hK, hz⟩ := hv
  have hx := B.exec
  have hb := B.bytes
  have hr := B.returns
  have hts := atoms_spec (ws := wsL_copy) B.pre
  have hown : s.vm.findClass RL = some m.cls := findClass_of_methodNamed B.named
  have hlocks := B.notSynchronized
  have htab := vx_table (x := yL_copy) B (hts _ List.mem_cons_self)
  have hD := hD0.self (sz := s.heap.size)
  generalize hAe : (va_A (wXO cyI cyZ cyJ q0 q1 q2 q3 q4 q5 q6 qo wc wl sc sl cl ct rw co sk ss sq oo) s.heap.size) = A at hD hz ⊢
  have hA : ∀ q : Nat, s.heap.size ≤ q → A q := fun q h => by rw [← hAe]; exact Or.inr h
  have hS : va_S A s.heap s.heap [] := va_S.rf
  have hl := lv_entry ([.ref q0, .int x, .ref qo]) (n := 4) (Nat.le_of_ble_eq_true rfl)
  rw [lg_entry_eq]
  generalize (lg_sl ([.ref q0, .int x, .ref qo]) ++ List.replicate (4 - (lg_sl ([.ref q0, .int x, .ref qo])).length) Slot.unset).toArray = ls at hl ⊢
  have hl : lv_has ls 4 [(0, .ref q0), (1, .int x), (2, .ref qo)] := hl
  refine lv_aload_n hx hb dL_copy_0 rfl (lv_at hl 2 rfl) ?_
  refine lv_iconst (v := nI 0) hx hb dL_copy_1 (by decide) ?_
  refine lv_aload_n hx hb dL_copy_2 rfl (lv_at hl 0 rfl) ?_
  refine lv_iload_n hx hb dL_copy_3 rfl (lv_at hl 1 rfl) ?_
  have hPc := hP.sub (ws' := wX cyI cyZ q0 q1 q2 q3 q4 q5 q6 wc wl sc sl cl ct rw co sk ss sq) [0, 1, 2, 3, 4, 5, 6] rfl
  have hDs := hD.sub (ws' := wX cyI cyZ q0 q1 q2 q3 q4 q5 q6 wc wl sc sl cl ct rw co sk ss sq) [0, 1, 2, 3, 4, 5, 6] (by decide) rfl
  have hKc := hK.sub (tys' := tyW cyI cyZ) [0, 1] rfl
  have hFc := va_free (wc := wX cyI cyZ q0 q1 q2 q3 q4 q5 q6 wc wl sc sl cl ct rw co sk ss sq) hD hS hA [0, 1, 2, 3, 4, 5, 6] rfl
  refine gx_callx (vx_runV (As := [.int x]) (rest := [.int (nI 0), .ref qo]) ⟨hx, hb, hml, hown, hts⟩ (k_X0_copy l hst dC dI cyI cyZ _ q0 q1 q2 q3 q4 q5 q6 wc wl sc sl cl ct rw co sk ss sq hPc (hDs.weaken (fun _ _ _ _ => trivial)) x hwl) (cwV 1 hts gL_copy_X0_copy rfl rfl rfl (by decide +kernel) ⟨Nat.le_of_ble_eq_true rfl, Nat.le_of_ble_eq_true rfl⟩) (pZ_V hKc hz hS hFc (va_recv hK hP (ci := 0) (q0 := 0) rfl rfl)) rfl rfl hl.1 rfl (lv_room (Nat.le_of_ble_eq_true rfl)) dL_copy_4 ⟨Nat.le_of_ble_eq_true rfl, Nat.le_of_ble_eq_true rfl⟩) hS (fun q _ h => hFc q h) hFc (fun E ce q9 H1 locs1 hbad hz9 hk9 hS9 hce hcv hcl => ?_) (fun r9 u t H1 locs ht hvm hw hB hz1 hk1 hS => ?_)
  · skip
    have hP := hP.old hk9
    have hS := hS9
    rcases hbad with ⟨rfl, hC⟩ | ⟨rfl, hC⟩
    · skip
      refine vx_catch (own := RL) (name := "java/lang/IllegalArgumentException") (E := "java/lang/IllegalArgumentException") hown [] ⟨0, 9, 12, 13⟩ [⟨0, 9, 15, 19⟩] (by rw [htab]; rfl) (fun z h => by cases h) (by decide) (by decide) (hts (.classLink RL 13 "java/lang/IllegalArgumentException") (by decide +kernel)) (va_Nw.use rfl hz.2.2.1.1) hce hcv hcl ?_
      refine lv_astore_n (lv' := [(3, .ref q9), (0, .ref q0), (1, .int x), (2, .ref qo)]) hx hb dL_copy_12 rfl hl (by decide) rfl (fun ls hl => ?_)
      refine lv_iconst (v := 1) hx hb dL_copy_13 (by decide) ?_
      refine W.widen (k := 1) (n := 6) (by decide) (by decide) ?_
      exact W.iret (v := 1) hx hb hr (fun t ht hW => ⟨⟨1, (sc, sl, oo), rfl, Or.inl ⟨hC, rfl, rfl, rfl, rfl⟩, by show va_P (dC, dI) vwCl (wXO cyI cyZ cyJ q0 q1 q2 q3 q4 q5 q6 qo wc wl sc sl cl ct rw co sk ss sq oo) t.heap; rw [ht]; exact hP⟩, hS.F ht⟩) hS.2.2 dL_copy_14
    · skip
      refine vx_catch (own := RL) (name := "java/lang/IllegalStateException") (E := "java/lang/IllegalStateException") hown [⟨0, 9, 12, 13⟩] ⟨0, 9, 15, 19⟩ [] (by rw [htab]; rfl) (fun z h => by simp only [List.mem_cons, List.not_mem_nil, or_false] at h; rcases h with rfl <;> first | exact Or.inr ⟨by decide, "java/lang/IllegalArgumentException", hts (.classLink RL 13 "java/lang/IllegalArgumentException") (by decide +kernel), hz.2.2.1.2.2.2.2.2.2.2 _ _ (by decide)⟩) (by decide) (by decide) (hts (.classLink RL 19 "java/lang/IllegalStateException") (by decide +kernel)) (va_Nw.use rfl hz.2.2.1.2.1) hce hcv hcl ?_
      refine lv_astore_n (lv' := [(3, .ref q9), (0, .ref q0), (1, .int x), (2, .ref qo)]) hx hb dL_copy_15 rfl hl (by decide) rfl (fun ls hl => ?_)
      refine lv_iconst (v := 2) hx hb dL_copy_16 (by decide) ?_
      refine W.widen (k := 1) (n := 6) (by decide) (by decide) ?_
      exact W.iret (v := 2) hx hb hr (fun t ht hW => ⟨⟨2, (sc, sl, oo), rfl, Or.inr (Or.inl ⟨hC, rfl, rfl, rfl, rfl⟩), by show va_P (dC, dI) vwCl (wXO cyI cyZ cyJ q0 q1 q2 q3 q4 q5 q6 qo wc wl sc sl cl ct rw co sk ss sq oo) t.heap; rw [ht]; exact hP⟩, hS.F ht⟩) hS.2.2 dL_copy_17
  · skip
    obtain ⟨so, nn⟩ := u
    have hB : va_P (dC, dI) vwCl (wX cyI cyZ q0 q1 q2 q3 q4 q5 q6 wc wl (cpn sc wc (so * 64) nn) (upd sl so (nI nn)) cl ct rw co sk ss sq) t.heap := hB
    rw [ht] at hB
    obtain ⟨hP, hD⟩ := va_join (w1 := wX cyI cyZ q0 q1 q2 q3 q4 q5 q6 wc wl (cpn sc wc (so * 64) nn) (upd sl so (nI nn)) cl ct rw co sk ss sq) (wr := [(qo, .inl (cyJ, 1, .inr (.inl oo)))]) hP hD [0, 1, 2, 3, 4, 5, 6] [7] rfl rfl (by decide) (by decide) hk1 hFc hB (wX_D (hDs.self (sz := _)))
    have hP : va_P (dC, dI) vwCl (wXO cyI cyZ cyJ q0 q1 q2 q3 q4 q5 q6 qo wc wl (cpn sc wc (so * 64) nn) (upd sl so (nI nn)) cl ct rw co sk ss sq oo) H1 := hP.sub (ws' := wXO cyI cyZ cyJ q0 q1 q2 q3 q4 q5 q6 qo wc wl (cpn sc wc (so * 64) nn) (upd sl so (nI nn)) cl ct rw co sk ss sq oo) [1, 2, 3, 4, 5, 6, 7, 0] rfl
    have hD : va_D A (wXO cyI cyZ cyJ q0 q1 q2 q3 q4 q5 q6 qo wc wl (cpn sc wc (so * 64) nn) (upd sl so (nI nn)) cl ct rw co sk ss sq oo) := hD.sub (ws' := wXO cyI cyZ cyJ q0 q1 q2 q3 q4 q5 q6 qo wc wl (cpn sc wc (so * 64) nn) (upd sl so (nI nn)) cl ct rw co sk ss sq oo) [1, 2, 3, 4, 5, 6, 7, 0] (by decide) rfl
    clear hB
    generalize H1 = H at hP hS ⊢
    refine lv_i2l hx hb dL_copy_7 rfl ?_
    refine va_last hx hb hK hP hD hS 7 2 rfl rfl (vp_in_nI (by omega) (by omega)) dL_copy_8 (fun H locs hP hD hS => ?_)
    rw [nI_clamp (show 0 < 2 ^ 31 by omega)] at hP hD
    have hP : va_P (dC, dI) vwCl (wXO cyI cyZ cyJ q0 q1 q2 q3 q4 q5 q6 qo wc wl (cpn sc wc (so * 64) nn) (upd sl so (nI nn)) cl ct rw co sk ss sq (vp_updL oo 0 r9.toInt64)) H := hP
    have hD : va_D A (wXO cyI cyZ cyJ q0 q1 q2 q3 q4 q5 q6 qo wc wl (cpn sc wc (so * 64) nn) (upd sl so (nI nn)) cl ct rw co sk ss sq (vp_updL oo 0 r9.toInt64)) := hD
    refine lv_goto (tgt := 18) hx hb dL_copy_9 (by decide) ?_
    refine lv_iconst (v := 0) hx hb dL_copy_18 (by decide) ?_
    refine W.widen (k := 1) (n := 6) (by decide) (by decide) ?_
    exact W.iret (v := 0) hx hb hr (fun t ht hW => ⟨⟨0, (cpn sc wc (so * 64) nn, upd sl so (nI nn), vp_updL oo 0 r9.toInt64), rfl, Or.inr (Or.inr (⟨rfl, r9, so, nn, hw, rfl, rfl, rfl⟩)), by show va_P (dC, dI) vwCl (wXO cyI cyZ cyJ q0 q1 q2 q3 q4 q5 q6 qo wc wl (cpn sc wc (so * 64) nn) (upd sl so (nI nn)) cl ct rw co sk ss sq (vp_updL oo 0 r9.toInt64)) t.heap; rw [ht]; exact hP⟩, hS.F ht⟩) hS.2.2 dL_copy_19
set_option maxHeartbeats 4000000 in
set_option maxRecDepth 100000 in
theorem k_L_size (l : Launch) (hst : l.stackTraces = false) (dC : Nat → ClassId) (dI : Nat → Nat → Nat) (cyI cyZ cyJ : ClassId) (H0 : Heap) (q0 q1 q2 q3 q4 q5 q6 qo : Nat) (wc wl sc sl cl ct : Nat → Int32) (rw co sk ss sq : Int32) (oo : Nat → Int64) (hP : va_P (dC, dI) vwCl (wXO cyI cyZ cyJ q0 q1 q2 q3 q4 q5 q6 qo wc wl sc sl cl ct rw co sk ss sq oo) H0) (hD0 : va_D (fun _ => True) (wXO cyI cyZ cyJ q0 q1 q2 q3 q4 q5 q6 qo wc wl sc sl cl ct rw co sk ss sq oo)) (x : Int32) (y : Int32)  : Met l yL_size wsL_size ({ frames := 8, cells := 1, slots := 6, locals := 132 }) (va_Pc [.ref q0, .int x, .int y, .ref qo] (pZ dC dI (tyO cyI cyZ cyJ) H0 (va_A (wXO cyI cyZ cyJ q0 q1 q2 q3 q4 q5 q6 qo wc wl sc sl cl ct rw co sk ss sq oo) H0.size))) (va_Qi (fun (r : Int32) (u : (Nat → Int64)) => match u with | oo9 => ((¬ (¬ x < 0 ∧ x < nI 5)) ∧ r = 1 ∧ oo9 = oo) ∨ (r = 0 ∧ ∃ (rr : Int32) (so : Nat), (x = nI so ∧ so < 5 ∧ rr = (if y = 0 then wl so else sl so)) ∧ oo9 = vp_updL oo 0 rr.toInt64)) (fun (u : (Nat → Int64)) (t : State) => match u with | oo9 => va_P (dC, dI) vwCl (wXO cyI cyZ cyJ q0 q1 q2 q3 q4 q5 q6 qo wc wl sc sl cl ct rw co sk ss sq oo9) t.heap) (va_A (wXO cyI cyZ cyJ q0 q1 q2 q3 q4 q5 q6 qo wc wl sc sl cl ct rw co sk ss sq oo) H0.size)) 1 6 (va_A (wXO cyI cyZ cyJ q0 q1 q2 q3 q4 q5 q6 qo wc wl sc sl cl ct rw co sk ss sq oo) H0.size) := by
  refine va_MetW (hh := [(0, 10, 13, 13)]) (cc := cL_size) (maxL := 5) (ret := (some .int)) (by decide) rfl ?_
  intro p e s m args below meth c s₁ B hml hv
  obtain ⟨rfl, rfl, hK, hz⟩ := hv
  have hx := B.exec
  have hb := B.bytes
  have hr := B.returns
  have hts := atoms_spec (ws := wsL_size) B.pre
  have hown : s.vm.findClass RL = some m.cls := findClass_of_methodNamed B.named
  have hlocks := B.notSynchronized
  have htab := vx_table (x := yL_size) B (hts _ List.mem_cons_self)
  have hD := hD0.self (sz := s.heap.size)
  generalize hAe : (va_A (wXO cyI cyZ cyJ q0 q1 q2 q3 q4 q5 q6 qo wc wl sc sl cl ct rw co sk ss sq oo) s.heap.size) = A at hD hz ⊢
  have hA : ∀ q : Nat, s.heap.size ≤ q → A q := fun q h => by rw [← hAe]; exact Or.inr h
  have hS : va_S A s.heap s.heap [] := va_S.rf
  have hl := lv_entry ([.ref q0, .int x, .int y, .ref qo]) (n := 5) (Nat.le_of_ble_eq_true rfl)
  rw [lg_entry_eq]
  generalize (lg_sl ([.ref q0, .int x, .int y, .ref qo]) ++ List.replicate (5 - (lg_sl ([.ref q0, .int x, .int y, .ref qo])).length) Slot.unset).toArray = ls at hl ⊢
  have hl : lv_has ls 5 [(0, .ref q0), (1, .int x), (2, .int y), (3, .ref qo)] := hl
  refine lv_aload_n hx hb dL_size_0 rfl (lv_at hl 3 rfl) ?_
  refine lv_iconst (v := nI 0) hx hb dL_size_1 (by decide) ?_
  refine lv_aload_n hx hb dL_size_2 rfl (lv_at hl 0 rfl) ?_
  refine lv_iload_n hx hb dL_size_3 rfl (lv_at hl 1 rfl) ?_
  refine lv_iload_n hx hb dL_size_4 rfl (lv_at hl 2 rfl) ?_
  have hPc := hP.sub (ws' := wX cyI cyZ q0 q1 q2 q3 q4 q5 q6 wc wl sc sl cl ct rw co sk ss sq) [0, 1, 2, 3, 4, 5, 6] rfl
  have hDs := hD.sub (ws' := wX cyI cyZ q0 q1 q2 q3 q4 q5 q6 wc wl sc sl cl ct rw co sk ss sq) [0, 1, 2, 3, 4, 5, 6] (by decide) rfl
  have hKc := hK.sub (tys' := tyW cyI cyZ) [0, 1] rfl
  have hFc := va_free (wc := wX cyI cyZ q0 q1 q2 q3 q4 q5 q6 wc wl sc sl cl ct rw co sk ss sq) hD hS hA [0, 1, 2, 3, 4, 5, 6] rfl
  refine gx_callx (vx_runV (As := [.int x, .int y]) (rest := [.int (nI 0), .ref qo]) ⟨hx, hb, hml, hown, hts⟩ (k_X0_size l hst dC dI cyI cyZ _ q0 q1 q2 q3 q4 q5 q6 wc wl sc sl cl ct rw co sk ss sq hPc (hDs.weaken (fun _ _ _ _ => trivial)) x y ) (cwV 2 hts gL_size_X0_size rfl rfl rfl (by decide +kernel) ⟨Nat.le_of_ble_eq_true rfl, Nat.le_of_ble_eq_true rfl⟩) (pZ_V hKc hz hS hFc (va_recv hK hP (ci := 0) (q0 := 0) rfl rfl)) rfl rfl hl.1 rfl (lv_room (Nat.le_of_ble_eq_true rfl)) dL_size_5 ⟨Nat.le_of_ble_eq_true rfl, Nat.le_of_ble_eq_true rfl⟩) hS (fun q _ h => hFc q h) hFc (fun E ce q9 H1 locs1 hbad hz9 hk9 hS9 hce hcv hcl => ?_) (fun r9 u t H1 locs ht hvm hw hB hz1 hk1 hS => ?_)
  · skip
    have hP := hP.old hk9
    have hS := hS9
    obtain ⟨rfl, hC⟩ := hbad
    · skip
      refine vx_catch (own := RL) (name := "java/lang/IllegalArgumentException") (E := "java/lang/IllegalArgumentException") hown [] ⟨0, 10, 13, 13⟩ [] (by rw [htab]; rfl) (fun z h => by cases h) (by decide) (by decide) (hts (.classLink RL 13 "java/lang/IllegalArgumentException") (by decide +kernel)) (va_Nw.use rfl hz.2.2.1.1) hce hcv hcl ?_
      refine lv_astore (lv' := [(4, .ref q9), (0, .ref q0), (1, .int x), (2, .int y), (3, .ref qo)]) hx hb dL_size_13 hl (by decide) rfl (fun ls hl => ?_)
      refine lv_iconst (v := 1) hx hb dL_size_15 (by decide) ?_
      refine W.widen (k := 1) (n := 6) (by decide) (by decide) ?_
      exact W.iret (v := 1) hx hb hr (fun t ht hW => ⟨⟨1, oo, rfl, Or.inl ⟨hC, rfl, rfl⟩, by show va_P (dC, dI) vwCl (wXO cyI cyZ cyJ q0 q1 q2 q3 q4 q5 q6 qo wc wl sc sl cl ct rw co sk ss sq oo) t.heap; rw [ht]; exact hP⟩, hS.F ht⟩) hS.2.2 dL_size_16
  · skip
    obtain ⟨so, rfl⟩ : ∃ z, z = u := ⟨_, rfl⟩
    have hB : va_P (dC, dI) vwCl (wX cyI cyZ q0 q1 q2 q3 q4 q5 q6 wc wl sc sl cl ct rw co sk ss sq) t.heap := hB
    rw [ht] at hB
    obtain ⟨hP, hD⟩ := va_join (w1 := wX cyI cyZ q0 q1 q2 q3 q4 q5 q6 wc wl sc sl cl ct rw co sk ss sq) (wr := [(qo, .inl (cyJ, 1, .inr (.inl oo)))]) hP hD [0, 1, 2, 3, 4, 5, 6] [7] rfl rfl (by decide) (by decide) hk1 hFc hB (wX_D (hDs.self (sz := _)))
    have hP : va_P (dC, dI) vwCl (wXO cyI cyZ cyJ q0 q1 q2 q3 q4 q5 q6 qo wc wl sc sl cl ct rw co sk ss sq oo) H1 := hP.sub (ws' := wXO cyI cyZ cyJ q0 q1 q2 q3 q4 q5 q6 qo wc wl sc sl cl ct rw co sk ss sq oo) [1, 2, 3, 4, 5, 6, 7, 0] rfl
    have hD : va_D A (wXO cyI cyZ cyJ q0 q1 q2 q3 q4 q5 q6 qo wc wl sc sl cl ct rw co sk ss sq oo) := hD.sub (ws' := wXO cyI cyZ cyJ q0 q1 q2 q3 q4 q5 q6 qo wc wl sc sl cl ct rw co sk ss sq oo) [1, 2, 3, 4, 5, 6, 7, 0] (by decide) rfl
    clear hB
    generalize H1 = H at hP hS ⊢
    refine lv_i2l hx hb dL_size_8 rfl ?_
    refine va_last hx hb hK hP hD hS 7 2 rfl rfl (vp_in_nI (by omega) (by omega)) dL_size_9 (fun H locs hP hD hS => ?_)
    rw [nI_clamp (show 0 < 2 ^ 31 by omega)] at hP hD
    have hP : va_P (dC, dI) vwCl (wXO cyI cyZ cyJ q0 q1 q2 q3 q4 q5 q6 qo wc wl sc sl cl ct rw co sk ss sq (vp_updL oo 0 r9.toInt64)) H := hP
    have hD : va_D A (wXO cyI cyZ cyJ q0 q1 q2 q3 q4 q5 q6 qo wc wl sc sl cl ct rw co sk ss sq (vp_updL oo 0 r9.toInt64)) := hD
    refine lv_goto (tgt := 17) hx hb dL_size_10 (by decide) ?_
    refine lv_iconst (v := 0) hx hb dL_size_17 (by decide) ?_
    refine W.widen (k := 1) (n := 6) (by decide) (by decide) ?_
    exact W.iret (v := 0) hx hb hr (fun t ht hW => ⟨⟨0, vp_updL oo 0 r9.toInt64, rfl, Or.inr (⟨rfl, r9, so, hw, rfl⟩), by show va_P (dC, dI) vwCl (wXO cyI cyZ cyJ q0 q1 q2 q3 q4 q5 q6 qo wc wl sc sl cl ct rw co sk ss sq (vp_updL oo 0 r9.toInt64)) t.heap; rw [ht]; exact hP⟩, hS.F ht⟩) hS.2.2 dL_size_18
set_option maxHeartbeats 4000000 in
set_option maxRecDepth 100000 in
theorem k_L_get (l : Launch) (hst : l.stackTraces = false) (dC : Nat → ClassId) (dI : Nat → Nat → Nat) (cyI cyZ cyJ : ClassId) (H0 : Heap) (q0 q1 q2 q3 q4 q5 q6 qo : Nat) (wc wl sc sl cl ct : Nat → Int32) (rw co sk ss sq : Int32) (oo : Nat → Int64) (hP : va_P (dC, dI) vwCl (wXO cyI cyZ cyJ q0 q1 q2 q3 q4 q5 q6 qo wc wl sc sl cl ct rw co sk ss sq oo) H0) (hD0 : va_D (fun _ => True) (wXO cyI cyZ cyJ q0 q1 q2 q3 q4 q5 q6 qo wc wl sc sl cl ct rw co sk ss sq oo)) (x : Int32) (y : Int32) (hwl : ∀ k, k < 5 → wl k = -1 ∨ ∃ n : Nat, n ≤ 64 ∧ wl k = nI n) : Met l yL_get wsL_get ({ frames := 8, cells := 1, slots := 6, locals := 134 }) (va_Pc [.ref q0, .int x, .int y, .ref qo] (pZ dC dI (tyO cyI cyZ cyJ) H0 (va_A (wXO cyI cyZ cyJ q0 q1 q2 q3 q4 q5 q6 qo wc wl sc sl cl ct rw co sk ss sq oo) H0.size))) (va_Qi (fun (r : Int32) (u : (Nat → Int64)) => match u with | oo9 => ((¬ (¬ x < 0 ∧ x < nI 5)) ∧ r = 1 ∧ oo9 = oo) ∨ ((∃ so : Nat, so < 5 ∧ x = nI so ∧ wl so = -1) ∧ r = 2 ∧ oo9 = oo) ∨ ((∃ so : Nat, so < 5 ∧ x = nI so ∧ ¬ wl so = -1 ∧ ¬ (¬ y < 0 ∧ y < wl so)) ∧ r = 3 ∧ oo9 = oo) ∨ (r = 0 ∧ ∃ (rr : Int32) (so : Nat) (i : Nat), (x = nI so ∧ so < 5 ∧ y = nI i ∧ i < 64 ∧ ¬ wl so = -1 ∧ nI i < wl so ∧ rr = wc (so * 64 + i)) ∧ oo9 = vp_updL oo 0 rr.toInt64)) (fun (u : (Nat → Int64)) (t : State) => match u with | oo9 => va_P (dC, dI) vwCl (wXO cyI cyZ cyJ q0 q1 q2 q3 q4 q5 q6 qo wc wl sc sl cl ct rw co sk ss sq oo9) t.heap) (va_A (wXO cyI cyZ cyJ q0 q1 q2 q3 q4 q5 q6 qo wc wl sc sl cl ct rw co sk ss sq oo) H0.size)) 1 6 (va_A (wXO cyI cyZ cyJ q0 q1 q2 q3 q4 q5 q6 qo wc wl sc sl cl ct rw co sk ss sq oo) H0.size) := by
  refine va_MetW (hh := [(0, 10, 13, 13), (0, 10, 17, 19), (0, 10, 21, 34)]) (cc := cL_get) (maxL := 5) (ret := (some .int)) (by decide) rfl ?_
  intro p e s m args below meth c s₁ B hml hv
  obtain ⟨rfl, rfl, hK, hz⟩ := hv
  have hx := B.exec
  have hb := B.bytes
  have hr := B.returns
  have hts := atoms_spec (ws := wsL_get) B.pre
  have hown : s.vm.findClass RL = some m.cls := findClass_of_methodNamed B.named
  have hlocks := B.notSynchronized
  have htab := vx_table (x := yL_get) B (hts _ List.mem_cons_self)
  have hD := hD0.self (sz := s.heap.size)
  generalize hAe : (va_A (wXO cyI cyZ cyJ q0 q1 q2 q3 q4 q5 q6 qo wc wl sc sl cl ct rw co sk ss sq oo) s.heap.size) = A at hD hz ⊢
  have hA : ∀ q : Nat, s.heap.size ≤ q → A q := fun q h => by rw [← hAe]; exact Or.inr h
  have hS : va_S A s.heap s.heap [] := va_S.rf
  have hl := lv_entry ([.ref q0, .int x, .int y, .ref qo]) (n := 5) (Nat.le_of_ble_eq_true rfl)
  rw [lg_entry_eq]
  generalize (lg_sl ([.ref q0, .int x, .int y, .ref qo]) ++ List.replicate (5 - (lg_sl ([.ref q0, .int x, .int y, .ref qo])).length) Slot.unset).toArray = ls at hl ⊢
  have hl : lv_has ls 5 [(0, .ref q0), (1, .int x), (2, .int y), (3, .ref qo)] := hl
  refine lv_aload_n hx hb dL_get_0 rfl (lv_at hl 3 rfl) ?_
  refine lv_iconst (v := nI 0) hx hb dL_get_1 (by decide) ?_
  refine lv_aload_n hx hb dL_get_2 rfl (lv_at hl 0 rfl) ?_
  refine lv_iload_n hx hb dL_get_3 rfl (lv_at hl 1 rfl) ?_
  refine lv_iload_n hx hb dL_get_4 rfl (lv_at hl 2 rfl) ?_
  have hPc := hP.sub (ws' := wX cyI cyZ q0 q1 q2 q3 q4 q5 q6 wc wl sc sl cl ct rw co sk ss sq) [0, 1, 2, 3, 4, 5, 6] rfl
  have hDs := hD.sub (ws' := wX cyI cyZ q0 q1 q2 q3 q4 q5 q6 wc wl sc sl cl ct rw co sk ss sq) [0, 1, 2, 3, 4, 5, 6] (by decide) rfl
  have hKc := hK.sub (tys' := tyW cyI cyZ) [0, 1] rfl
  have hFc := va_free (wc := wX cyI cyZ q0 q1 q2 q3 q4 q5 q6 wc wl sc sl cl ct rw co sk ss sq) hD hS hA [0, 1, 2, 3, 4, 5, 6] rfl
  refine gx_callx (vx_runV (As := [.int x, .int y]) (rest := [.int (nI 0), .ref qo]) ⟨hx, hb, hml, hown, hts⟩ (k_X0_get l hst dC dI cyI cyZ _ q0 q1 q2 q3 q4 q5 q6 wc wl sc sl cl ct rw co sk ss sq hPc (hDs.weaken (fun _ _ _ _ => trivial)) x y hwl) (cwV 2 hts gL_get_X0_get rfl rfl rfl (by decide +kernel) ⟨Nat.le_of_ble_eq_true rfl, Nat.le_of_ble_eq_true rfl⟩) (pZ_V hKc hz hS hFc (va_recv hK hP (ci := 0) (q0 := 0) rfl rfl)) rfl rfl hl.1 rfl (lv_room (Nat.le_of_ble_eq_true rfl)) dL_get_5 ⟨Nat.le_of_ble_eq_true rfl, Nat.le_of_ble_eq_true rfl⟩) hS (fun q _ h => hFc q h) hFc (fun E ce q9 H1 locs1 hbad hz9 hk9 hS9 hce hcv hcl => ?_) (fun r9 u t H1 locs ht hvm hw hB hz1 hk1 hS => ?_)
  · skip
    have hP := hP.old hk9
    have hS := hS9
    rcases hbad with ⟨rfl, hC⟩ | ⟨rfl, hC⟩ | ⟨rfl, hC⟩
    · skip
      refine vx_catch (own := RL) (name := "java/lang/IllegalArgumentException") (E := "java/lang/IllegalArgumentException") hown [] ⟨0, 10, 13, 13⟩ [⟨0, 10, 17, 19⟩, ⟨0, 10, 21, 34⟩] (by rw [htab]; rfl) (fun z h => by cases h) (by decide) (by decide) (hts (.classLink RL 13 "java/lang/IllegalArgumentException") (by decide +kernel)) (va_Nw.use rfl hz.2.2.1.1) hce hcv hcl ?_
      refine lv_astore (lv' := [(4, .ref q9), (0, .ref q0), (1, .int x), (2, .int y), (3, .ref qo)]) hx hb dL_get_13 hl (by decide) rfl (fun ls hl => ?_)
      refine lv_iconst (v := 1) hx hb dL_get_15 (by decide) ?_
      refine W.widen (k := 1) (n := 6) (by decide) (by decide) ?_
      exact W.iret (v := 1) hx hb hr (fun t ht hW => ⟨⟨1, oo, rfl, Or.inl ⟨hC, rfl, rfl⟩, by show va_P (dC, dI) vwCl (wXO cyI cyZ cyJ q0 q1 q2 q3 q4 q5 q6 qo wc wl sc sl cl ct rw co sk ss sq oo) t.heap; rw [ht]; exact hP⟩, hS.F ht⟩) hS.2.2 dL_get_16
    · skip
      refine vx_catch (own := RL) (name := "java/lang/IllegalStateException") (E := "java/lang/IllegalStateException") hown [⟨0, 10, 13, 13⟩] ⟨0, 10, 17, 19⟩ [⟨0, 10, 21, 34⟩] (by rw [htab]; rfl) (fun z h => by simp only [List.mem_cons, List.not_mem_nil, or_false] at h; rcases h with rfl <;> first | exact Or.inr ⟨by decide, "java/lang/IllegalArgumentException", hts (.classLink RL 13 "java/lang/IllegalArgumentException") (by decide +kernel), hz.2.2.1.2.2.2.2.2.2.2 _ _ (by decide)⟩) (by decide) (by decide) (hts (.classLink RL 19 "java/lang/IllegalStateException") (by decide +kernel)) (va_Nw.use rfl hz.2.2.1.2.1) hce hcv hcl ?_
      refine lv_astore (lv' := [(4, .ref q9), (0, .ref q0), (1, .int x), (2, .int y), (3, .ref qo)]) hx hb dL_get_17 hl (by decide) rfl (fun ls hl => ?_)
      refine lv_iconst (v := 2) hx hb dL_get_19 (by decide) ?_
      refine W.widen (k := 1) (n := 6) (by decide) (by decide) ?_
      exact W.iret (v := 2) hx hb hr (fun t ht hW => ⟨⟨2, oo, rfl, Or.inr (Or.inl ⟨hC, rfl, rfl⟩), by show va_P (dC, dI) vwCl (wXO cyI cyZ cyJ q0 q1 q2 q3 q4 q5 q6 qo wc wl sc sl cl ct rw co sk ss sq oo) t.heap; rw [ht]; exact hP⟩, hS.F ht⟩) hS.2.2 dL_get_20
    · skip
      refine vx_catch (own := RL) (name := "java/lang/IndexOutOfBoundsException") (E := "java/lang/IndexOutOfBoundsException") hown [⟨0, 10, 13, 13⟩, ⟨0, 10, 17, 19⟩] ⟨0, 10, 21, 34⟩ [] (by rw [htab]; rfl) (fun z h => by simp only [List.mem_cons, List.not_mem_nil, or_false] at h; rcases h with rfl | rfl <;> first | exact Or.inr ⟨by decide, "java/lang/IllegalArgumentException", hts (.classLink RL 13 "java/lang/IllegalArgumentException") (by decide +kernel), hz.2.2.1.2.2.2.2.2.2.2 _ _ (by decide)⟩ | exact Or.inr ⟨by decide, "java/lang/IllegalStateException", hts (.classLink RL 19 "java/lang/IllegalStateException") (by decide +kernel), hz.2.2.1.2.2.2.2.2.2.2 _ _ (by decide)⟩) (by decide) (by decide) (hts (.classLink RL 34 "java/lang/IndexOutOfBoundsException") (by decide +kernel)) (va_Nw.use rfl hz.2.2.1.2.2.1) hce hcv hcl ?_
      refine lv_astore (lv' := [(4, .ref q9), (0, .ref q0), (1, .int x), (2, .int y), (3, .ref qo)]) hx hb dL_get_21 hl (by decide) rfl (fun ls hl => ?_)
      refine lv_iconst (v := 3) hx hb dL_get_23 (by decide) ?_
      refine W.widen (k := 1) (n := 6) (by decide) (by decide) ?_
      exact W.iret (v := 3) hx hb hr (fun t ht hW => ⟨⟨3, oo, rfl, Or.inr (Or.inr (Or.inl ⟨hC, rfl, rfl⟩)), by show va_P (dC, dI) vwCl (wXO cyI cyZ cyJ q0 q1 q2 q3 q4 q5 q6 qo wc wl sc sl cl ct rw co sk ss sq oo) t.heap; rw [ht]; exact hP⟩, hS.F ht⟩) hS.2.2 dL_get_24
  · skip
    obtain ⟨so, i⟩ := u
    have hB : va_P (dC, dI) vwCl (wX cyI cyZ q0 q1 q2 q3 q4 q5 q6 wc wl sc sl cl ct rw co sk ss sq) t.heap := hB
    rw [ht] at hB
    obtain ⟨hP, hD⟩ := va_join (w1 := wX cyI cyZ q0 q1 q2 q3 q4 q5 q6 wc wl sc sl cl ct rw co sk ss sq) (wr := [(qo, .inl (cyJ, 1, .inr (.inl oo)))]) hP hD [0, 1, 2, 3, 4, 5, 6] [7] rfl rfl (by decide) (by decide) hk1 hFc hB (wX_D (hDs.self (sz := _)))
    have hP : va_P (dC, dI) vwCl (wXO cyI cyZ cyJ q0 q1 q2 q3 q4 q5 q6 qo wc wl sc sl cl ct rw co sk ss sq oo) H1 := hP.sub (ws' := wXO cyI cyZ cyJ q0 q1 q2 q3 q4 q5 q6 qo wc wl sc sl cl ct rw co sk ss sq oo) [1, 2, 3, 4, 5, 6, 7, 0] rfl
    have hD : va_D A (wXO cyI cyZ cyJ q0 q1 q2 q3 q4 q5 q6 qo wc wl sc sl cl ct rw co sk ss sq oo) := hD.sub (ws' := wXO cyI cyZ cyJ q0 q1 q2 q3 q4 q5 q6 qo wc wl sc sl cl ct rw co sk ss sq oo) [1, 2, 3, 4, 5, 6, 7, 0] (by decide) rfl
    clear hB
    generalize H1 = H at hP hS ⊢
    refine lv_i2l hx hb dL_get_8 rfl ?_
    refine va_last hx hb hK hP hD hS 7 2 rfl rfl (vp_in_nI (by omega) (by omega)) dL_get_9 (fun H locs hP hD hS => ?_)
    rw [nI_clamp (show 0 < 2 ^ 31 by omega)] at hP hD
    have hP : va_P (dC, dI) vwCl (wXO cyI cyZ cyJ q0 q1 q2 q3 q4 q5 q6 qo wc wl sc sl cl ct rw co sk ss sq (vp_updL oo 0 r9.toInt64)) H := hP
    have hD : va_D A (wXO cyI cyZ cyJ q0 q1 q2 q3 q4 q5 q6 qo wc wl sc sl cl ct rw co sk ss sq (vp_updL oo 0 r9.toInt64)) := hD
    refine lv_goto (tgt := 25) hx hb dL_get_10 (by decide) ?_
    refine lv_iconst (v := 0) hx hb dL_get_25 (by decide) ?_
    refine W.widen (k := 1) (n := 6) (by decide) (by decide) ?_
    exact W.iret (v := 0) hx hb hr (fun t ht hW => ⟨⟨0, vp_updL oo 0 r9.toInt64, rfl, Or.inr (Or.inr (Or.inr (⟨rfl, r9, so, i, hw, rfl⟩))), by show va_P (dC, dI) vwCl (wXO cyI cyZ cyJ q0 q1 q2 q3 q4 q5 q6 qo wc wl sc sl cl ct rw co sk ss sq (vp_updL oo 0 r9.toInt64)) t.heap; rw [ht]; exact hP⟩, hS.F ht⟩) hS.2.2 dL_get_26
set_option maxHeartbeats 4000000 in
set_option maxRecDepth 100000 in
theorem k_L_set (l : Launch) (hst : l.stackTraces = false) (dC : Nat → ClassId) (dI : Nat → Nat → Nat) (cyI cyZ cyJ : ClassId) (H0 : Heap) (q0 q1 q2 q3 q4 q5 q6 qo : Nat) (wc wl sc sl cl ct : Nat → Int32) (rw co sk ss sq : Int32) (oo : Nat → Int64) (hP : va_P (dC, dI) vwCl (wXO cyI cyZ cyJ q0 q1 q2 q3 q4 q5 q6 qo wc wl sc sl cl ct rw co sk ss sq oo) H0) (hD0 : va_D (fun _ => True) (wXO cyI cyZ cyJ q0 q1 q2 q3 q4 q5 q6 qo wc wl sc sl cl ct rw co sk ss sq oo)) (x : Int32) (y : Int32) (v : Int32) (hwl : ∀ k, k < 5 → wl k = -1 ∨ ∃ n : Nat, n ≤ 64 ∧ wl k = nI n) : Met l yL_set wsL_set ({ frames := 8, cells := 1, slots := 6, locals := 135 }) (va_Pc [.ref q0, .int x, .int y, .int v, .ref qo] (pZ dC dI (tyO cyI cyZ cyJ) H0 (va_A (wXO cyI cyZ cyJ q0 q1 q2 q3 q4 q5 q6 qo wc wl sc sl cl ct rw co sk ss sq oo) H0.size))) (va_Qi (fun (r : Int32) (u : (Nat → Int32) × (Nat → Int64)) => match u with | (wc9, oo9) => ((¬ (¬ x < 0 ∧ x < nI 5)) ∧ r = 1 ∧ wc9 = wc ∧ oo9 = oo) ∨ ((∃ so : Nat, so < 5 ∧ x = nI so ∧ wl so = -1) ∧ r = 2 ∧ wc9 = wc ∧ oo9 = oo) ∨ ((∃ so : Nat, so < 5 ∧ x = nI so ∧ ¬ wl so = -1 ∧ ¬ (¬ y < 0 ∧ y < wl so)) ∧ r = 3 ∧ wc9 = wc ∧ oo9 = oo) ∨ (r = 0 ∧ ∃ (rr : Int32) (so : Nat) (i : Nat), (x = nI so ∧ so < 5 ∧ y = nI i ∧ i < 64 ∧ ¬ wl so = -1 ∧ nI i < wl so ∧ rr = ft so v) ∧ wc9 = upd wc (so * 64 + i) (ft so v) ∧ oo9 = vp_updL oo 0 rr.toInt64)) (fun (u : (Nat → Int32) × (Nat → Int64)) (t : State) => match u with | (wc9, oo9) => va_P (dC, dI) vwCl (wXO cyI cyZ cyJ q0 q1 q2 q3 q4 q5 q6 qo wc9 wl sc sl cl ct rw co sk ss sq oo9) t.heap) (va_A (wXO cyI cyZ cyJ q0 q1 q2 q3 q4 q5 q6 qo wc wl sc sl cl ct rw co sk ss sq oo) H0.size)) 1 6 (va_A (wXO cyI cyZ cyJ q0 q1 q2 q3 q4 q5 q6 qo wc wl sc sl cl ct rw co sk ss sq oo) H0.size) := by
  refine va_MetW (hh := [(0, 12, 15, 13), (0, 12, 19, 19), (0, 12, 23, 34)]) (cc := cL_set) (maxL := 6) (ret := (some .int)) (by decide) rfl ?_
  intro p e s m args below meth c s₁ B hml hv
  obtain ⟨rfl, rfl, hK, hz⟩ := hv
  have hx := B.exec
  have hb := B.bytes
  have hr := B.returns
  have hts := atoms_spec (ws := wsL_set) B.pre
  have hown : s.vm.findClass RL = some m.cls := findClass_of_methodNamed B.named
  have hlocks := B.notSynchronized
  have htab := vx_table (x := yL_set) B (hts _ List.mem_cons_self)
  have hD := hD0.self (sz := s.heap.size)
  generalize hAe : (va_A (wXO cyI cyZ cyJ q0 q1 q2 q3 q4 q5 q6 qo wc wl sc sl cl ct rw co sk ss sq oo) s.heap.size) = A at hD hz ⊢
  have hA : ∀ q : Nat, s.heap.size ≤ q → A q := fun q h => by rw [← hAe]; exact Or.inr h
  have hS : va_S A s.heap s.heap [] := va_S.rf
  have hl := lv_entry ([.ref q0, .int x, .int y, .int v, .ref qo]) (n := 6) (Nat.le_of_ble_eq_true rfl)
  rw [lg_entry_eq]
  generalize (lg_sl ([.ref q0, .int x, .int y, .int v, .ref qo]) ++ List.replicate (6 - (lg_sl ([.ref q0, .int x, .int y, .int v, .ref qo])).length) Slot.unset).toArray = ls at hl ⊢
  have hl : lv_has ls 6 [(0, .ref q0), (1, .int x), (2, .int y), (3, .int v), (4, .ref qo)] := hl
  refine lv_aload hx hb dL_set_0 (lv_at hl 4 rfl) ?_
  refine lv_iconst (v := nI 0) hx hb dL_set_2 (by decide) ?_
  refine lv_aload_n hx hb dL_set_3 rfl (lv_at hl 0 rfl) ?_
  refine lv_iload_n hx hb dL_set_4 rfl (lv_at hl 1 rfl) ?_
  refine lv_iload_n hx hb dL_set_5 rfl (lv_at hl 2 rfl) ?_
  refine lv_iload_n hx hb dL_set_6 rfl (lv_at hl 3 rfl) ?_
  have hPc := hP.sub (ws' := wX cyI cyZ q0 q1 q2 q3 q4 q5 q6 wc wl sc sl cl ct rw co sk ss sq) [0, 1, 2, 3, 4, 5, 6] rfl
  have hDs := hD.sub (ws' := wX cyI cyZ q0 q1 q2 q3 q4 q5 q6 wc wl sc sl cl ct rw co sk ss sq) [0, 1, 2, 3, 4, 5, 6] (by decide) rfl
  have hKc := hK.sub (tys' := tyW cyI cyZ) [0, 1] rfl
  have hFc := va_free (wc := wX cyI cyZ q0 q1 q2 q3 q4 q5 q6 wc wl sc sl cl ct rw co sk ss sq) hD hS hA [0, 1, 2, 3, 4, 5, 6] rfl
  refine gx_callx (vx_runV (As := [.int x, .int y, .int v]) (rest := [.int (nI 0), .ref qo]) ⟨hx, hb, hml, hown, hts⟩ (k_X0_set l hst dC dI cyI cyZ _ q0 q1 q2 q3 q4 q5 q6 wc wl sc sl cl ct rw co sk ss sq hPc (hDs.weaken (fun _ _ _ _ => trivial)) x y v hwl) (cwV 3 hts gL_set_X0_set rfl rfl rfl (by decide +kernel) ⟨Nat.le_of_ble_eq_true rfl, Nat.le_of_ble_eq_true rfl⟩) (pZ_V hKc hz hS hFc (va_recv hK hP (ci := 0) (q0 := 0) rfl rfl)) rfl rfl hl.1 rfl (lv_room (Nat.le_of_ble_eq_true rfl)) dL_set_7 ⟨Nat.le_of_ble_eq_true rfl, Nat.le_of_ble_eq_true rfl⟩) hS (fun q _ h => hFc q h) hFc (fun E ce q9 H1 locs1 hbad hz9 hk9 hS9 hce hcv hcl => ?_) (fun r9 u t H1 locs ht hvm hw hB hz1 hk1 hS => ?_)
  · skip
    have hP := hP.old hk9
    have hS := hS9
    rcases hbad with ⟨rfl, hC⟩ | ⟨rfl, hC⟩ | ⟨rfl, hC⟩
    · skip
      refine vx_catch (own := RL) (name := "java/lang/IllegalArgumentException") (E := "java/lang/IllegalArgumentException") hown [] ⟨0, 12, 15, 13⟩ [⟨0, 12, 19, 19⟩, ⟨0, 12, 23, 34⟩] (by rw [htab]; rfl) (fun z h => by cases h) (by decide) (by decide) (hts (.classLink RL 13 "java/lang/IllegalArgumentException") (by decide +kernel)) (va_Nw.use rfl hz.2.2.1.1) hce hcv hcl ?_
      refine lv_astore (lv' := [(5, .ref q9), (0, .ref q0), (1, .int x), (2, .int y), (3, .int v), (4, .ref qo)]) hx hb dL_set_15 hl (by decide) rfl (fun ls hl => ?_)
      refine lv_iconst (v := 1) hx hb dL_set_17 (by decide) ?_
      refine W.widen (k := 1) (n := 6) (by decide) (by decide) ?_
      exact W.iret (v := 1) hx hb hr (fun t ht hW => ⟨⟨1, (wc, oo), rfl, Or.inl ⟨hC, rfl, rfl, rfl⟩, by show va_P (dC, dI) vwCl (wXO cyI cyZ cyJ q0 q1 q2 q3 q4 q5 q6 qo wc wl sc sl cl ct rw co sk ss sq oo) t.heap; rw [ht]; exact hP⟩, hS.F ht⟩) hS.2.2 dL_set_18
    · skip
      refine vx_catch (own := RL) (name := "java/lang/IllegalStateException") (E := "java/lang/IllegalStateException") hown [⟨0, 12, 15, 13⟩] ⟨0, 12, 19, 19⟩ [⟨0, 12, 23, 34⟩] (by rw [htab]; rfl) (fun z h => by simp only [List.mem_cons, List.not_mem_nil, or_false] at h; rcases h with rfl <;> first | exact Or.inr ⟨by decide, "java/lang/IllegalArgumentException", hts (.classLink RL 13 "java/lang/IllegalArgumentException") (by decide +kernel), hz.2.2.1.2.2.2.2.2.2.2 _ _ (by decide)⟩) (by decide) (by decide) (hts (.classLink RL 19 "java/lang/IllegalStateException") (by decide +kernel)) (va_Nw.use rfl hz.2.2.1.2.1) hce hcv hcl ?_
      refine lv_astore (lv' := [(5, .ref q9), (0, .ref q0), (1, .int x), (2, .int y), (3, .int v), (4, .ref qo)]) hx hb dL_set_19 hl (by decide) rfl (fun ls hl => ?_)
      refine lv_iconst (v := 2) hx hb dL_set_21 (by decide) ?_
      refine W.widen (k := 1) (n := 6) (by decide) (by decide) ?_
      exact W.iret (v := 2) hx hb hr (fun t ht hW => ⟨⟨2, (wc, oo), rfl, Or.inr (Or.inl ⟨hC, rfl, rfl, rfl⟩), by show va_P (dC, dI) vwCl (wXO cyI cyZ cyJ q0 q1 q2 q3 q4 q5 q6 qo wc wl sc sl cl ct rw co sk ss sq oo) t.heap; rw [ht]; exact hP⟩, hS.F ht⟩) hS.2.2 dL_set_22
    · skip
      refine vx_catch (own := RL) (name := "java/lang/IndexOutOfBoundsException") (E := "java/lang/IndexOutOfBoundsException") hown [⟨0, 12, 15, 13⟩, ⟨0, 12, 19, 19⟩] ⟨0, 12, 23, 34⟩ [] (by rw [htab]; rfl) (fun z h => by simp only [List.mem_cons, List.not_mem_nil, or_false] at h; rcases h with rfl | rfl <;> first | exact Or.inr ⟨by decide, "java/lang/IllegalArgumentException", hts (.classLink RL 13 "java/lang/IllegalArgumentException") (by decide +kernel), hz.2.2.1.2.2.2.2.2.2.2 _ _ (by decide)⟩ | exact Or.inr ⟨by decide, "java/lang/IllegalStateException", hts (.classLink RL 19 "java/lang/IllegalStateException") (by decide +kernel), hz.2.2.1.2.2.2.2.2.2.2 _ _ (by decide)⟩) (by decide) (by decide) (hts (.classLink RL 34 "java/lang/IndexOutOfBoundsException") (by decide +kernel)) (va_Nw.use rfl hz.2.2.1.2.2.1) hce hcv hcl ?_
      refine lv_astore (lv' := [(5, .ref q9), (0, .ref q0), (1, .int x), (2, .int y), (3, .int v), (4, .ref qo)]) hx hb dL_set_23 hl (by decide) rfl (fun ls hl => ?_)
      refine lv_iconst (v := 3) hx hb dL_set_25 (by decide) ?_
      refine W.widen (k := 1) (n := 6) (by decide) (by decide) ?_
      exact W.iret (v := 3) hx hb hr (fun t ht hW => ⟨⟨3, (wc, oo), rfl, Or.inr (Or.inr (Or.inl ⟨hC, rfl, rfl, rfl⟩)), by show va_P (dC, dI) vwCl (wXO cyI cyZ cyJ q0 q1 q2 q3 q4 q5 q6 qo wc wl sc sl cl ct rw co sk ss sq oo) t.heap; rw [ht]; exact hP⟩, hS.F ht⟩) hS.2.2 dL_set_26
  · skip
    obtain ⟨so, i⟩ := u
    have hB : va_P (dC, dI) vwCl (wX cyI cyZ q0 q1 q2 q3 q4 q5 q6 (upd wc (so * 64 + i) (ft so v)) wl sc sl cl ct rw co sk ss sq) t.heap := hB
    rw [ht] at hB
    obtain ⟨hP, hD⟩ := va_join (w1 := wX cyI cyZ q0 q1 q2 q3 q4 q5 q6 (upd wc (so * 64 + i) (ft so v)) wl sc sl cl ct rw co sk ss sq) (wr := [(qo, .inl (cyJ, 1, .inr (.inl oo)))]) hP hD [0, 1, 2, 3, 4, 5, 6] [7] rfl rfl (by decide) (by decide) hk1 hFc hB (wX_D (hDs.self (sz := _)))
    have hP : va_P (dC, dI) vwCl (wXO cyI cyZ cyJ q0 q1 q2 q3 q4 q5 q6 qo (upd wc (so * 64 + i) (ft so v)) wl sc sl cl ct rw co sk ss sq oo) H1 := hP.sub (ws' := wXO cyI cyZ cyJ q0 q1 q2 q3 q4 q5 q6 qo (upd wc (so * 64 + i) (ft so v)) wl sc sl cl ct rw co sk ss sq oo) [1, 2, 3, 4, 5, 6, 7, 0] rfl
    have hD : va_D A (wXO cyI cyZ cyJ q0 q1 q2 q3 q4 q5 q6 qo (upd wc (so * 64 + i) (ft so v)) wl sc sl cl ct rw co sk ss sq oo) := hD.sub (ws' := wXO cyI cyZ cyJ q0 q1 q2 q3 q4 q5 q6 qo (upd wc (so * 64 + i) (ft so v)) wl sc sl cl ct rw co sk ss sq oo) [1, 2, 3, 4, 5, 6, 7, 0] (by decide) rfl
    clear hB
    generalize H1 = H at hP hS ⊢
    refine lv_i2l hx hb dL_set_10 rfl ?_
    refine va_last hx hb hK hP hD hS 7 2 rfl rfl (vp_in_nI (by omega) (by omega)) dL_set_11 (fun H locs hP hD hS => ?_)
    rw [nI_clamp (show 0 < 2 ^ 31 by omega)] at hP hD
    have hP : va_P (dC, dI) vwCl (wXO cyI cyZ cyJ q0 q1 q2 q3 q4 q5 q6 qo (upd wc (so * 64 + i) (ft so v)) wl sc sl cl ct rw co sk ss sq (vp_updL oo 0 r9.toInt64)) H := hP
    have hD : va_D A (wXO cyI cyZ cyJ q0 q1 q2 q3 q4 q5 q6 qo (upd wc (so * 64 + i) (ft so v)) wl sc sl cl ct rw co sk ss sq (vp_updL oo 0 r9.toInt64)) := hD
    refine lv_goto (tgt := 27) hx hb dL_set_12 (by decide) ?_
    refine lv_iconst (v := 0) hx hb dL_set_27 (by decide) ?_
    refine W.widen (k := 1) (n := 6) (by decide) (by decide) ?_
    exact W.iret (v := 0) hx hb hr (fun t ht hW => ⟨⟨0, (upd wc (so * 64 + i) (ft so v), vp_updL oo 0 r9.toInt64), rfl, Or.inr (Or.inr (Or.inr (⟨rfl, r9, so, i, hw, rfl, rfl⟩))), by show va_P (dC, dI) vwCl (wXO cyI cyZ cyJ q0 q1 q2 q3 q4 q5 q6 qo (upd wc (so * 64 + i) (ft so v)) wl sc sl cl ct rw co sk ss sq (vp_updL oo 0 r9.toInt64)) t.heap; rw [ht]; exact hP⟩, hS.F ht⟩) hS.2.2 dL_set_28
set_option maxHeartbeats 4000000 in
set_option maxRecDepth 100000 in
theorem k_L_alter (l : Launch) (hst : l.stackTraces = false) (dC : Nat → ClassId) (dI : Nat → Nat → Nat) (cyI cyZ cyJ : ClassId) (H0 : Heap) (q0 q1 q2 q3 q4 q5 q6 qo : Nat) (wc wl sc sl cl ct : Nat → Int32) (rw co sk ss sq : Int32) (oo : Nat → Int64) (hP : va_P (dC, dI) vwCl (wXO cyI cyZ cyJ q0 q1 q2 q3 q4 q5 q6 qo wc wl sc sl cl ct rw co sk ss sq oo) H0) (hD0 : va_D (fun _ => True) (wXO cyI cyZ cyJ q0 q1 q2 q3 q4 q5 q6 qo wc wl sc sl cl ct rw co sk ss sq oo)) (x : Int32) (y : Int32) (h : Int32) (v : Int32) (hwl : ∀ k, k < 5 → wl k = -1 ∨ ∃ n : Nat, n ≤ 64 ∧ wl k = nI n) : Met l yL_alter wsL_alter ({ frames := 9, cells := 1, slots := 6, locals := 157 }) (va_Pc [.ref q0, .int x, .int y, .int h, .int v, .ref qo] (pZ dC dI (tyO cyI cyZ cyJ) H0 (va_A (wXO cyI cyZ cyJ q0 q1 q2 q3 q4 q5 q6 qo wc wl sc sl cl ct rw co sk ss sq oo) H0.size))) (va_Qi (fun (r : Int32) (u : (Nat → Int32) × (Nat → Int64)) => match u with | (wc9, oo9) => (((¬ (¬ x < 0 ∧ x < nI 5) ∨ ∃ so : Nat, so < 5 ∧ x = nI so ∧ ¬ okA so h v)) ∧ r = 1 ∧ wc9 = wc ∧ oo9 = oo) ∨ ((∃ so : Nat, so < 5 ∧ x = nI so ∧ okA so h v ∧ wl so = -1) ∧ r = 2 ∧ wc9 = wc ∧ oo9 = oo) ∨ ((∃ so : Nat, so < 5 ∧ x = nI so ∧ okA so h v ∧ ¬ wl so = -1 ∧ ¬ (¬ y < 0 ∧ y < wl so)) ∧ r = 3 ∧ wc9 = wc ∧ oo9 = oo) ∨ (r = 0 ∧ ∃ (rr : Int32) (so : Nat) (i : Nat), (x = nI so ∧ so < 5 ∧ y = nI i ∧ i < 64 ∧ okA so h v ∧ ¬ wl so = -1 ∧ nI i < wl so ∧ rr = ft so (cb (wc (so * 64 + i)) h (opd so v))) ∧ wc9 = upd wc (so * 64 + i) (ft so (cb (wc (so * 64 + i)) h (opd so v))) ∧ oo9 = vp_updL oo 0 rr.toInt64)) (fun (u : (Nat → Int32) × (Nat → Int64)) (t : State) => match u with | (wc9, oo9) => va_P (dC, dI) vwCl (wXO cyI cyZ cyJ q0 q1 q2 q3 q4 q5 q6 qo wc9 wl sc sl cl ct rw co sk ss sq oo9) t.heap) (va_A (wXO cyI cyZ cyJ q0 q1 q2 q3 q4 q5 q6 qo wc wl sc sl cl ct rw co sk ss sq oo) H0.size)) 1 6 (va_A (wXO cyI cyZ cyJ q0 q1 q2 q3 q4 q5 q6 qo wc wl sc sl cl ct rw co sk ss sq oo) H0.size) := by
  refine va_MetW (hh := [(0, 14, 17, 13), (0, 14, 21, 19), (0, 14, 25, 34)]) (cc := cL_alter) (maxL := 7) (ret := (some .int)) (by decide) rfl ?_
  intro p e s m args below meth c s₁ B hml hv
  obtain ⟨rfl, rfl, hK, hz⟩ := hv
  have hx := B.exec
  have hb := B.bytes
  have hr := B.returns
  have hts := atoms_spec (ws := wsL_alter) B.pre
  have hown : s.vm.findClass RL = some m.cls := findClass_of_methodNamed B.named
  have hlocks := B.notSynchronized
  have htab := vx_table (x := yL_alter) B (hts _ List.mem_cons_self)
  have hD := hD0.self (sz := s.heap.size)
  generalize hAe : (va_A (wXO cyI cyZ cyJ q0 q1 q2 q3 q4 q5 q6 qo wc wl sc sl cl ct rw co sk ss sq oo) s.heap.size) = A at hD hz ⊢
  have hA : ∀ q : Nat, s.heap.size ≤ q → A q := fun q h => by rw [← hAe]; exact Or.inr h
  have hS : va_S A s.heap s.heap [] := va_S.rf
  have hl := lv_entry ([.ref q0, .int x, .int y, .int h, .int v, .ref qo]) (n := 7) (Nat.le_of_ble_eq_true rfl)
  rw [lg_entry_eq]
  generalize (lg_sl ([.ref q0, .int x, .int y, .int h, .int v, .ref qo]) ++ List.replicate (7 - (lg_sl ([.ref q0, .int x, .int y, .int h, .int v, .ref qo])).length) Slot.unset).toArray = ls at hl ⊢
  have hl : lv_has ls 7 [(0, .ref q0), (1, .int x), (2, .int y), (3, .int h), (4, .int v), (5, .ref qo)] := hl
  refine lv_aload hx hb dL_alter_0 (lv_at hl 5 rfl) ?_
  refine lv_iconst (v := nI 0) hx hb dL_alter_2 (by decide) ?_
  refine lv_aload_n hx hb dL_alter_3 rfl (lv_at hl 0 rfl) ?_
  refine lv_iload_n hx hb dL_alter_4 rfl (lv_at hl 1 rfl) ?_
  refine lv_iload_n hx hb dL_alter_5 rfl (lv_at hl 2 rfl) ?_
  refine lv_iload_n hx hb dL_alter_6 rfl (lv_at hl 3 rfl) ?_
  refine lv_iload hx hb dL_alter_7 (lv_at hl 4 rfl) ?_
  have hPc := hP.sub (ws' := wX cyI cyZ q0 q1 q2 q3 q4 q5 q6 wc wl sc sl cl ct rw co sk ss sq) [0, 1, 2, 3, 4, 5, 6] rfl
  have hDs := hD.sub (ws' := wX cyI cyZ q0 q1 q2 q3 q4 q5 q6 wc wl sc sl cl ct rw co sk ss sq) [0, 1, 2, 3, 4, 5, 6] (by decide) rfl
  have hKc := hK.sub (tys' := tyW cyI cyZ) [0, 1] rfl
  have hFc := va_free (wc := wX cyI cyZ q0 q1 q2 q3 q4 q5 q6 wc wl sc sl cl ct rw co sk ss sq) hD hS hA [0, 1, 2, 3, 4, 5, 6] rfl
  refine gx_callx (vx_runV (As := [.int x, .int y, .int h, .int v]) (rest := [.int (nI 0), .ref qo]) ⟨hx, hb, hml, hown, hts⟩ (k_X0_alter l hst dC dI cyI cyZ _ q0 q1 q2 q3 q4 q5 q6 wc wl sc sl cl ct rw co sk ss sq hPc (hDs.weaken (fun _ _ _ _ => trivial)) x y h v hwl) (cwV 4 hts gL_alter_X0_alter rfl rfl rfl (by decide +kernel) ⟨Nat.le_of_ble_eq_true rfl, Nat.le_of_ble_eq_true rfl⟩) (pZ_V hKc hz hS hFc (va_recv hK hP (ci := 0) (q0 := 0) rfl rfl)) rfl rfl hl.1 rfl (lv_room (Nat.le_of_ble_eq_true rfl)) dL_alter_9 ⟨Nat.le_of_ble_eq_true rfl, Nat.le_of_ble_eq_true rfl⟩) hS (fun q _ h => hFc q h) hFc (fun E ce q9 H1 locs1 hbad hz9 hk9 hS9 hce hcv hcl => ?_) (fun r9 u t H1 locs ht hvm hw hB hz1 hk1 hS => ?_)
  · skip
    have hP := hP.old hk9
    have hS := hS9
    rcases hbad with ⟨rfl, hC⟩ | ⟨rfl, hC⟩ | ⟨rfl, hC⟩
    · skip
      refine vx_catch (own := RL) (name := "java/lang/IllegalArgumentException") (E := "java/lang/IllegalArgumentException") hown [] ⟨0, 14, 17, 13⟩ [⟨0, 14, 21, 19⟩, ⟨0, 14, 25, 34⟩] (by rw [htab]; rfl) (fun z h => by cases h) (by decide) (by decide) (hts (.classLink RL 13 "java/lang/IllegalArgumentException") (by decide +kernel)) (va_Nw.use rfl hz.2.2.1.1) hce hcv hcl ?_
      refine lv_astore (lv' := [(6, .ref q9), (0, .ref q0), (1, .int x), (2, .int y), (3, .int h), (4, .int v), (5, .ref qo)]) hx hb dL_alter_17 hl (by decide) rfl (fun ls hl => ?_)
      refine lv_iconst (v := 1) hx hb dL_alter_19 (by decide) ?_
      refine W.widen (k := 1) (n := 6) (by decide) (by decide) ?_
      exact W.iret (v := 1) hx hb hr (fun t ht hW => ⟨⟨1, (wc, oo), rfl, Or.inl ⟨hC, rfl, rfl, rfl⟩, by show va_P (dC, dI) vwCl (wXO cyI cyZ cyJ q0 q1 q2 q3 q4 q5 q6 qo wc wl sc sl cl ct rw co sk ss sq oo) t.heap; rw [ht]; exact hP⟩, hS.F ht⟩) hS.2.2 dL_alter_20
    · skip
      refine vx_catch (own := RL) (name := "java/lang/IllegalStateException") (E := "java/lang/IllegalStateException") hown [⟨0, 14, 17, 13⟩] ⟨0, 14, 21, 19⟩ [⟨0, 14, 25, 34⟩] (by rw [htab]; rfl) (fun z h => by simp only [List.mem_cons, List.not_mem_nil, or_false] at h; rcases h with rfl <;> first | exact Or.inr ⟨by decide, "java/lang/IllegalArgumentException", hts (.classLink RL 13 "java/lang/IllegalArgumentException") (by decide +kernel), hz.2.2.1.2.2.2.2.2.2.2 _ _ (by decide)⟩) (by decide) (by decide) (hts (.classLink RL 19 "java/lang/IllegalStateException") (by decide +kernel)) (va_Nw.use rfl hz.2.2.1.2.1) hce hcv hcl ?_
      refine lv_astore (lv' := [(6, .ref q9), (0, .ref q0), (1, .int x), (2, .int y), (3, .int h), (4, .int v), (5, .ref qo)]) hx hb dL_alter_21 hl (by decide) rfl (fun ls hl => ?_)
      refine lv_iconst (v := 2) hx hb dL_alter_23 (by decide) ?_
      refine W.widen (k := 1) (n := 6) (by decide) (by decide) ?_
      exact W.iret (v := 2) hx hb hr (fun t ht hW => ⟨⟨2, (wc, oo), rfl, Or.inr (Or.inl ⟨hC, rfl, rfl, rfl⟩), by show va_P (dC, dI) vwCl (wXO cyI cyZ cyJ q0 q1 q2 q3 q4 q5 q6 qo wc wl sc sl cl ct rw co sk ss sq oo) t.heap; rw [ht]; exact hP⟩, hS.F ht⟩) hS.2.2 dL_alter_24
    · skip
      refine vx_catch (own := RL) (name := "java/lang/IndexOutOfBoundsException") (E := "java/lang/IndexOutOfBoundsException") hown [⟨0, 14, 17, 13⟩, ⟨0, 14, 21, 19⟩] ⟨0, 14, 25, 34⟩ [] (by rw [htab]; rfl) (fun z h => by simp only [List.mem_cons, List.not_mem_nil, or_false] at h; rcases h with rfl | rfl <;> first | exact Or.inr ⟨by decide, "java/lang/IllegalArgumentException", hts (.classLink RL 13 "java/lang/IllegalArgumentException") (by decide +kernel), hz.2.2.1.2.2.2.2.2.2.2 _ _ (by decide)⟩ | exact Or.inr ⟨by decide, "java/lang/IllegalStateException", hts (.classLink RL 19 "java/lang/IllegalStateException") (by decide +kernel), hz.2.2.1.2.2.2.2.2.2.2 _ _ (by decide)⟩) (by decide) (by decide) (hts (.classLink RL 34 "java/lang/IndexOutOfBoundsException") (by decide +kernel)) (va_Nw.use rfl hz.2.2.1.2.2.1) hce hcv hcl ?_
      refine lv_astore (lv' := [(6, .ref q9), (0, .ref q0), (1, .int x), (2, .int y), (3, .int h), (4, .int v), (5, .ref qo)]) hx hb dL_alter_25 hl (by decide) rfl (fun ls hl => ?_)
      refine lv_iconst (v := 3) hx hb dL_alter_27 (by decide) ?_
      refine W.widen (k := 1) (n := 6) (by decide) (by decide) ?_
      exact W.iret (v := 3) hx hb hr (fun t ht hW => ⟨⟨3, (wc, oo), rfl, Or.inr (Or.inr (Or.inl ⟨hC, rfl, rfl, rfl⟩)), by show va_P (dC, dI) vwCl (wXO cyI cyZ cyJ q0 q1 q2 q3 q4 q5 q6 qo wc wl sc sl cl ct rw co sk ss sq oo) t.heap; rw [ht]; exact hP⟩, hS.F ht⟩) hS.2.2 dL_alter_28
  · skip
    obtain ⟨so, i⟩ := u
    have hB : va_P (dC, dI) vwCl (wX cyI cyZ q0 q1 q2 q3 q4 q5 q6 (upd wc (so * 64 + i) (ft so (cb (wc (so * 64 + i)) h (opd so v)))) wl sc sl cl ct rw co sk ss sq) t.heap := hB
    rw [ht] at hB
    obtain ⟨hP, hD⟩ := va_join (w1 := wX cyI cyZ q0 q1 q2 q3 q4 q5 q6 (upd wc (so * 64 + i) (ft so (cb (wc (so * 64 + i)) h (opd so v)))) wl sc sl cl ct rw co sk ss sq) (wr := [(qo, .inl (cyJ, 1, .inr (.inl oo)))]) hP hD [0, 1, 2, 3, 4, 5, 6] [7] rfl rfl (by decide) (by decide) hk1 hFc hB (wX_D (hDs.self (sz := _)))
    have hP : va_P (dC, dI) vwCl (wXO cyI cyZ cyJ q0 q1 q2 q3 q4 q5 q6 qo (upd wc (so * 64 + i) (ft so (cb (wc (so * 64 + i)) h (opd so v)))) wl sc sl cl ct rw co sk ss sq oo) H1 := hP.sub (ws' := wXO cyI cyZ cyJ q0 q1 q2 q3 q4 q5 q6 qo (upd wc (so * 64 + i) (ft so (cb (wc (so * 64 + i)) h (opd so v)))) wl sc sl cl ct rw co sk ss sq oo) [1, 2, 3, 4, 5, 6, 7, 0] rfl
    have hD : va_D A (wXO cyI cyZ cyJ q0 q1 q2 q3 q4 q5 q6 qo (upd wc (so * 64 + i) (ft so (cb (wc (so * 64 + i)) h (opd so v)))) wl sc sl cl ct rw co sk ss sq oo) := hD.sub (ws' := wXO cyI cyZ cyJ q0 q1 q2 q3 q4 q5 q6 qo (upd wc (so * 64 + i) (ft so (cb (wc (so * 64 + i)) h (opd so v)))) wl sc sl cl ct rw co sk ss sq oo) [1, 2, 3, 4, 5, 6, 7, 0] (by decide) rfl
    clear hB
    generalize H1 = H at hP hS ⊢
    refine lv_i2l hx hb dL_alter_12 rfl ?_
    refine va_last hx hb hK hP hD hS 7 2 rfl rfl (vp_in_nI (by omega) (by omega)) dL_alter_13 (fun H locs hP hD hS => ?_)
    rw [nI_clamp (show 0 < 2 ^ 31 by omega)] at hP hD
    have hP : va_P (dC, dI) vwCl (wXO cyI cyZ cyJ q0 q1 q2 q3 q4 q5 q6 qo (upd wc (so * 64 + i) (ft so (cb (wc (so * 64 + i)) h (opd so v)))) wl sc sl cl ct rw co sk ss sq (vp_updL oo 0 r9.toInt64)) H := hP
    have hD : va_D A (wXO cyI cyZ cyJ q0 q1 q2 q3 q4 q5 q6 qo (upd wc (so * 64 + i) (ft so (cb (wc (so * 64 + i)) h (opd so v)))) wl sc sl cl ct rw co sk ss sq (vp_updL oo 0 r9.toInt64)) := hD
    refine lv_goto (tgt := 29) hx hb dL_alter_14 (by decide) ?_
    refine lv_iconst (v := 0) hx hb dL_alter_29 (by decide) ?_
    refine W.widen (k := 1) (n := 6) (by decide) (by decide) ?_
    exact W.iret (v := 0) hx hb hr (fun t ht hW => ⟨⟨0, (upd wc (so * 64 + i) (ft so (cb (wc (so * 64 + i)) h (opd so v))), vp_updL oo 0 r9.toInt64), rfl, Or.inr (Or.inr (Or.inr (⟨rfl, r9, so, i, hw, rfl, rfl⟩))), by show va_P (dC, dI) vwCl (wXO cyI cyZ cyJ q0 q1 q2 q3 q4 q5 q6 qo (upd wc (so * 64 + i) (ft so (cb (wc (so * 64 + i)) h (opd so v)))) wl sc sl cl ct rw co sk ss sq (vp_updL oo 0 r9.toInt64)) t.heap; rw [ht]; exact hP⟩, hS.F ht⟩) hS.2.2 dL_alter_30
set_option maxHeartbeats 4000000 in
set_option maxRecDepth 100000 in
theorem k_L_weave (l : Launch) (hst : l.stackTraces = false) (dC : Nat → ClassId) (dI : Nat → Nat → Nat) (cyI cyZ cyJ : ClassId) (H0 : Heap) (q0 q1 q2 q3 q4 q5 q6 qo : Nat) (wc wl sc sl cl ct : Nat → Int32) (rw co sk ss sq : Int32) (oo : Nat → Int64) (hP : va_P (dC, dI) vwCl (wXO cyI cyZ cyJ q0 q1 q2 q3 q4 q5 q6 qo wc wl sc sl cl ct rw co sk ss sq oo) H0) (hD0 : va_D (fun _ => True) (wXO cyI cyZ cyJ q0 q1 q2 q3 q4 q5 q6 qo wc wl sc sl cl ct rw co sk ss sq oo)) (x : Int32) (y : Int32)  : Met l yL_weave wsL_weave ({ frames := 7, cells := 1, slots := 6, locals := 113 }) (va_Pc [.ref q0, .int x, .int y, .ref qo] (pZ dC dI (tyO cyI cyZ cyJ) H0 (va_A (wXO cyI cyZ cyJ q0 q1 q2 q3 q4 q5 q6 qo wc wl sc sl cl ct rw co sk ss sq oo) H0.size))) (va_Qi (fun (r : Int32) (u : Int32 × Int32 × (Nat → Int32) × (Nat → Int32) × (Nat → Int64)) => match u with | (rw9, co9, cl9, ct9, oo9) => (((nI 40 < x ∨ nI 40 < y)) ∧ r = 1 ∧ rw9 = rw ∧ co9 = co ∧ cl9 = cl ∧ ct9 = ct ∧ oo9 = oo) ∨ ((¬ (nI 40 < x ∨ nI 40 < y) ∧ (x < 0 ∨ y < 0)) ∧ r = 2 ∧ rw9 = rw ∧ co9 = co ∧ cl9 = cl ∧ ct9 = ct ∧ oo9 = oo) ∨ (r = 0 ∧ ∃ (rr : Int32) (m : Nat) (n : Nat), (x = nI m ∧ m ≤ 40 ∧ y = nI n ∧ n ≤ 40 ∧ rr = nI (m * n)) ∧ rw9 = nI m ∧ co9 = nI n ∧ cl9 = fa cl 0 1600 ∧ ct9 = fa ct 0 m ∧ oo9 = vp_updL oo 0 rr.toInt64)) (fun (u : Int32 × Int32 × (Nat → Int32) × (Nat → Int32) × (Nat → Int64)) (t : State) => match u with | (rw9, co9, cl9, ct9, oo9) => va_P (dC, dI) vwCl (wXO cyI cyZ cyJ q0 q1 q2 q3 q4 q5 q6 qo wc wl sc sl cl9 ct9 rw9 co9 sk ss sq oo9) t.heap) (va_A (wXO cyI cyZ cyJ q0 q1 q2 q3 q4 q5 q6 qo wc wl sc sl cl ct rw co sk ss sq oo) H0.size)) 1 6 (va_A (wXO cyI cyZ cyJ q0 q1 q2 q3 q4 q5 q6 qo wc wl sc sl cl ct rw co sk ss sq oo) H0.size) := by
  refine va_MetW (hh := [(0, 10, 13, 47), (0, 10, 17, 13)]) (cc := cL_weave) (maxL := 5) (ret := (some .int)) (by decide) rfl ?_
  intro p e s m args below meth c s₁ B hml hv
  obtain ⟨rfl, rfl, hK, hz⟩ := hv
  have hx := B.exec
  have hb := B.bytes
  have hr := B.returns
  have hts := atoms_spec (ws := wsL_weave) B.pre
  have hown : s.vm.findClass RL = some m.cls := findClass_of_methodNamed B.named
  have hlocks := B.notSynchronized
  have htab := vx_table (x := yL_weave) B (hts _ List.mem_cons_self)
  have hD := hD0.self (sz := s.heap.size)
  generalize hAe : (va_A (wXO cyI cyZ cyJ q0 q1 q2 q3 q4 q5 q6 qo wc wl sc sl cl ct rw co sk ss sq oo) s.heap.size) = A at hD hz ⊢
  have hA : ∀ q : Nat, s.heap.size ≤ q → A q := fun q h => by rw [← hAe]; exact Or.inr h
  have hS : va_S A s.heap s.heap [] := va_S.rf
  have hl := lv_entry ([.ref q0, .int x, .int y, .ref qo]) (n := 5) (Nat.le_of_ble_eq_true rfl)
  rw [lg_entry_eq]
  generalize (lg_sl ([.ref q0, .int x, .int y, .ref qo]) ++ List.replicate (5 - (lg_sl ([.ref q0, .int x, .int y, .ref qo])).length) Slot.unset).toArray = ls at hl ⊢
  have hl : lv_has ls 5 [(0, .ref q0), (1, .int x), (2, .int y), (3, .ref qo)] := hl
  refine lv_aload_n hx hb dL_weave_0 rfl (lv_at hl 3 rfl) ?_
  refine lv_iconst (v := nI 0) hx hb dL_weave_1 (by decide) ?_
  refine lv_aload_n hx hb dL_weave_2 rfl (lv_at hl 0 rfl) ?_
  refine lv_iload_n hx hb dL_weave_3 rfl (lv_at hl 1 rfl) ?_
  refine lv_iload_n hx hb dL_weave_4 rfl (lv_at hl 2 rfl) ?_
  have hPc := hP.sub (ws' := wX cyI cyZ q0 q1 q2 q3 q4 q5 q6 wc wl sc sl cl ct rw co sk ss sq) [0, 1, 2, 3, 4, 5, 6] rfl
  have hDs := hD.sub (ws' := wX cyI cyZ q0 q1 q2 q3 q4 q5 q6 wc wl sc sl cl ct rw co sk ss sq) [0, 1, 2, 3, 4, 5, 6] (by decide) rfl
  have hKc := hK.sub (tys' := tyW cyI cyZ) [0, 1] rfl
  have hFc := va_free (wc := wX cyI cyZ q0 q1 q2 q3 q4 q5 q6 wc wl sc sl cl ct rw co sk ss sq) hD hS hA [0, 1, 2, 3, 4, 5, 6] rfl
  refine gx_callx (vx_runV (As := [.int x, .int y]) (rest := [.int (nI 0), .ref qo]) ⟨hx, hb, hml, hown, hts⟩ (k_X0_weave l hst dC dI cyI cyZ _ q0 q1 q2 q3 q4 q5 q6 wc wl sc sl cl ct rw co sk ss sq hPc (hDs.weaken (fun _ _ _ _ => trivial)) x y ) (cwV 2 hts gL_weave_X0_weave rfl rfl rfl (by decide +kernel) ⟨Nat.le_of_ble_eq_true rfl, Nat.le_of_ble_eq_true rfl⟩) (pZ_V hKc hz hS hFc (va_recv hK hP (ci := 0) (q0 := 0) rfl rfl)) rfl rfl hl.1 rfl (lv_room (Nat.le_of_ble_eq_true rfl)) dL_weave_5 ⟨Nat.le_of_ble_eq_true rfl, Nat.le_of_ble_eq_true rfl⟩) hS (fun q _ h => hFc q h) hFc (fun E ce q9 H1 locs1 hbad hz9 hk9 hS9 hce hcv hcl => ?_) (fun r9 u t H1 locs ht hvm hw hB hz1 hk1 hS => ?_)
  · skip
    have hP := hP.old hk9
    have hS := hS9
    rcases hbad with ⟨rfl, hC⟩ | ⟨rfl, hC⟩
    · skip
      refine vx_catch (own := RL) (name := "java/lang/UnsupportedOperationException") (E := "java/lang/UnsupportedOperationException") hown [] ⟨0, 10, 13, 47⟩ [⟨0, 10, 17, 13⟩] (by rw [htab]; rfl) (fun z h => by cases h) (by decide) (by decide) (hts (.classLink RL 47 "java/lang/UnsupportedOperationException") (by decide +kernel)) (va_Nw.use rfl hz.2.2.1.2.2.2.1) hce hcv hcl ?_
      refine lv_astore (lv' := [(4, .ref q9), (0, .ref q0), (1, .int x), (2, .int y), (3, .ref qo)]) hx hb dL_weave_13 hl (by decide) rfl (fun ls hl => ?_)
      refine lv_iconst (v := 1) hx hb dL_weave_15 (by decide) ?_
      refine W.widen (k := 1) (n := 6) (by decide) (by decide) ?_
      exact W.iret (v := 1) hx hb hr (fun t ht hW => ⟨⟨1, (rw, co, cl, ct, oo), rfl, Or.inl ⟨hC, rfl, rfl, rfl, rfl, rfl, rfl⟩, by show va_P (dC, dI) vwCl (wXO cyI cyZ cyJ q0 q1 q2 q3 q4 q5 q6 qo wc wl sc sl cl ct rw co sk ss sq oo) t.heap; rw [ht]; exact hP⟩, hS.F ht⟩) hS.2.2 dL_weave_16
    · skip
      refine vx_catch (own := RL) (name := "java/lang/IllegalArgumentException") (E := "java/lang/IllegalArgumentException") hown [⟨0, 10, 13, 47⟩] ⟨0, 10, 17, 13⟩ [] (by rw [htab]; rfl) (fun z h => by simp only [List.mem_cons, List.not_mem_nil, or_false] at h; rcases h with rfl <;> first | exact Or.inr ⟨by decide, "java/lang/UnsupportedOperationException", hts (.classLink RL 47 "java/lang/UnsupportedOperationException") (by decide +kernel), hz.2.2.1.2.2.2.2.2.2.2 _ _ (by decide)⟩) (by decide) (by decide) (hts (.classLink RL 13 "java/lang/IllegalArgumentException") (by decide +kernel)) (va_Nw.use rfl hz.2.2.1.1) hce hcv hcl ?_
      refine lv_astore (lv' := [(4, .ref q9), (0, .ref q0), (1, .int x), (2, .int y), (3, .ref qo)]) hx hb dL_weave_17 hl (by decide) rfl (fun ls hl => ?_)
      refine lv_iconst (v := 2) hx hb dL_weave_19 (by decide) ?_
      refine W.widen (k := 1) (n := 6) (by decide) (by decide) ?_
      exact W.iret (v := 2) hx hb hr (fun t ht hW => ⟨⟨2, (rw, co, cl, ct, oo), rfl, Or.inr (Or.inl ⟨hC, rfl, rfl, rfl, rfl, rfl, rfl⟩), by show va_P (dC, dI) vwCl (wXO cyI cyZ cyJ q0 q1 q2 q3 q4 q5 q6 qo wc wl sc sl cl ct rw co sk ss sq oo) t.heap; rw [ht]; exact hP⟩, hS.F ht⟩) hS.2.2 dL_weave_20
  · skip
    obtain ⟨m, n⟩ := u
    have hB : va_P (dC, dI) vwCl (wX cyI cyZ q0 q1 q2 q3 q4 q5 q6 wc wl sc sl (fa cl 0 1600) (fa ct 0 m) (nI m) (nI n) sk ss sq) t.heap := hB
    rw [ht] at hB
    obtain ⟨hP, hD⟩ := va_join (w1 := wX cyI cyZ q0 q1 q2 q3 q4 q5 q6 wc wl sc sl (fa cl 0 1600) (fa ct 0 m) (nI m) (nI n) sk ss sq) (wr := [(qo, .inl (cyJ, 1, .inr (.inl oo)))]) hP hD [0, 1, 2, 3, 4, 5, 6] [7] rfl rfl (by decide) (by decide) hk1 hFc hB (wX_D (hDs.self (sz := _)))
    have hP : va_P (dC, dI) vwCl (wXO cyI cyZ cyJ q0 q1 q2 q3 q4 q5 q6 qo wc wl sc sl (fa cl 0 1600) (fa ct 0 m) (nI m) (nI n) sk ss sq oo) H1 := hP.sub (ws' := wXO cyI cyZ cyJ q0 q1 q2 q3 q4 q5 q6 qo wc wl sc sl (fa cl 0 1600) (fa ct 0 m) (nI m) (nI n) sk ss sq oo) [1, 2, 3, 4, 5, 6, 7, 0] rfl
    have hD : va_D A (wXO cyI cyZ cyJ q0 q1 q2 q3 q4 q5 q6 qo wc wl sc sl (fa cl 0 1600) (fa ct 0 m) (nI m) (nI n) sk ss sq oo) := hD.sub (ws' := wXO cyI cyZ cyJ q0 q1 q2 q3 q4 q5 q6 qo wc wl sc sl (fa cl 0 1600) (fa ct 0 m) (nI m) (nI n) sk ss sq oo) [1, 2, 3, 4, 5, 6, 7, 0] (by decide) rfl
    clear hB
    generalize H1 = H at hP hS ⊢
    refine lv_i2l hx hb dL_weave_8 rfl ?_
    refine va_last hx hb hK hP hD hS 7 2 rfl rfl (vp_in_nI (by omega) (by omega)) dL_weave_9 (fun H locs hP hD hS => ?_)
    rw [nI_clamp (show 0 < 2 ^ 31 by omega)] at hP hD
    have hP : va_P (dC, dI) vwCl (wXO cyI cyZ cyJ q0 q1 q2 q3 q4 q5 q6 qo wc wl sc sl (fa cl 0 1600) (fa ct 0 m) (nI m) (nI n) sk ss sq (vp_updL oo 0 r9.toInt64)) H := hP
    have hD : va_D A (wXO cyI cyZ cyJ q0 q1 q2 q3 q4 q5 q6 qo wc wl sc sl (fa cl 0 1600) (fa ct 0 m) (nI m) (nI n) sk ss sq (vp_updL oo 0 r9.toInt64)) := hD
    refine lv_goto (tgt := 21) hx hb dL_weave_10 (by decide) ?_
    refine lv_iconst (v := 0) hx hb dL_weave_21 (by decide) ?_
    refine W.widen (k := 1) (n := 6) (by decide) (by decide) ?_
    exact W.iret (v := 0) hx hb hr (fun t ht hW => ⟨⟨0, (nI m, nI n, fa cl 0 1600, fa ct 0 m, vp_updL oo 0 r9.toInt64), rfl, Or.inr (Or.inr (⟨rfl, r9, m, n, hw, rfl, rfl, rfl, rfl, rfl⟩)), by show va_P (dC, dI) vwCl (wXO cyI cyZ cyJ q0 q1 q2 q3 q4 q5 q6 qo wc wl sc sl (fa cl 0 1600) (fa ct 0 m) (nI m) (nI n) sk ss sq (vp_updL oo 0 r9.toInt64)) t.heap; rw [ht]; exact hP⟩, hS.F ht⟩) hS.2.2 dL_weave_22
set_option maxHeartbeats 4000000 in
set_option maxRecDepth 100000 in
theorem k_L_pass (l : Launch) (hst : l.stackTraces = false) (dC : Nat → ClassId) (dI : Nat → Nat → Nat) (cyI cyZ cyJ : ClassId) (H0 : Heap) (q0 q1 q2 q3 q4 q5 q6 qo : Nat) (wc wl sc sl cl ct : Nat → Int32) (rw co sk ss sq : Int32) (oo : Nat → Int64) (hP : va_P (dC, dI) vwCl (wXO cyI cyZ cyJ q0 q1 q2 q3 q4 q5 q6 qo wc wl sc sl cl ct rw co sk ss sq oo) H0) (hD0 : va_D (fun _ => True) (wXO cyI cyZ cyJ q0 q1 q2 q3 q4 q5 q6 qo wc wl sc sl cl ct rw co sk ss sq oo)) (x : Int32) (y : Int32) (hrw : rw ≤ nI 40) (hco : co ≤ nI 40) : Met l yL_pass wsL_pass ({ frames := 8, cells := 1, slots := 6, locals := 139 }) (va_Pc [.ref q0, .int x, .int y, .ref qo] (pZ dC dI (tyO cyI cyZ cyJ) H0 (va_A (wXO cyI cyZ cyJ q0 q1 q2 q3 q4 q5 q6 qo wc wl sc sl cl ct rw co sk ss sq oo) H0.size))) (va_Qi (fun (r : Int32) (u : (Nat → Int32) × (Nat → Int32) × Int32 × Int32 × Int32 × (Nat → Int64)) => match u with | (wc9, cl9, sk9, ss9, sq9, oo9) => ((¬ (¬ y < 0 ∧ y ≤ 65535)) ∧ r = 1 ∧ wc9 = wc ∧ cl9 = cl ∧ sk9 = sk ∧ ss9 = ss ∧ sq9 = sq ∧ oo9 = oo) ∨ (((¬ y < 0 ∧ y ≤ 65535) ∧ rw = -1) ∧ r = 2 ∧ wc9 = wc ∧ cl9 = cl ∧ sk9 = sk ∧ ss9 = ss ∧ sq9 = sq ∧ oo9 = oo) ∨ (((¬ y < 0 ∧ y ≤ 65535) ∧ ¬ rw = -1 ∧ ¬ (¬ x < 0 ∧ x < rw)) ∧ r = 3 ∧ wc9 = wc ∧ cl9 = cl ∧ sk9 = sk ∧ ss9 = ss ∧ sq9 = sq ∧ oo9 = oo) ∨ (r = 0 ∧ ∃ (rr : Int32) (ro : Nat) (jj : Nat) (wc2 : Nat → Int32) (cl2 : Nat → Int32) (sk2 : Int32) (ss2 : Int32), (x = nI ro ∧ ro < 40 ∧ (¬ y < 0 ∧ y ≤ 65535) ∧ ¬ rw = -1 ∧ nI ro < rw ∧ prun wl ct ro y co.toNatClampNeg 0 wc cl 0 0 = (jj, wc2, cl2, sk2, ss2) ∧ rr = nI jj) ∧ wc9 = wc2 ∧ cl9 = cl2 ∧ sk9 = sk2 ∧ ss9 = ss2 ∧ sq9 = nI jj ∧ oo9 = vp_updL oo 0 rr.toInt64)) (fun (u : (Nat → Int32) × (Nat → Int32) × Int32 × Int32 × Int32 × (Nat → Int64)) (t : State) => match u with | (wc9, cl9, sk9, ss9, sq9, oo9) => va_P (dC, dI) vwCl (wXO cyI cyZ cyJ q0 q1 q2 q3 q4 q5 q6 qo wc9 wl sc sl cl9 ct rw co sk9 ss9 sq9 oo9) t.heap) (va_A (wXO cyI cyZ cyJ q0 q1 q2 q3 q4 q5 q6 qo wc wl sc sl cl ct rw co sk ss sq oo) H0.size)) 1 6 (va_A (wXO cyI cyZ cyJ q0 q1 q2 q3 q4 q5 q6 qo wc wl sc sl cl ct rw co sk ss sq oo) H0.size) := by
  refine va_MetW (hh := [(0, 10, 13, 13), (0, 10, 17, 19), (0, 10, 21, 34)]) (cc := cL_pass) (maxL := 5) (ret := (some .int)) (by decide) rfl ?_
  intro p e s m args below meth c s₁ B hml hv
  obtain ⟨rfl, rfl, hK, hz⟩ := hv
  have hx := B.exec
  have hb := B.bytes
  have hr := B.returns
  have hts := atoms_spec (ws := wsL_pass) B.pre
  have hown : s.vm.findClass RL = some m.cls := findClass_of_methodNamed B.named
  have hlocks := B.notSynchronized
  have htab := vx_table (x := yL_pass) B (hts _ List.mem_cons_self)
  have hD := hD0.self (sz := s.heap.size)
  generalize hAe : (va_A (wXO cyI cyZ cyJ q0 q1 q2 q3 q4 q5 q6 qo wc wl sc sl cl ct rw co sk ss sq oo) s.heap.size) = A at hD hz ⊢
  have hA : ∀ q : Nat, s.heap.size ≤ q → A q := fun q h => by rw [← hAe]; exact Or.inr h
  have hS : va_S A s.heap s.heap [] := va_S.rf
  have hl := lv_entry ([.ref q0, .int x, .int y, .ref qo]) (n := 5) (Nat.le_of_ble_eq_true rfl)
  rw [lg_entry_eq]
  generalize (lg_sl ([.ref q0, .int x, .int y, .ref qo]) ++ List.replicate (5 - (lg_sl ([.ref q0, .int x, .int y, .ref qo])).length) Slot.unset).toArray = ls at hl ⊢
  have hl : lv_has ls 5 [(0, .ref q0), (1, .int x), (2, .int y), (3, .ref qo)] := hl
  refine lv_aload_n hx hb dL_pass_0 rfl (lv_at hl 3 rfl) ?_
  refine lv_iconst (v := nI 0) hx hb dL_pass_1 (by decide) ?_
  refine lv_aload_n hx hb dL_pass_2 rfl (lv_at hl 0 rfl) ?_
  refine lv_iload_n hx hb dL_pass_3 rfl (lv_at hl 1 rfl) ?_
  refine lv_iload_n hx hb dL_pass_4 rfl (lv_at hl 2 rfl) ?_
  have hPc := hP.sub (ws' := wX cyI cyZ q0 q1 q2 q3 q4 q5 q6 wc wl sc sl cl ct rw co sk ss sq) [0, 1, 2, 3, 4, 5, 6] rfl
  have hDs := hD.sub (ws' := wX cyI cyZ q0 q1 q2 q3 q4 q5 q6 wc wl sc sl cl ct rw co sk ss sq) [0, 1, 2, 3, 4, 5, 6] (by decide) rfl
  have hKc := hK.sub (tys' := tyW cyI cyZ) [0, 1] rfl
  have hFc := va_free (wc := wX cyI cyZ q0 q1 q2 q3 q4 q5 q6 wc wl sc sl cl ct rw co sk ss sq) hD hS hA [0, 1, 2, 3, 4, 5, 6] rfl
  refine gx_callx (vx_runV (As := [.int x, .int y]) (rest := [.int (nI 0), .ref qo]) ⟨hx, hb, hml, hown, hts⟩ (k_X0_pass l hst dC dI cyI cyZ _ q0 q1 q2 q3 q4 q5 q6 wc wl sc sl cl ct rw co sk ss sq hPc (hDs.weaken (fun _ _ _ _ => trivial)) x y hrw hco) (cwV 2 hts gL_pass_X0_pass rfl rfl rfl (by decide +kernel) ⟨Nat.le_of_ble_eq_true rfl, Nat.le_of_ble_eq_true rfl⟩) (pZ_V hKc hz hS hFc (va_recv hK hP (ci := 0) (q0 := 0) rfl rfl)) rfl rfl hl.1 rfl (lv_room (Nat.le_of_ble_eq_true rfl)) dL_pass_5 ⟨Nat.le_of_ble_eq_true rfl, Nat.le_of_ble_eq_true rfl⟩) hS (fun q _ h => hFc q h) hFc (fun E ce q9 H1 locs1 hbad hz9 hk9 hS9 hce hcv hcl => ?_) (fun r9 u t H1 locs ht hvm hw hB hz1 hk1 hS => ?_)
  · skip
    have hP := hP.old hk9
    have hS := hS9
    rcases hbad with ⟨rfl, hC⟩ | ⟨rfl, hC⟩ | ⟨rfl, hC⟩
    · skip
      refine vx_catch (own := RL) (name := "java/lang/IllegalArgumentException") (E := "java/lang/IllegalArgumentException") hown [] ⟨0, 10, 13, 13⟩ [⟨0, 10, 17, 19⟩, ⟨0, 10, 21, 34⟩] (by rw [htab]; rfl) (fun z h => by cases h) (by decide) (by decide) (hts (.classLink RL 13 "java/lang/IllegalArgumentException") (by decide +kernel)) (va_Nw.use rfl hz.2.2.1.1) hce hcv hcl ?_
      refine lv_astore (lv' := [(4, .ref q9), (0, .ref q0), (1, .int x), (2, .int y), (3, .ref qo)]) hx hb dL_pass_13 hl (by decide) rfl (fun ls hl => ?_)
      refine lv_iconst (v := 1) hx hb dL_pass_15 (by decide) ?_
      refine W.widen (k := 1) (n := 6) (by decide) (by decide) ?_
      exact W.iret (v := 1) hx hb hr (fun t ht hW => ⟨⟨1, (wc, cl, sk, ss, sq, oo), rfl, Or.inl ⟨hC, rfl, rfl, rfl, rfl, rfl, rfl, rfl⟩, by show va_P (dC, dI) vwCl (wXO cyI cyZ cyJ q0 q1 q2 q3 q4 q5 q6 qo wc wl sc sl cl ct rw co sk ss sq oo) t.heap; rw [ht]; exact hP⟩, hS.F ht⟩) hS.2.2 dL_pass_16
    · skip
      refine vx_catch (own := RL) (name := "java/lang/IllegalStateException") (E := "java/lang/IllegalStateException") hown [⟨0, 10, 13, 13⟩] ⟨0, 10, 17, 19⟩ [⟨0, 10, 21, 34⟩] (by rw [htab]; rfl) (fun z h => by simp only [List.mem_cons, List.not_mem_nil, or_false] at h; rcases h with rfl <;> first | exact Or.inr ⟨by decide, "java/lang/IllegalArgumentException", hts (.classLink RL 13 "java/lang/IllegalArgumentException") (by decide +kernel), hz.2.2.1.2.2.2.2.2.2.2 _ _ (by decide)⟩) (by decide) (by decide) (hts (.classLink RL 19 "java/lang/IllegalStateException") (by decide +kernel)) (va_Nw.use rfl hz.2.2.1.2.1) hce hcv hcl ?_
      refine lv_astore (lv' := [(4, .ref q9), (0, .ref q0), (1, .int x), (2, .int y), (3, .ref qo)]) hx hb dL_pass_17 hl (by decide) rfl (fun ls hl => ?_)
      refine lv_iconst (v := 2) hx hb dL_pass_19 (by decide) ?_
      refine W.widen (k := 1) (n := 6) (by decide) (by decide) ?_
      exact W.iret (v := 2) hx hb hr (fun t ht hW => ⟨⟨2, (wc, cl, sk, ss, sq, oo), rfl, Or.inr (Or.inl ⟨hC, rfl, rfl, rfl, rfl, rfl, rfl, rfl⟩), by show va_P (dC, dI) vwCl (wXO cyI cyZ cyJ q0 q1 q2 q3 q4 q5 q6 qo wc wl sc sl cl ct rw co sk ss sq oo) t.heap; rw [ht]; exact hP⟩, hS.F ht⟩) hS.2.2 dL_pass_20
    · skip
      refine vx_catch (own := RL) (name := "java/lang/IndexOutOfBoundsException") (E := "java/lang/IndexOutOfBoundsException") hown [⟨0, 10, 13, 13⟩, ⟨0, 10, 17, 19⟩] ⟨0, 10, 21, 34⟩ [] (by rw [htab]; rfl) (fun z h => by simp only [List.mem_cons, List.not_mem_nil, or_false] at h; rcases h with rfl | rfl <;> first | exact Or.inr ⟨by decide, "java/lang/IllegalArgumentException", hts (.classLink RL 13 "java/lang/IllegalArgumentException") (by decide +kernel), hz.2.2.1.2.2.2.2.2.2.2 _ _ (by decide)⟩ | exact Or.inr ⟨by decide, "java/lang/IllegalStateException", hts (.classLink RL 19 "java/lang/IllegalStateException") (by decide +kernel), hz.2.2.1.2.2.2.2.2.2.2 _ _ (by decide)⟩) (by decide) (by decide) (hts (.classLink RL 34 "java/lang/IndexOutOfBoundsException") (by decide +kernel)) (va_Nw.use rfl hz.2.2.1.2.2.1) hce hcv hcl ?_
      refine lv_astore (lv' := [(4, .ref q9), (0, .ref q0), (1, .int x), (2, .int y), (3, .ref qo)]) hx hb dL_pass_21 hl (by decide) rfl (fun ls hl => ?_)
      refine lv_iconst (v := 3) hx hb dL_pass_23 (by decide) ?_
      refine W.widen (k := 1) (n := 6) (by decide) (by decide) ?_
      exact W.iret (v := 3) hx hb hr (fun t ht hW => ⟨⟨3, (wc, cl, sk, ss, sq, oo), rfl, Or.inr (Or.inr (Or.inl ⟨hC, rfl, rfl, rfl, rfl, rfl, rfl, rfl⟩)), by show va_P (dC, dI) vwCl (wXO cyI cyZ cyJ q0 q1 q2 q3 q4 q5 q6 qo wc wl sc sl cl ct rw co sk ss sq oo) t.heap; rw [ht]; exact hP⟩, hS.F ht⟩) hS.2.2 dL_pass_24
  · skip
    obtain ⟨ro, jj, wc2, cl2, sk2, ss2⟩ := u
    have hB : va_P (dC, dI) vwCl (wX cyI cyZ q0 q1 q2 q3 q4 q5 q6 wc2 wl sc sl cl2 ct rw co sk2 ss2 (nI jj)) t.heap := hB
    rw [ht] at hB
    obtain ⟨hP, hD⟩ := va_join (w1 := wX cyI cyZ q0 q1 q2 q3 q4 q5 q6 wc2 wl sc sl cl2 ct rw co sk2 ss2 (nI jj)) (wr := [(qo, .inl (cyJ, 1, .inr (.inl oo)))]) hP hD [0, 1, 2, 3, 4, 5, 6] [7] rfl rfl (by decide) (by decide) hk1 hFc hB (wX_D (hDs.self (sz := _)))
    have hP : va_P (dC, dI) vwCl (wXO cyI cyZ cyJ q0 q1 q2 q3 q4 q5 q6 qo wc2 wl sc sl cl2 ct rw co sk2 ss2 (nI jj) oo) H1 := hP.sub (ws' := wXO cyI cyZ cyJ q0 q1 q2 q3 q4 q5 q6 qo wc2 wl sc sl cl2 ct rw co sk2 ss2 (nI jj) oo) [1, 2, 3, 4, 5, 6, 7, 0] rfl
    have hD : va_D A (wXO cyI cyZ cyJ q0 q1 q2 q3 q4 q5 q6 qo wc2 wl sc sl cl2 ct rw co sk2 ss2 (nI jj) oo) := hD.sub (ws' := wXO cyI cyZ cyJ q0 q1 q2 q3 q4 q5 q6 qo wc2 wl sc sl cl2 ct rw co sk2 ss2 (nI jj) oo) [1, 2, 3, 4, 5, 6, 7, 0] (by decide) rfl
    clear hB
    generalize H1 = H at hP hS ⊢
    refine lv_i2l hx hb dL_pass_8 rfl ?_
    refine va_last hx hb hK hP hD hS 7 2 rfl rfl (vp_in_nI (by omega) (by omega)) dL_pass_9 (fun H locs hP hD hS => ?_)
    rw [nI_clamp (show 0 < 2 ^ 31 by omega)] at hP hD
    have hP : va_P (dC, dI) vwCl (wXO cyI cyZ cyJ q0 q1 q2 q3 q4 q5 q6 qo wc2 wl sc sl cl2 ct rw co sk2 ss2 (nI jj) (vp_updL oo 0 r9.toInt64)) H := hP
    have hD : va_D A (wXO cyI cyZ cyJ q0 q1 q2 q3 q4 q5 q6 qo wc2 wl sc sl cl2 ct rw co sk2 ss2 (nI jj) (vp_updL oo 0 r9.toInt64)) := hD
    refine lv_goto (tgt := 25) hx hb dL_pass_10 (by decide) ?_
    refine lv_iconst (v := 0) hx hb dL_pass_25 (by decide) ?_
    refine W.widen (k := 1) (n := 6) (by decide) (by decide) ?_
    exact W.iret (v := 0) hx hb hr (fun t ht hW => ⟨⟨0, (wc2, cl2, sk2, ss2, nI jj, vp_updL oo 0 r9.toInt64), rfl, Or.inr (Or.inr (Or.inr (⟨rfl, r9, ro, jj, wc2, cl2, sk2, ss2, hw, rfl, rfl, rfl, rfl, rfl, rfl⟩))), by show va_P (dC, dI) vwCl (wXO cyI cyZ cyJ q0 q1 q2 q3 q4 q5 q6 qo wc2 wl sc sl cl2 ct rw co sk2 ss2 (nI jj) (vp_updL oo 0 r9.toInt64)) t.heap; rw [ht]; exact hP⟩, hS.F ht⟩) hS.2.2 dL_pass_26
set_option maxHeartbeats 4000000 in
set_option maxRecDepth 100000 in
theorem k_L_stop (l : Launch) (hst : l.stackTraces = false) (dC : Nat → ClassId) (dI : Nat → Nat → Nat) (cyI cyZ cyJ : ClassId) (H0 : Heap) (q0 q1 q2 q3 q4 q5 q6 qo : Nat) (wc wl sc sl cl ct : Nat → Int32) (rw co sk ss sq : Int32) (oo : Nat → Int64) (hP : va_P (dC, dI) vwCl (wXO cyI cyZ cyJ q0 q1 q2 q3 q4 q5 q6 qo wc wl sc sl cl ct rw co sk ss sq oo) H0) (hD0 : va_D (fun _ => True) (wXO cyI cyZ cyJ q0 q1 q2 q3 q4 q5 q6 qo wc wl sc sl cl ct rw co sk ss sq oo)) (x : Int32)  : Met l yL_stop wsL_stop ({ frames := 7, cells := 1, slots := 6, locals := 111 }) (va_Pc [.ref q0, .int x, .ref qo] (pZ dC dI (tyO cyI cyZ cyJ) H0 (va_A (wXO cyI cyZ cyJ q0 q1 q2 q3 q4 q5 q6 qo wc wl sc sl cl ct rw co sk ss sq oo) H0.size))) (va_Qi (fun (r : Int32) (u : (Nat → Int64)) => match u with | oo9 => (((x.toInt < 0 ∨ 2 < x.toInt)) ∧ r = 1 ∧ oo9 = oo) ∨ (r = 0 ∧ ∃ (rr : Int32) , ((x = 0 ∧ rr = sk) ∨ (x = 1 ∧ rr = ss) ∨ (x = 2 ∧ rr = sq)) ∧ oo9 = vp_updL oo 0 rr.toInt64)) (fun (u : (Nat → Int64)) (t : State) => match u with | oo9 => va_P (dC, dI) vwCl (wXO cyI cyZ cyJ q0 q1 q2 q3 q4 q5 q6 qo wc wl sc sl cl ct rw co sk ss sq oo9) t.heap) (va_A (wXO cyI cyZ cyJ q0 q1 q2 q3 q4 q5 q6 qo wc wl sc sl cl ct rw co sk ss sq oo) H0.size)) 1 6 (va_A (wXO cyI cyZ cyJ q0 q1 q2 q3 q4 q5 q6 qo wc wl sc sl cl ct rw co sk ss sq oo) H0.size) := by
  refine va_MetW (hh := [(0, 9, 12, 13)]) (cc := cL_stop) (maxL := 4) (ret := (some .int)) (by decide) rfl ?_
  intro p e s m args below meth c s₁ B hml hv
  obtain ⟨rfl, rfl, hK, hz⟩ := hv
  have hx := B.exec
  have hb := B.bytes
  have hr := B.returns
  have hts := atoms_spec (ws := wsL_stop) B.pre
  have hown : s.vm.findClass RL = some m.cls := findClass_of_methodNamed B.named
  have hlocks := B.notSynchronized
  have htab := vx_table (x := yL_stop) B (hts _ List.mem_cons_self)
  have hD := hD0.self (sz := s.heap.size)
  generalize hAe : (va_A (wXO cyI cyZ cyJ q0 q1 q2 q3 q4 q5 q6 qo wc wl sc sl cl ct rw co sk ss sq oo) s.heap.size) = A at hD hz ⊢
  have hA : ∀ q : Nat, s.heap.size ≤ q → A q := fun q h => by rw [← hAe]; exact Or.inr h
  have hS : va_S A s.heap s.heap [] := va_S.rf
  have hl := lv_entry ([.ref q0, .int x, .ref qo]) (n := 4) (Nat.le_of_ble_eq_true rfl)
  rw [lg_entry_eq]
  generalize (lg_sl ([.ref q0, .int x, .ref qo]) ++ List.replicate (4 - (lg_sl ([.ref q0, .int x, .ref qo])).length) Slot.unset).toArray = ls at hl ⊢
  have hl : lv_has ls 4 [(0, .ref q0), (1, .int x), (2, .ref qo)] := hl
  refine lv_aload_n hx hb dL_stop_0 rfl (lv_at hl 2 rfl) ?_
  refine lv_iconst (v := nI 0) hx hb dL_stop_1 (by decide) ?_
  refine lv_aload_n hx hb dL_stop_2 rfl (lv_at hl 0 rfl) ?_
  refine lv_iload_n hx hb dL_stop_3 rfl (lv_at hl 1 rfl) ?_
  have hPc := hP.sub (ws' := wX cyI cyZ q0 q1 q2 q3 q4 q5 q6 wc wl sc sl cl ct rw co sk ss sq) [0, 1, 2, 3, 4, 5, 6] rfl
  have hDs := hD.sub (ws' := wX cyI cyZ q0 q1 q2 q3 q4 q5 q6 wc wl sc sl cl ct rw co sk ss sq) [0, 1, 2, 3, 4, 5, 6] (by decide) rfl
  have hKc := hK.sub (tys' := tyW cyI cyZ) [0, 1] rfl
  have hFc := va_free (wc := wX cyI cyZ q0 q1 q2 q3 q4 q5 q6 wc wl sc sl cl ct rw co sk ss sq) hD hS hA [0, 1, 2, 3, 4, 5, 6] rfl
  refine gx_callx (vx_runV (As := [.int x]) (rest := [.int (nI 0), .ref qo]) ⟨hx, hb, hml, hown, hts⟩ (k_X0_stop l hst dC dI cyI cyZ _ q0 q1 q2 q3 q4 q5 q6 wc wl sc sl cl ct rw co sk ss sq hPc (hDs.weaken (fun _ _ _ _ => trivial)) x ) (cwV 1 hts gL_stop_X0_stop rfl rfl rfl (by decide +kernel) ⟨Nat.le_of_ble_eq_true rfl, Nat.le_of_ble_eq_true rfl⟩) (pZ_V hKc hz hS hFc (va_recv hK hP (ci := 0) (q0 := 0) rfl rfl)) rfl rfl hl.1 rfl (lv_room (Nat.le_of_ble_eq_true rfl)) dL_stop_4 ⟨Nat.le_of_ble_eq_true rfl, Nat.le_of_ble_eq_true rfl⟩) hS (fun q _ h => hFc q h) hFc (fun E ce q9 H1 locs1 hbad hz9 hk9 hS9 hce hcv hcl => ?_) (fun r9 u t H1 locs ht hvm hw hB hz1 hk1 hS => ?_)
  · skip
    have hP := hP.old hk9
    have hS := hS9
    obtain ⟨rfl, hC⟩ := hbad
    · skip
      refine vx_catch (own := RL) (name := "java/lang/IllegalArgumentException") (E := "java/lang/IllegalArgumentException") hown [] ⟨0, 9, 12, 13⟩ [] (by rw [htab]; rfl) (fun z h => by cases h) (by decide) (by decide) (hts (.classLink RL 13 "java/lang/IllegalArgumentException") (by decide +kernel)) (va_Nw.use rfl hz.2.2.1.1) hce hcv hcl ?_
      refine lv_astore_n (lv' := [(3, .ref q9), (0, .ref q0), (1, .int x), (2, .ref qo)]) hx hb dL_stop_12 rfl hl (by decide) rfl (fun ls hl => ?_)
      refine lv_iconst (v := 1) hx hb dL_stop_13 (by decide) ?_
      refine W.widen (k := 1) (n := 6) (by decide) (by decide) ?_
      exact W.iret (v := 1) hx hb hr (fun t ht hW => ⟨⟨1, oo, rfl, Or.inl ⟨hC, rfl, rfl⟩, by show va_P (dC, dI) vwCl (wXO cyI cyZ cyJ q0 q1 q2 q3 q4 q5 q6 qo wc wl sc sl cl ct rw co sk ss sq oo) t.heap; rw [ht]; exact hP⟩, hS.F ht⟩) hS.2.2 dL_stop_14
  · skip
    have hB : va_P (dC, dI) vwCl (wX cyI cyZ q0 q1 q2 q3 q4 q5 q6 wc wl sc sl cl ct rw co sk ss sq) t.heap := hB
    rw [ht] at hB
    obtain ⟨hP, hD⟩ := va_join (w1 := wX cyI cyZ q0 q1 q2 q3 q4 q5 q6 wc wl sc sl cl ct rw co sk ss sq) (wr := [(qo, .inl (cyJ, 1, .inr (.inl oo)))]) hP hD [0, 1, 2, 3, 4, 5, 6] [7] rfl rfl (by decide) (by decide) hk1 hFc hB (wX_D (hDs.self (sz := _)))
    have hP : va_P (dC, dI) vwCl (wXO cyI cyZ cyJ q0 q1 q2 q3 q4 q5 q6 qo wc wl sc sl cl ct rw co sk ss sq oo) H1 := hP.sub (ws' := wXO cyI cyZ cyJ q0 q1 q2 q3 q4 q5 q6 qo wc wl sc sl cl ct rw co sk ss sq oo) [1, 2, 3, 4, 5, 6, 7, 0] rfl
    have hD : va_D A (wXO cyI cyZ cyJ q0 q1 q2 q3 q4 q5 q6 qo wc wl sc sl cl ct rw co sk ss sq oo) := hD.sub (ws' := wXO cyI cyZ cyJ q0 q1 q2 q3 q4 q5 q6 qo wc wl sc sl cl ct rw co sk ss sq oo) [1, 2, 3, 4, 5, 6, 7, 0] (by decide) rfl
    clear hB
    generalize H1 = H at hP hS ⊢
    refine lv_i2l hx hb dL_stop_7 rfl ?_
    refine va_last hx hb hK hP hD hS 7 2 rfl rfl (vp_in_nI (by omega) (by omega)) dL_stop_8 (fun H locs hP hD hS => ?_)
    rw [nI_clamp (show 0 < 2 ^ 31 by omega)] at hP hD
    have hP : va_P (dC, dI) vwCl (wXO cyI cyZ cyJ q0 q1 q2 q3 q4 q5 q6 qo wc wl sc sl cl ct rw co sk ss sq (vp_updL oo 0 r9.toInt64)) H := hP
    have hD : va_D A (wXO cyI cyZ cyJ q0 q1 q2 q3 q4 q5 q6 qo wc wl sc sl cl ct rw co sk ss sq (vp_updL oo 0 r9.toInt64)) := hD
    refine lv_goto (tgt := 15) hx hb dL_stop_9 (by decide) ?_
    refine lv_iconst (v := 0) hx hb dL_stop_15 (by decide) ?_
    refine W.widen (k := 1) (n := 6) (by decide) (by decide) ?_
    exact W.iret (v := 0) hx hb hr (fun t ht hW => ⟨⟨0, vp_updL oo 0 r9.toInt64, rfl, Or.inr (⟨rfl, r9, hw, rfl⟩), by show va_P (dC, dI) vwCl (wXO cyI cyZ cyJ q0 q1 q2 q3 q4 q5 q6 qo wc wl sc sl cl ct rw co sk ss sq (vp_updL oo 0 r9.toInt64)) t.heap; rw [ht]; exact hP⟩, hS.F ht⟩) hS.2.2 dL_stop_16
set_option maxHeartbeats 4000000 in
set_option maxRecDepth 100000 in
theorem k_L_cut (l : Launch) (hst : l.stackTraces = false) (dC : Nat → ClassId) (dI : Nat → Nat → Nat) (cyI cyZ cyJ : ClassId) (H0 : Heap) (q0 q1 q2 q3 q4 q5 q6 qo : Nat) (wc wl sc sl cl ct : Nat → Int32) (rw co sk ss sq : Int32) (oo : Nat → Int64) (hP : va_P (dC, dI) vwCl (wXO cyI cyZ cyJ q0 q1 q2 q3 q4 q5 q6 qo wc wl sc sl cl ct rw co sk ss sq oo) H0) (hD0 : va_D (fun _ => True) (wXO cyI cyZ cyJ q0 q1 q2 q3 q4 q5 q6 qo wc wl sc sl cl ct rw co sk ss sq oo)) (x : Int32) (hrw : rw ≤ nI 40) : Met l yL_cut wsL_cut ({ frames := 8, cells := 1, slots := 6, locals := 132 }) (va_Pc [.ref q0, .int x, .ref qo] (pZ dC dI (tyO cyI cyZ cyJ) H0 (va_A (wXO cyI cyZ cyJ q0 q1 q2 q3 q4 q5 q6 qo wc wl sc sl cl ct rw co sk ss sq oo) H0.size))) (va_Qi (fun (r : Int32) (u : (Nat → Int32) × (Nat → Int64)) => match u with | (ct9, oo9) => ((lkR rw ct x = 1) ∧ r = 1 ∧ ct9 = ct ∧ oo9 = oo) ∨ ((lkR rw ct x = 2) ∧ r = 2 ∧ ct9 = ct ∧ oo9 = oo) ∨ (r = 0 ∧ ∃ (rr : Int32) (ro : Nat), (x = nI ro ∧ ro < 40 ∧ lkR rw ct x = 0 ∧ rr = co) ∧ ct9 = upd ct ro 1 ∧ oo9 = vp_updL oo 0 rr.toInt64)) (fun (u : (Nat → Int32) × (Nat → Int64)) (t : State) => match u with | (ct9, oo9) => va_P (dC, dI) vwCl (wXO cyI cyZ cyJ q0 q1 q2 q3 q4 q5 q6 qo wc wl sc sl cl ct9 rw co sk ss sq oo9) t.heap) (va_A (wXO cyI cyZ cyJ q0 q1 q2 q3 q4 q5 q6 qo wc wl sc sl cl ct rw co sk ss sq oo) H0.size)) 1 6 (va_A (wXO cyI cyZ cyJ q0 q1 q2 q3 q4 q5 q6 qo wc wl sc sl cl ct rw co sk ss sq oo) H0.size) := by
  refine va_MetW (hh := [(0, 9, 12, 19), (0, 9, 15, 34)]) (cc := cL_cut) (maxL := 4) (ret := (some .int)) (by decide) rfl ?_
  intro p e s m args below meth c s₁ B hml hv
  obtain ⟨rfl, rfl, hK, hz⟩ := hv
  have hx := B.exec
  have hb := B.bytes
  have hr := B.returns
  have hts := atoms_spec (ws := wsL_cut) B.pre
  have hown : s.vm.findClass RL = some m.cls := findClass_of_methodNamed B.named
  have hlocks := B.notSynchronized
  have htab := vx_table (x := yL_cut) B (hts _ List.mem_cons_self)
  have hD := hD0.self (sz := s.heap.size)
  generalize hAe : (va_A (wXO cyI cyZ cyJ q0 q1 q2 q3 q4 q5 q6 qo wc wl sc sl cl ct rw co sk ss sq oo) s.heap.size) = A at hD hz ⊢
  have hA : ∀ q : Nat, s.heap.size ≤ q → A q := fun q h => by rw [← hAe]; exact Or.inr h
  have hS : va_S A s.heap s.heap [] := va_S.rf
  have hl := lv_entry ([.ref q0, .int x, .ref qo]) (n := 4) (Nat.le_of_ble_eq_true rfl)
  rw [lg_entry_eq]
  generalize (lg_sl ([.ref q0, .int x, .ref qo]) ++ List.replicate (4 - (lg_sl ([.ref q0, .int x, .ref qo])).length) Slot.unset).toArray = ls at hl ⊢
  have hl : lv_has ls 4 [(0, .ref q0), (1, .int x), (2, .ref qo)] := hl
  refine lv_aload_n hx hb dL_cut_0 rfl (lv_at hl 2 rfl) ?_
  refine lv_iconst (v := nI 0) hx hb dL_cut_1 (by decide) ?_
  refine lv_aload_n hx hb dL_cut_2 rfl (lv_at hl 0 rfl) ?_
  refine lv_iload_n hx hb dL_cut_3 rfl (lv_at hl 1 rfl) ?_
  have hPc := hP.sub (ws' := wX cyI cyZ q0 q1 q2 q3 q4 q5 q6 wc wl sc sl cl ct rw co sk ss sq) [0, 1, 2, 3, 4, 5, 6] rfl
  have hDs := hD.sub (ws' := wX cyI cyZ q0 q1 q2 q3 q4 q5 q6 wc wl sc sl cl ct rw co sk ss sq) [0, 1, 2, 3, 4, 5, 6] (by decide) rfl
  have hKc := hK.sub (tys' := tyW cyI cyZ) [0, 1] rfl
  have hFc := va_free (wc := wX cyI cyZ q0 q1 q2 q3 q4 q5 q6 wc wl sc sl cl ct rw co sk ss sq) hD hS hA [0, 1, 2, 3, 4, 5, 6] rfl
  refine gx_callx (vx_runV (As := [.int x]) (rest := [.int (nI 0), .ref qo]) ⟨hx, hb, hml, hown, hts⟩ (k_X0_cut l hst dC dI cyI cyZ _ q0 q1 q2 q3 q4 q5 q6 wc wl sc sl cl ct rw co sk ss sq hPc (hDs.weaken (fun _ _ _ _ => trivial)) x hrw) (cwV 1 hts gL_cut_X0_cut rfl rfl rfl (by decide +kernel) ⟨Nat.le_of_ble_eq_true rfl, Nat.le_of_ble_eq_true rfl⟩) (pZ_V hKc hz hS hFc (va_recv hK hP (ci := 0) (q0 := 0) rfl rfl)) rfl rfl hl.1 rfl (lv_room (Nat.le_of_ble_eq_true rfl)) dL_cut_4 ⟨Nat.le_of_ble_eq_true rfl, Nat.le_of_ble_eq_true rfl⟩) hS (fun q _ h => hFc q h) hFc (fun E ce q9 H1 locs1 hbad hz9 hk9 hS9 hce hcv hcl => ?_) (fun r9 u t H1 locs ht hvm hw hB hz1 hk1 hS => ?_)
  · skip
    have hP := hP.old hk9
    have hS := hS9
    rcases hbad with ⟨rfl, hC⟩ | ⟨rfl, hC⟩
    · skip
      refine vx_catch (own := RL) (name := "java/lang/IllegalStateException") (E := "java/lang/IllegalStateException") hown [] ⟨0, 9, 12, 19⟩ [⟨0, 9, 15, 34⟩] (by rw [htab]; rfl) (fun z h => by cases h) (by decide) (by decide) (hts (.classLink RL 19 "java/lang/IllegalStateException") (by decide +kernel)) (va_Nw.use rfl hz.2.2.1.2.1) hce hcv hcl ?_
      refine lv_astore_n (lv' := [(3, .ref q9), (0, .ref q0), (1, .int x), (2, .ref qo)]) hx hb dL_cut_12 rfl hl (by decide) rfl (fun ls hl => ?_)
      refine lv_iconst (v := 1) hx hb dL_cut_13 (by decide) ?_
      refine W.widen (k := 1) (n := 6) (by decide) (by decide) ?_
      exact W.iret (v := 1) hx hb hr (fun t ht hW => ⟨⟨1, (ct, oo), rfl, Or.inl ⟨hC, rfl, rfl, rfl⟩, by show va_P (dC, dI) vwCl (wXO cyI cyZ cyJ q0 q1 q2 q3 q4 q5 q6 qo wc wl sc sl cl ct rw co sk ss sq oo) t.heap; rw [ht]; exact hP⟩, hS.F ht⟩) hS.2.2 dL_cut_14
    · skip
      refine vx_catch (own := RL) (name := "java/lang/IndexOutOfBoundsException") (E := "java/lang/IndexOutOfBoundsException") hown [⟨0, 9, 12, 19⟩] ⟨0, 9, 15, 34⟩ [] (by rw [htab]; rfl) (fun z h => by simp only [List.mem_cons, List.not_mem_nil, or_false] at h; rcases h with rfl <;> first | exact Or.inr ⟨by decide, "java/lang/IllegalStateException", hts (.classLink RL 19 "java/lang/IllegalStateException") (by decide +kernel), hz.2.2.1.2.2.2.2.2.2.2 _ _ (by decide)⟩) (by decide) (by decide) (hts (.classLink RL 34 "java/lang/IndexOutOfBoundsException") (by decide +kernel)) (va_Nw.use rfl hz.2.2.1.2.2.1) hce hcv hcl ?_
      refine lv_astore_n (lv' := [(3, .ref q9), (0, .ref q0), (1, .int x), (2, .ref qo)]) hx hb dL_cut_15 rfl hl (by decide) rfl (fun ls hl => ?_)
      refine lv_iconst (v := 2) hx hb dL_cut_16 (by decide) ?_
      refine W.widen (k := 1) (n := 6) (by decide) (by decide) ?_
      exact W.iret (v := 2) hx hb hr (fun t ht hW => ⟨⟨2, (ct, oo), rfl, Or.inr (Or.inl ⟨hC, rfl, rfl, rfl⟩), by show va_P (dC, dI) vwCl (wXO cyI cyZ cyJ q0 q1 q2 q3 q4 q5 q6 qo wc wl sc sl cl ct rw co sk ss sq oo) t.heap; rw [ht]; exact hP⟩, hS.F ht⟩) hS.2.2 dL_cut_17
  · skip
    obtain ⟨ro, rfl⟩ : ∃ z, z = u := ⟨_, rfl⟩
    have hB : va_P (dC, dI) vwCl (wX cyI cyZ q0 q1 q2 q3 q4 q5 q6 wc wl sc sl cl (upd ct ro 1) rw co sk ss sq) t.heap := hB
    rw [ht] at hB
    obtain ⟨hP, hD⟩ := va_join (w1 := wX cyI cyZ q0 q1 q2 q3 q4 q5 q6 wc wl sc sl cl (upd ct ro 1) rw co sk ss sq) (wr := [(qo, .inl (cyJ, 1, .inr (.inl oo)))]) hP hD [0, 1, 2, 3, 4, 5, 6] [7] rfl rfl (by decide) (by decide) hk1 hFc hB (wX_D (hDs.self (sz := _)))
    have hP : va_P (dC, dI) vwCl (wXO cyI cyZ cyJ q0 q1 q2 q3 q4 q5 q6 qo wc wl sc sl cl (upd ct ro 1) rw co sk ss sq oo) H1 := hP.sub (ws' := wXO cyI cyZ cyJ q0 q1 q2 q3 q4 q5 q6 qo wc wl sc sl cl (upd ct ro 1) rw co sk ss sq oo) [1, 2, 3, 4, 5, 6, 7, 0] rfl
    have hD : va_D A (wXO cyI cyZ cyJ q0 q1 q2 q3 q4 q5 q6 qo wc wl sc sl cl (upd ct ro 1) rw co sk ss sq oo) := hD.sub (ws' := wXO cyI cyZ cyJ q0 q1 q2 q3 q4 q5 q6 qo wc wl sc sl cl (upd ct ro 1) rw co sk ss sq oo) [1, 2, 3, 4, 5, 6, 7, 0] (by decide) rfl
    clear hB
    generalize H1 = H at hP hS ⊢
    refine lv_i2l hx hb dL_cut_7 rfl ?_
    refine va_last hx hb hK hP hD hS 7 2 rfl rfl (vp_in_nI (by omega) (by omega)) dL_cut_8 (fun H locs hP hD hS => ?_)
    rw [nI_clamp (show 0 < 2 ^ 31 by omega)] at hP hD
    have hP : va_P (dC, dI) vwCl (wXO cyI cyZ cyJ q0 q1 q2 q3 q4 q5 q6 qo wc wl sc sl cl (upd ct ro 1) rw co sk ss sq (vp_updL oo 0 r9.toInt64)) H := hP
    have hD : va_D A (wXO cyI cyZ cyJ q0 q1 q2 q3 q4 q5 q6 qo wc wl sc sl cl (upd ct ro 1) rw co sk ss sq (vp_updL oo 0 r9.toInt64)) := hD
    refine lv_goto (tgt := 18) hx hb dL_cut_9 (by decide) ?_
    refine lv_iconst (v := 0) hx hb dL_cut_18 (by decide) ?_
    refine W.widen (k := 1) (n := 6) (by decide) (by decide) ?_
    exact W.iret (v := 0) hx hb hr (fun t ht hW => ⟨⟨0, (upd ct ro 1, vp_updL oo 0 r9.toInt64), rfl, Or.inr (Or.inr (⟨rfl, r9, ro, hw, rfl, rfl⟩)), by show va_P (dC, dI) vwCl (wXO cyI cyZ cyJ q0 q1 q2 q3 q4 q5 q6 qo wc wl sc sl cl (upd ct ro 1) rw co sk ss sq (vp_updL oo 0 r9.toInt64)) t.heap; rw [ht]; exact hP⟩, hS.F ht⟩) hS.2.2 dL_cut_19
set_option maxHeartbeats 4000000 in
set_option maxRecDepth 100000 in
theorem k_L_cell (l : Launch) (hst : l.stackTraces = false) (dC : Nat → ClassId) (dI : Nat → Nat → Nat) (cyI cyZ cyJ : ClassId) (H0 : Heap) (q0 q1 q2 q3 q4 q5 q6 qo : Nat) (wc wl sc sl cl ct : Nat → Int32) (rw co sk ss sq : Int32) (oo : Nat → Int64) (hP : va_P (dC, dI) vwCl (wXO cyI cyZ cyJ q0 q1 q2 q3 q4 q5 q6 qo wc wl sc sl cl ct rw co sk ss sq oo) H0) (hD0 : va_D (fun _ => True) (wXO cyI cyZ cyJ q0 q1 q2 q3 q4 q5 q6 qo wc wl sc sl cl ct rw co sk ss sq oo)) (x : Int32) (y : Int32) (hrw : rw ≤ nI 40) (hco : co ≤ nI 40) : Met l yL_cell wsL_cell ({ frames := 9, cells := 1, slots := 6, locals := 155 }) (va_Pc [.ref q0, .int x, .int y, .ref qo] (pZ dC dI (tyO cyI cyZ cyJ) H0 (va_A (wXO cyI cyZ cyJ q0 q1 q2 q3 q4 q5 q6 qo wc wl sc sl cl ct rw co sk ss sq oo) H0.size))) (va_Qi (fun (r : Int32) (u : (Nat → Int64)) => match u with | oo9 => ((lkC rw co ct x y = 1) ∧ r = 1 ∧ oo9 = oo) ∨ ((lkC rw co ct x y = 2) ∧ r = 2 ∧ oo9 = oo) ∨ (r = 0 ∧ ∃ (rr : Int32) (ro : Nat) (j : Nat), (x = nI ro ∧ ro < 40 ∧ y = nI j ∧ j < 40 ∧ lkC rw co ct x y = 0 ∧ rr = cl (ro * 40 + j)) ∧ oo9 = vp_updL oo 0 rr.toInt64)) (fun (u : (Nat → Int64)) (t : State) => match u with | oo9 => va_P (dC, dI) vwCl (wXO cyI cyZ cyJ q0 q1 q2 q3 q4 q5 q6 qo wc wl sc sl cl ct rw co sk ss sq oo9) t.heap) (va_A (wXO cyI cyZ cyJ q0 q1 q2 q3 q4 q5 q6 qo wc wl sc sl cl ct rw co sk ss sq oo) H0.size)) 1 6 (va_A (wXO cyI cyZ cyJ q0 q1 q2 q3 q4 q5 q6 qo wc wl sc sl cl ct rw co sk ss sq oo) H0.size) := by
  refine va_MetW (hh := [(0, 10, 13, 19), (0, 10, 17, 34)]) (cc := cL_cell) (maxL := 5) (ret := (some .int)) (by decide) rfl ?_
  intro p e s m args below meth c s₁ B hml hv
  obtain ⟨rfl, rfl, hK, hz⟩ := hv
  have hx := B.exec
  have hb := B.bytes
  have hr := B.returns
  have hts := atoms_spec (ws := wsL_cell) B.pre
  have hown : s.vm.findClass RL = some m.cls := findClass_of_methodNamed B.named
  have hlocks := B.notSynchronized
  have htab := vx_table (x := yL_cell) B (hts _ List.mem_cons_self)
  have hD := hD0.self (sz := s.heap.size)
  generalize hAe : (va_A (wXO cyI cyZ cyJ q0 q1 q2 q3 q4 q5 q6 qo wc wl sc sl cl ct rw co sk ss sq oo) s.heap.size) = A at hD hz ⊢
  have hA : ∀ q : Nat, s.heap.size ≤ q → A q := fun q h => by rw [← hAe]; exact Or.inr h
  have hS : va_S A s.heap s.heap [] := va_S.rf
  have hl := lv_entry ([.ref q0, .int x, .int y, .ref qo]) (n := 5) (Nat.le_of_ble_eq_true rfl)
  rw [lg_entry_eq]
  generalize (lg_sl ([.ref q0, .int x, .int y, .ref qo]) ++ List.replicate (5 - (lg_sl ([.ref q0, .int x, .int y, .ref qo])).length) Slot.unset).toArray = ls at hl ⊢
  have hl : lv_has ls 5 [(0, .ref q0), (1, .int x), (2, .int y), (3, .ref qo)] := hl
  refine lv_aload_n hx hb dL_cell_0 rfl (lv_at hl 3 rfl) ?_
  refine lv_iconst (v := nI 0) hx hb dL_cell_1 (by decide) ?_
  refine lv_aload_n hx hb dL_cell_2 rfl (lv_at hl 0 rfl) ?_
  refine lv_iload_n hx hb dL_cell_3 rfl (lv_at hl 1 rfl) ?_
  refine lv_iload_n hx hb dL_cell_4 rfl (lv_at hl 2 rfl) ?_
  have hPc := hP.sub (ws' := wX cyI cyZ q0 q1 q2 q3 q4 q5 q6 wc wl sc sl cl ct rw co sk ss sq) [0, 1, 2, 3, 4, 5, 6] rfl
  have hDs := hD.sub (ws' := wX cyI cyZ q0 q1 q2 q3 q4 q5 q6 wc wl sc sl cl ct rw co sk ss sq) [0, 1, 2, 3, 4, 5, 6] (by decide) rfl
  have hKc := hK.sub (tys' := tyW cyI cyZ) [0, 1] rfl
  have hFc := va_free (wc := wX cyI cyZ q0 q1 q2 q3 q4 q5 q6 wc wl sc sl cl ct rw co sk ss sq) hD hS hA [0, 1, 2, 3, 4, 5, 6] rfl
  refine gx_callx (vx_runV (As := [.int x, .int y]) (rest := [.int (nI 0), .ref qo]) ⟨hx, hb, hml, hown, hts⟩ (k_X0_cell l hst dC dI cyI cyZ _ q0 q1 q2 q3 q4 q5 q6 wc wl sc sl cl ct rw co sk ss sq hPc (hDs.weaken (fun _ _ _ _ => trivial)) x y hrw hco) (cwV 2 hts gL_cell_X0_cell rfl rfl rfl (by decide +kernel) ⟨Nat.le_of_ble_eq_true rfl, Nat.le_of_ble_eq_true rfl⟩) (pZ_V hKc hz hS hFc (va_recv hK hP (ci := 0) (q0 := 0) rfl rfl)) rfl rfl hl.1 rfl (lv_room (Nat.le_of_ble_eq_true rfl)) dL_cell_5 ⟨Nat.le_of_ble_eq_true rfl, Nat.le_of_ble_eq_true rfl⟩) hS (fun q _ h => hFc q h) hFc (fun E ce q9 H1 locs1 hbad hz9 hk9 hS9 hce hcv hcl => ?_) (fun r9 u t H1 locs ht hvm hw hB hz1 hk1 hS => ?_)
  · skip
    have hP := hP.old hk9
    have hS := hS9
    rcases hbad with ⟨rfl, hC⟩ | ⟨rfl, hC⟩
    · skip
      refine vx_catch (own := RL) (name := "java/lang/IllegalStateException") (E := "java/lang/IllegalStateException") hown [] ⟨0, 10, 13, 19⟩ [⟨0, 10, 17, 34⟩] (by rw [htab]; rfl) (fun z h => by cases h) (by decide) (by decide) (hts (.classLink RL 19 "java/lang/IllegalStateException") (by decide +kernel)) (va_Nw.use rfl hz.2.2.1.2.1) hce hcv hcl ?_
      refine lv_astore (lv' := [(4, .ref q9), (0, .ref q0), (1, .int x), (2, .int y), (3, .ref qo)]) hx hb dL_cell_13 hl (by decide) rfl (fun ls hl => ?_)
      refine lv_iconst (v := 1) hx hb dL_cell_15 (by decide) ?_
      refine W.widen (k := 1) (n := 6) (by decide) (by decide) ?_
      exact W.iret (v := 1) hx hb hr (fun t ht hW => ⟨⟨1, oo, rfl, Or.inl ⟨hC, rfl, rfl⟩, by show va_P (dC, dI) vwCl (wXO cyI cyZ cyJ q0 q1 q2 q3 q4 q5 q6 qo wc wl sc sl cl ct rw co sk ss sq oo) t.heap; rw [ht]; exact hP⟩, hS.F ht⟩) hS.2.2 dL_cell_16
    · skip
      refine vx_catch (own := RL) (name := "java/lang/IndexOutOfBoundsException") (E := "java/lang/IndexOutOfBoundsException") hown [⟨0, 10, 13, 19⟩] ⟨0, 10, 17, 34⟩ [] (by rw [htab]; rfl) (fun z h => by simp only [List.mem_cons, List.not_mem_nil, or_false] at h; rcases h with rfl <;> first | exact Or.inr ⟨by decide, "java/lang/IllegalStateException", hts (.classLink RL 19 "java/lang/IllegalStateException") (by decide +kernel), hz.2.2.1.2.2.2.2.2.2.2 _ _ (by decide)⟩) (by decide) (by decide) (hts (.classLink RL 34 "java/lang/IndexOutOfBoundsException") (by decide +kernel)) (va_Nw.use rfl hz.2.2.1.2.2.1) hce hcv hcl ?_
      refine lv_astore (lv' := [(4, .ref q9), (0, .ref q0), (1, .int x), (2, .int y), (3, .ref qo)]) hx hb dL_cell_17 hl (by decide) rfl (fun ls hl => ?_)
      refine lv_iconst (v := 2) hx hb dL_cell_19 (by decide) ?_
      refine W.widen (k := 1) (n := 6) (by decide) (by decide) ?_
      exact W.iret (v := 2) hx hb hr (fun t ht hW => ⟨⟨2, oo, rfl, Or.inr (Or.inl ⟨hC, rfl, rfl⟩), by show va_P (dC, dI) vwCl (wXO cyI cyZ cyJ q0 q1 q2 q3 q4 q5 q6 qo wc wl sc sl cl ct rw co sk ss sq oo) t.heap; rw [ht]; exact hP⟩, hS.F ht⟩) hS.2.2 dL_cell_20
  · skip
    obtain ⟨ro, j⟩ := u
    have hB : va_P (dC, dI) vwCl (wX cyI cyZ q0 q1 q2 q3 q4 q5 q6 wc wl sc sl cl ct rw co sk ss sq) t.heap := hB
    rw [ht] at hB
    obtain ⟨hP, hD⟩ := va_join (w1 := wX cyI cyZ q0 q1 q2 q3 q4 q5 q6 wc wl sc sl cl ct rw co sk ss sq) (wr := [(qo, .inl (cyJ, 1, .inr (.inl oo)))]) hP hD [0, 1, 2, 3, 4, 5, 6] [7] rfl rfl (by decide) (by decide) hk1 hFc hB (wX_D (hDs.self (sz := _)))
    have hP : va_P (dC, dI) vwCl (wXO cyI cyZ cyJ q0 q1 q2 q3 q4 q5 q6 qo wc wl sc sl cl ct rw co sk ss sq oo) H1 := hP.sub (ws' := wXO cyI cyZ cyJ q0 q1 q2 q3 q4 q5 q6 qo wc wl sc sl cl ct rw co sk ss sq oo) [1, 2, 3, 4, 5, 6, 7, 0] rfl
    have hD : va_D A (wXO cyI cyZ cyJ q0 q1 q2 q3 q4 q5 q6 qo wc wl sc sl cl ct rw co sk ss sq oo) := hD.sub (ws' := wXO cyI cyZ cyJ q0 q1 q2 q3 q4 q5 q6 qo wc wl sc sl cl ct rw co sk ss sq oo) [1, 2, 3, 4, 5, 6, 7, 0] (by decide) rfl
    clear hB
    generalize H1 = H at hP hS ⊢
    refine lv_i2l hx hb dL_cell_8 rfl ?_
    refine va_last hx hb hK hP hD hS 7 2 rfl rfl (vp_in_nI (by omega) (by omega)) dL_cell_9 (fun H locs hP hD hS => ?_)
    rw [nI_clamp (show 0 < 2 ^ 31 by omega)] at hP hD
    have hP : va_P (dC, dI) vwCl (wXO cyI cyZ cyJ q0 q1 q2 q3 q4 q5 q6 qo wc wl sc sl cl ct rw co sk ss sq (vp_updL oo 0 r9.toInt64)) H := hP
    have hD : va_D A (wXO cyI cyZ cyJ q0 q1 q2 q3 q4 q5 q6 qo wc wl sc sl cl ct rw co sk ss sq (vp_updL oo 0 r9.toInt64)) := hD
    refine lv_goto (tgt := 21) hx hb dL_cell_10 (by decide) ?_
    refine lv_iconst (v := 0) hx hb dL_cell_21 (by decide) ?_
    refine W.widen (k := 1) (n := 6) (by decide) (by decide) ?_
    exact W.iret (v := 0) hx hb hr (fun t ht hW => ⟨⟨0, vp_updL oo 0 r9.toInt64, rfl, Or.inr (Or.inr (⟨rfl, r9, ro, j, hw, rfl⟩)), by show va_P (dC, dI) vwCl (wXO cyI cyZ cyJ q0 q1 q2 q3 q4 q5 q6 qo wc wl sc sl cl ct rw co sk ss sq (vp_updL oo 0 r9.toInt64)) t.heap; rw [ht]; exact hP⟩, hS.F ht⟩) hS.2.2 dL_cell_22
set_option maxHeartbeats 4000000 in
set_option maxRecDepth 100000 in
theorem k_L_dye (l : Launch) (hst : l.stackTraces = false) (dC : Nat → ClassId) (dI : Nat → Nat → Nat) (cyI cyZ cyJ : ClassId) (H0 : Heap) (q0 q1 q2 q3 q4 q5 q6 qo : Nat) (wc wl sc sl cl ct : Nat → Int32) (rw co sk ss sq : Int32) (oo : Nat → Int64) (hP : va_P (dC, dI) vwCl (wXO cyI cyZ cyJ q0 q1 q2 q3 q4 q5 q6 qo wc wl sc sl cl ct rw co sk ss sq oo) H0) (hD0 : va_D (fun _ => True) (wXO cyI cyZ cyJ q0 q1 q2 q3 q4 q5 q6 qo wc wl sc sl cl ct rw co sk ss sq oo)) (x : Int32) (y : Int32) (h : Int32) (v : Int32) (hrw : rw ≤ nI 40) (hco : co ≤ nI 40) : Met l yL_dye wsL_dye ({ frames := 9, cells := 1, slots := 6, locals := 158 }) (va_Pc [.ref q0, .int x, .int y, .int h, .int v, .ref qo] (pZ dC dI (tyO cyI cyZ cyJ) H0 (va_A (wXO cyI cyZ cyJ q0 q1 q2 q3 q4 q5 q6 qo wc wl sc sl cl ct rw co sk ss sq oo) H0.size))) (va_Qi (fun (r : Int32) (u : (Nat → Int32) × (Nat → Int64)) => match u with | (cl9, oo9) => ((¬ (¬ h < 0 ∧ h ≤ nI 8)) ∧ r = 1 ∧ cl9 = cl ∧ oo9 = oo) ∨ (((¬ h < 0 ∧ h ≤ nI 8) ∧ lkC rw co ct x y = 1) ∧ r = 2 ∧ cl9 = cl ∧ oo9 = oo) ∨ (((¬ h < 0 ∧ h ≤ nI 8) ∧ lkC rw co ct x y = 2) ∧ r = 3 ∧ cl9 = cl ∧ oo9 = oo) ∨ (r = 0 ∧ ∃ (rr : Int32) (ro : Nat) (j : Nat), (x = nI ro ∧ ro < 40 ∧ y = nI j ∧ j < 40 ∧ (¬ h < 0 ∧ h ≤ nI 8) ∧ lkC rw co ct x y = 0 ∧ rr = cb (cl (ro * 40 + j)) h v) ∧ cl9 = upd cl (ro * 40 + j) (cb (cl (ro * 40 + j)) h v) ∧ oo9 = vp_updL oo 0 rr.toInt64)) (fun (u : (Nat → Int32) × (Nat → Int64)) (t : State) => match u with | (cl9, oo9) => va_P (dC, dI) vwCl (wXO cyI cyZ cyJ q0 q1 q2 q3 q4 q5 q6 qo wc wl sc sl cl9 ct rw co sk ss sq oo9) t.heap) (va_A (wXO cyI cyZ cyJ q0 q1 q2 q3 q4 q5 q6 qo wc wl sc sl cl ct rw co sk ss sq oo) H0.size)) 1 6 (va_A (wXO cyI cyZ cyJ q0 q1 q2 q3 q4 q5 q6 qo wc wl sc sl cl ct rw co sk ss sq oo) H0.size) := by
  refine va_MetW (hh := [(0, 14, 17, 13), (0, 14, 21, 19), (0, 14, 25, 34)]) (cc := cL_dye) (maxL := 7) (ret := (some .int)) (by decide) rfl ?_
  intro p e s m args below meth c s₁ B hml hv
  obtain ⟨rfl, rfl, hK, hz⟩ := hv
  have hx := B.exec
  have hb := B.bytes
  have hr := B.returns
  have hts := atoms_spec (ws := wsL_dye) B.pre
  have hown : s.vm.findClass RL = some m.cls := findClass_of_methodNamed B.named
  have hlocks := B.notSynchronized
  have htab := vx_table (x := yL_dye) B (hts _ List.mem_cons_self)
  have hD := hD0.self (sz := s.heap.size)
  generalize hAe : (va_A (wXO cyI cyZ cyJ q0 q1 q2 q3 q4 q5 q6 qo wc wl sc sl cl ct rw co sk ss sq oo) s.heap.size) = A at hD hz ⊢
  have hA : ∀ q : Nat, s.heap.size ≤ q → A q := fun q h => by rw [← hAe]; exact Or.inr h
  have hS : va_S A s.heap s.heap [] := va_S.rf
  have hl := lv_entry ([.ref q0, .int x, .int y, .int h, .int v, .ref qo]) (n := 7) (Nat.le_of_ble_eq_true rfl)
  rw [lg_entry_eq]
  generalize (lg_sl ([.ref q0, .int x, .int y, .int h, .int v, .ref qo]) ++ List.replicate (7 - (lg_sl ([.ref q0, .int x, .int y, .int h, .int v, .ref qo])).length) Slot.unset).toArray = ls at hl ⊢
  have hl : lv_has ls 7 [(0, .ref q0), (1, .int x), (2, .int y), (3, .int h), (4, .int v), (5, .ref qo)] := hl
  refine lv_aload hx hb dL_dye_0 (lv_at hl 5 rfl) ?_
  refine lv_iconst (v := nI 0) hx hb dL_dye_2 (by decide) ?_
  refine lv_aload_n hx hb dL_dye_3 rfl (lv_at hl 0 rfl) ?_
  refine lv_iload_n hx hb dL_dye_4 rfl (lv_at hl 1 rfl) ?_
  refine lv_iload_n hx hb dL_dye_5 rfl (lv_at hl 2 rfl) ?_
  refine lv_iload_n hx hb dL_dye_6 rfl (lv_at hl 3 rfl) ?_
  refine lv_iload hx hb dL_dye_7 (lv_at hl 4 rfl) ?_
  have hPc := hP.sub (ws' := wX cyI cyZ q0 q1 q2 q3 q4 q5 q6 wc wl sc sl cl ct rw co sk ss sq) [0, 1, 2, 3, 4, 5, 6] rfl
  have hDs := hD.sub (ws' := wX cyI cyZ q0 q1 q2 q3 q4 q5 q6 wc wl sc sl cl ct rw co sk ss sq) [0, 1, 2, 3, 4, 5, 6] (by decide) rfl
  have hKc := hK.sub (tys' := tyW cyI cyZ) [0, 1] rfl
  have hFc := va_free (wc := wX cyI cyZ q0 q1 q2 q3 q4 q5 q6 wc wl sc sl cl ct rw co sk ss sq) hD hS hA [0, 1, 2, 3, 4, 5, 6] rfl
  refine gx_callx (vx_runV (As := [.int x, .int y, .int h, .int v]) (rest := [.int (nI 0), .ref qo]) ⟨hx, hb, hml, hown, hts⟩ (k_X0_dye l hst dC dI cyI cyZ _ q0 q1 q2 q3 q4 q5 q6 wc wl sc sl cl ct rw co sk ss sq hPc (hDs.weaken (fun _ _ _ _ => trivial)) x y h v hrw hco) (cwV 4 hts gL_dye_X0_dye rfl rfl rfl (by decide +kernel) ⟨Nat.le_of_ble_eq_true rfl, Nat.le_of_ble_eq_true rfl⟩) (pZ_V hKc hz hS hFc (va_recv hK hP (ci := 0) (q0 := 0) rfl rfl)) rfl rfl hl.1 rfl (lv_room (Nat.le_of_ble_eq_true rfl)) dL_dye_9 ⟨Nat.le_of_ble_eq_true rfl, Nat.le_of_ble_eq_true rfl⟩) hS (fun q _ h => hFc q h) hFc (fun E ce q9 H1 locs1 hbad hz9 hk9 hS9 hce hcv hcl => ?_) (fun r9 u t H1 locs ht hvm hw hB hz1 hk1 hS => ?_)
  · skip
    have hP := hP.old hk9
    have hS := hS9
    rcases hbad with ⟨rfl, hC⟩ | ⟨rfl, hC⟩ | ⟨rfl, hC⟩
    · skip
      refine vx_catch (own := RL) (name := "java/lang/IllegalArgumentException") (E := "java/lang/IllegalArgumentException") hown [] ⟨0, 14, 17, 13⟩ [⟨0, 14, 21, 19⟩, ⟨0, 14, 25, 34⟩] (by rw [htab]; rfl) (fun z h => by cases h) (by decide) (by decide) (hts (.classLink RL 13 "java/lang/IllegalArgumentException") (by decide +kernel)) (va_Nw.use rfl hz.2.2.1.1) hce hcv hcl ?_
      refine lv_astore (lv' := [(6, .ref q9), (0, .ref q0), (1, .int x), (2, .int y), (3, .int h), (4, .int v), (5, .ref qo)]) hx hb dL_dye_17 hl (by decide) rfl (fun ls hl => ?_)
      refine lv_iconst (v := 1) hx hb dL_dye_19 (by decide) ?_
      refine W.widen (k := 1) (n := 6) (by decide) (by decide) ?_
      exact W.iret (v := 1) hx hb hr (fun t ht hW => ⟨⟨1, (cl, oo), rfl, Or.inl ⟨hC, rfl, rfl, rfl⟩, by show va_P (dC, dI) vwCl (wXO cyI cyZ cyJ q0 q1 q2 q3 q4 q5 q6 qo wc wl sc sl cl ct rw co sk ss sq oo) t.heap; rw [ht]; exact hP⟩, hS.F ht⟩) hS.2.2 dL_dye_20
    · skip
      refine vx_catch (own := RL) (name := "java/lang/IllegalStateException") (E := "java/lang/IllegalStateException") hown [⟨0, 14, 17, 13⟩] ⟨0, 14, 21, 19⟩ [⟨0, 14, 25, 34⟩] (by rw [htab]; rfl) (fun z h => by simp only [List.mem_cons, List.not_mem_nil, or_false] at h; rcases h with rfl <;> first | exact Or.inr ⟨by decide, "java/lang/IllegalArgumentException", hts (.classLink RL 13 "java/lang/IllegalArgumentException") (by decide +kernel), hz.2.2.1.2.2.2.2.2.2.2 _ _ (by decide)⟩) (by decide) (by decide) (hts (.classLink RL 19 "java/lang/IllegalStateException") (by decide +kernel)) (va_Nw.use rfl hz.2.2.1.2.1) hce hcv hcl ?_
      refine lv_astore (lv' := [(6, .ref q9), (0, .ref q0), (1, .int x), (2, .int y), (3, .int h), (4, .int v), (5, .ref qo)]) hx hb dL_dye_21 hl (by decide) rfl (fun ls hl => ?_)
      refine lv_iconst (v := 2) hx hb dL_dye_23 (by decide) ?_
      refine W.widen (k := 1) (n := 6) (by decide) (by decide) ?_
      exact W.iret (v := 2) hx hb hr (fun t ht hW => ⟨⟨2, (cl, oo), rfl, Or.inr (Or.inl ⟨hC, rfl, rfl, rfl⟩), by show va_P (dC, dI) vwCl (wXO cyI cyZ cyJ q0 q1 q2 q3 q4 q5 q6 qo wc wl sc sl cl ct rw co sk ss sq oo) t.heap; rw [ht]; exact hP⟩, hS.F ht⟩) hS.2.2 dL_dye_24
    · skip
      refine vx_catch (own := RL) (name := "java/lang/IndexOutOfBoundsException") (E := "java/lang/IndexOutOfBoundsException") hown [⟨0, 14, 17, 13⟩, ⟨0, 14, 21, 19⟩] ⟨0, 14, 25, 34⟩ [] (by rw [htab]; rfl) (fun z h => by simp only [List.mem_cons, List.not_mem_nil, or_false] at h; rcases h with rfl | rfl <;> first | exact Or.inr ⟨by decide, "java/lang/IllegalArgumentException", hts (.classLink RL 13 "java/lang/IllegalArgumentException") (by decide +kernel), hz.2.2.1.2.2.2.2.2.2.2 _ _ (by decide)⟩ | exact Or.inr ⟨by decide, "java/lang/IllegalStateException", hts (.classLink RL 19 "java/lang/IllegalStateException") (by decide +kernel), hz.2.2.1.2.2.2.2.2.2.2 _ _ (by decide)⟩) (by decide) (by decide) (hts (.classLink RL 34 "java/lang/IndexOutOfBoundsException") (by decide +kernel)) (va_Nw.use rfl hz.2.2.1.2.2.1) hce hcv hcl ?_
      refine lv_astore (lv' := [(6, .ref q9), (0, .ref q0), (1, .int x), (2, .int y), (3, .int h), (4, .int v), (5, .ref qo)]) hx hb dL_dye_25 hl (by decide) rfl (fun ls hl => ?_)
      refine lv_iconst (v := 3) hx hb dL_dye_27 (by decide) ?_
      refine W.widen (k := 1) (n := 6) (by decide) (by decide) ?_
      exact W.iret (v := 3) hx hb hr (fun t ht hW => ⟨⟨3, (cl, oo), rfl, Or.inr (Or.inr (Or.inl ⟨hC, rfl, rfl, rfl⟩)), by show va_P (dC, dI) vwCl (wXO cyI cyZ cyJ q0 q1 q2 q3 q4 q5 q6 qo wc wl sc sl cl ct rw co sk ss sq oo) t.heap; rw [ht]; exact hP⟩, hS.F ht⟩) hS.2.2 dL_dye_28
  · skip
    obtain ⟨ro, j⟩ := u
    have hB : va_P (dC, dI) vwCl (wX cyI cyZ q0 q1 q2 q3 q4 q5 q6 wc wl sc sl (upd cl (ro * 40 + j) (cb (cl (ro * 40 + j)) h v)) ct rw co sk ss sq) t.heap := hB
    rw [ht] at hB
    obtain ⟨hP, hD⟩ := va_join (w1 := wX cyI cyZ q0 q1 q2 q3 q4 q5 q6 wc wl sc sl (upd cl (ro * 40 + j) (cb (cl (ro * 40 + j)) h v)) ct rw co sk ss sq) (wr := [(qo, .inl (cyJ, 1, .inr (.inl oo)))]) hP hD [0, 1, 2, 3, 4, 5, 6] [7] rfl rfl (by decide) (by decide) hk1 hFc hB (wX_D (hDs.self (sz := _)))
    have hP : va_P (dC, dI) vwCl (wXO cyI cyZ cyJ q0 q1 q2 q3 q4 q5 q6 qo wc wl sc sl (upd cl (ro * 40 + j) (cb (cl (ro * 40 + j)) h v)) ct rw co sk ss sq oo) H1 := hP.sub (ws' := wXO cyI cyZ cyJ q0 q1 q2 q3 q4 q5 q6 qo wc wl sc sl (upd cl (ro * 40 + j) (cb (cl (ro * 40 + j)) h v)) ct rw co sk ss sq oo) [1, 2, 3, 4, 5, 6, 7, 0] rfl
    have hD : va_D A (wXO cyI cyZ cyJ q0 q1 q2 q3 q4 q5 q6 qo wc wl sc sl (upd cl (ro * 40 + j) (cb (cl (ro * 40 + j)) h v)) ct rw co sk ss sq oo) := hD.sub (ws' := wXO cyI cyZ cyJ q0 q1 q2 q3 q4 q5 q6 qo wc wl sc sl (upd cl (ro * 40 + j) (cb (cl (ro * 40 + j)) h v)) ct rw co sk ss sq oo) [1, 2, 3, 4, 5, 6, 7, 0] (by decide) rfl
    clear hB
    generalize H1 = H at hP hS ⊢
    refine lv_i2l hx hb dL_dye_12 rfl ?_
    refine va_last hx hb hK hP hD hS 7 2 rfl rfl (vp_in_nI (by omega) (by omega)) dL_dye_13 (fun H locs hP hD hS => ?_)
    rw [nI_clamp (show 0 < 2 ^ 31 by omega)] at hP hD
    have hP : va_P (dC, dI) vwCl (wXO cyI cyZ cyJ q0 q1 q2 q3 q4 q5 q6 qo wc wl sc sl (upd cl (ro * 40 + j) (cb (cl (ro * 40 + j)) h v)) ct rw co sk ss sq (vp_updL oo 0 r9.toInt64)) H := hP
    have hD : va_D A (wXO cyI cyZ cyJ q0 q1 q2 q3 q4 q5 q6 qo wc wl sc sl (upd cl (ro * 40 + j) (cb (cl (ro * 40 + j)) h v)) ct rw co sk ss sq (vp_updL oo 0 r9.toInt64)) := hD
    refine lv_goto (tgt := 29) hx hb dL_dye_14 (by decide) ?_
    refine lv_iconst (v := 0) hx hb dL_dye_29 (by decide) ?_
    refine W.widen (k := 1) (n := 6) (by decide) (by decide) ?_
    exact W.iret (v := 0) hx hb hr (fun t ht hW => ⟨⟨0, (upd cl (ro * 40 + j) (cb (cl (ro * 40 + j)) h v), vp_updL oo 0 r9.toInt64), rfl, Or.inr (Or.inr (Or.inr (⟨rfl, r9, ro, j, hw, rfl, rfl⟩))), by show va_P (dC, dI) vwCl (wXO cyI cyZ cyJ q0 q1 q2 q3 q4 q5 q6 qo wc wl sc sl (upd cl (ro * 40 + j) (cb (cl (ro * 40 + j)) h v)) ct rw co sk ss sq (vp_updL oo 0 r9.toInt64)) t.heap; rw [ht]; exact hP⟩, hS.F ht⟩) hS.2.2 dL_dye_30
set_option maxHeartbeats 4000000 in
set_option maxRecDepth 100000 in
theorem k_L_seam (l : Launch) (hst : l.stackTraces = false) (dC : Nat → ClassId) (dI : Nat → Nat → Nat) (cyI cyZ cyJ : ClassId) (H0 : Heap) (q0 q1 q2 q3 q4 q5 q6 qo : Nat) (wc wl sc sl cl ct : Nat → Int32) (rw co sk ss sq : Int32) (oo : Nat → Int64) (hP : va_P (dC, dI) vwCl (wXO cyI cyZ cyJ q0 q1 q2 q3 q4 q5 q6 qo wc wl sc sl cl ct rw co sk ss sq oo) H0) (hD0 : va_D (fun _ => True) (wXO cyI cyZ cyJ q0 q1 q2 q3 q4 q5 q6 qo wc wl sc sl cl ct rw co sk ss sq oo)) (x : Int32) (y : Int32) (hrw : rw ≤ nI 40) (hco : co ≤ nI 40) : Met l yL_seam wsL_seam ({ frames := 8, cells := 1, slots := 6, locals := 135 }) (va_Pc [.ref q0, .int x, .int y, .ref qo] (pZ dC dI (tyO cyI cyZ cyJ) H0 (va_A (wXO cyI cyZ cyJ q0 q1 q2 q3 q4 q5 q6 qo wc wl sc sl cl ct rw co sk ss sq oo) H0.size))) (va_Qi (fun (r : Int32) (u : (Nat → Int64)) => match u with | oo9 => ((lkS rw ct x y = 1) ∧ r = 1 ∧ oo9 = oo) ∨ ((lkS rw ct x y = 2) ∧ r = 2 ∧ oo9 = oo) ∨ (r = 0 ∧ ∃ (rr : Int32) (ra : Nat) (rb : Nat), (x = nI ra ∧ ra < 40 ∧ y = nI rb ∧ rb < 40 ∧ lkS rw ct x y = 0 ∧ rr = nSame cl ra rb co.toNatClampNeg) ∧ oo9 = vp_updL oo 0 rr.toInt64)) (fun (u : (Nat → Int64)) (t : State) => match u with | oo9 => va_P (dC, dI) vwCl (wXO cyI cyZ cyJ q0 q1 q2 q3 q4 q5 q6 qo wc wl sc sl cl ct rw co sk ss sq oo9) t.heap) (va_A (wXO cyI cyZ cyJ q0 q1 q2 q3 q4 q5 q6 qo wc wl sc sl cl ct rw co sk ss sq oo) H0.size)) 1 6 (va_A (wXO cyI cyZ cyJ q0 q1 q2 q3 q4 q5 q6 qo wc wl sc sl cl ct rw co sk ss sq oo) H0.size) := by
  refine va_MetW (hh := [(0, 10, 13, 19), (0, 10, 17, 34)]) (cc := cL_seam) (maxL := 5) (ret := (some .int)) (by decide) rfl ?_
  intro p e s m args below meth c s₁ B hml hv
  obtain ⟨rfl, rfl, hK, hz⟩ := hv
  have hx := B.exec
  have hb := B.bytes
  have hr := B.returns
  have hts := atoms_spec (ws := wsL_seam) B.pre
  have hown : s.vm.findClass RL = some m.cls := findClass_of_methodNamed B.named
  have hlocks := B.notSynchronized
  have htab := vx_table (x := yL_seam) B (hts _ List.mem_cons_self)
  have hD := hD0.self (sz := s.heap.size)
  generalize hAe : (va_A (wXO cyI cyZ cyJ q0 q1 q2 q3 q4 q5 q6 qo wc wl sc sl cl ct rw co sk ss sq oo) s.heap.size) = A at hD hz ⊢
  have hA : ∀ q : Nat, s.heap.size ≤ q → A q := fun q h => by rw [← hAe]; exact Or.inr h
  have hS : va_S A s.heap s.heap [] := va_S.rf
  have hl := lv_entry ([.ref q0, .int x, .int y, .ref qo]) (n := 5) (Nat.le_of_ble_eq_true rfl)
  rw [lg_entry_eq]
  generalize (lg_sl ([.ref q0, .int x, .int y, .ref qo]) ++ List.replicate (5 - (lg_sl ([.ref q0, .int x, .int y, .ref qo])).length) Slot.unset).toArray = ls at hl ⊢
  have hl : lv_has ls 5 [(0, .ref q0), (1, .int x), (2, .int y), (3, .ref qo)] := hl
  refine lv_aload_n hx hb dL_seam_0 rfl (lv_at hl 3 rfl) ?_
  refine lv_iconst (v := nI 0) hx hb dL_seam_1 (by decide) ?_
  refine lv_aload_n hx hb dL_seam_2 rfl (lv_at hl 0 rfl) ?_
  refine lv_iload_n hx hb dL_seam_3 rfl (lv_at hl 1 rfl) ?_
  refine lv_iload_n hx hb dL_seam_4 rfl (lv_at hl 2 rfl) ?_
  have hPc := hP.sub (ws' := wX cyI cyZ q0 q1 q2 q3 q4 q5 q6 wc wl sc sl cl ct rw co sk ss sq) [0, 1, 2, 3, 4, 5, 6] rfl
  have hDs := hD.sub (ws' := wX cyI cyZ q0 q1 q2 q3 q4 q5 q6 wc wl sc sl cl ct rw co sk ss sq) [0, 1, 2, 3, 4, 5, 6] (by decide) rfl
  have hKc := hK.sub (tys' := tyW cyI cyZ) [0, 1] rfl
  have hFc := va_free (wc := wX cyI cyZ q0 q1 q2 q3 q4 q5 q6 wc wl sc sl cl ct rw co sk ss sq) hD hS hA [0, 1, 2, 3, 4, 5, 6] rfl
  refine gx_callx (vx_runV (As := [.int x, .int y]) (rest := [.int (nI 0), .ref qo]) ⟨hx, hb, hml, hown, hts⟩ (k_X0_seam l hst dC dI cyI cyZ _ q0 q1 q2 q3 q4 q5 q6 wc wl sc sl cl ct rw co sk ss sq hPc (hDs.weaken (fun _ _ _ _ => trivial)) x y hrw hco) (cwV 2 hts gL_seam_X0_seam rfl rfl rfl (by decide +kernel) ⟨Nat.le_of_ble_eq_true rfl, Nat.le_of_ble_eq_true rfl⟩) (pZ_V hKc hz hS hFc (va_recv hK hP (ci := 0) (q0 := 0) rfl rfl)) rfl rfl hl.1 rfl (lv_room (Nat.le_of_ble_eq_true rfl)) dL_seam_5 ⟨Nat.le_of_ble_eq_true rfl, Nat.le_of_ble_eq_true rfl⟩) hS (fun q _ h => hFc q h) hFc (fun E ce q9 H1 locs1 hbad hz9 hk9 hS9 hce hcv hcl => ?_) (fun r9 u t H1 locs ht hvm hw hB hz1 hk1 hS => ?_)
  · skip
    have hP := hP.old hk9
    have hS := hS9
    rcases hbad with ⟨rfl, hC⟩ | ⟨rfl, hC⟩
    · skip
      refine vx_catch (own := RL) (name := "java/lang/IllegalStateException") (E := "java/lang/IllegalStateException") hown [] ⟨0, 10, 13, 19⟩ [⟨0, 10, 17, 34⟩] (by rw [htab]; rfl) (fun z h => by cases h) (by decide) (by decide) (hts (.classLink RL 19 "java/lang/IllegalStateException") (by decide +kernel)) (va_Nw.use rfl hz.2.2.1.2.1) hce hcv hcl ?_
      refine lv_astore (lv' := [(4, .ref q9), (0, .ref q0), (1, .int x), (2, .int y), (3, .ref qo)]) hx hb dL_seam_13 hl (by decide) rfl (fun ls hl => ?_)
      refine lv_iconst (v := 1) hx hb dL_seam_15 (by decide) ?_
      refine W.widen (k := 1) (n := 6) (by decide) (by decide) ?_
      exact W.iret (v := 1) hx hb hr (fun t ht hW => ⟨⟨1, oo, rfl, Or.inl ⟨hC, rfl, rfl⟩, by show va_P (dC, dI) vwCl (wXO cyI cyZ cyJ q0 q1 q2 q3 q4 q5 q6 qo wc wl sc sl cl ct rw co sk ss sq oo) t.heap; rw [ht]; exact hP⟩, hS.F ht⟩) hS.2.2 dL_seam_16
    · skip
      refine vx_catch (own := RL) (name := "java/lang/IndexOutOfBoundsException") (E := "java/lang/IndexOutOfBoundsException") hown [⟨0, 10, 13, 19⟩] ⟨0, 10, 17, 34⟩ [] (by rw [htab]; rfl) (fun z h => by simp only [List.mem_cons, List.not_mem_nil, or_false] at h; rcases h with rfl <;> first | exact Or.inr ⟨by decide, "java/lang/IllegalStateException", hts (.classLink RL 19 "java/lang/IllegalStateException") (by decide +kernel), hz.2.2.1.2.2.2.2.2.2.2 _ _ (by decide)⟩) (by decide) (by decide) (hts (.classLink RL 34 "java/lang/IndexOutOfBoundsException") (by decide +kernel)) (va_Nw.use rfl hz.2.2.1.2.2.1) hce hcv hcl ?_
      refine lv_astore (lv' := [(4, .ref q9), (0, .ref q0), (1, .int x), (2, .int y), (3, .ref qo)]) hx hb dL_seam_17 hl (by decide) rfl (fun ls hl => ?_)
      refine lv_iconst (v := 2) hx hb dL_seam_19 (by decide) ?_
      refine W.widen (k := 1) (n := 6) (by decide) (by decide) ?_
      exact W.iret (v := 2) hx hb hr (fun t ht hW => ⟨⟨2, oo, rfl, Or.inr (Or.inl ⟨hC, rfl, rfl⟩), by show va_P (dC, dI) vwCl (wXO cyI cyZ cyJ q0 q1 q2 q3 q4 q5 q6 qo wc wl sc sl cl ct rw co sk ss sq oo) t.heap; rw [ht]; exact hP⟩, hS.F ht⟩) hS.2.2 dL_seam_20
  · skip
    obtain ⟨ra, rb⟩ := u
    have hB : va_P (dC, dI) vwCl (wX cyI cyZ q0 q1 q2 q3 q4 q5 q6 wc wl sc sl cl ct rw co sk ss sq) t.heap := hB
    rw [ht] at hB
    obtain ⟨hP, hD⟩ := va_join (w1 := wX cyI cyZ q0 q1 q2 q3 q4 q5 q6 wc wl sc sl cl ct rw co sk ss sq) (wr := [(qo, .inl (cyJ, 1, .inr (.inl oo)))]) hP hD [0, 1, 2, 3, 4, 5, 6] [7] rfl rfl (by decide) (by decide) hk1 hFc hB (wX_D (hDs.self (sz := _)))
    have hP : va_P (dC, dI) vwCl (wXO cyI cyZ cyJ q0 q1 q2 q3 q4 q5 q6 qo wc wl sc sl cl ct rw co sk ss sq oo) H1 := hP.sub (ws' := wXO cyI cyZ cyJ q0 q1 q2 q3 q4 q5 q6 qo wc wl sc sl cl ct rw co sk ss sq oo) [1, 2, 3, 4, 5, 6, 7, 0] rfl
    have hD : va_D A (wXO cyI cyZ cyJ q0 q1 q2 q3 q4 q5 q6 qo wc wl sc sl cl ct rw co sk ss sq oo) := hD.sub (ws' := wXO cyI cyZ cyJ q0 q1 q2 q3 q4 q5 q6 qo wc wl sc sl cl ct rw co sk ss sq oo) [1, 2, 3, 4, 5, 6, 7, 0] (by decide) rfl
    clear hB
    generalize H1 = H at hP hS ⊢
    refine lv_i2l hx hb dL_seam_8 rfl ?_
    refine va_last hx hb hK hP hD hS 7 2 rfl rfl (vp_in_nI (by omega) (by omega)) dL_seam_9 (fun H locs hP hD hS => ?_)
    rw [nI_clamp (show 0 < 2 ^ 31 by omega)] at hP hD
    have hP : va_P (dC, dI) vwCl (wXO cyI cyZ cyJ q0 q1 q2 q3 q4 q5 q6 qo wc wl sc sl cl ct rw co sk ss sq (vp_updL oo 0 r9.toInt64)) H := hP
    have hD : va_D A (wXO cyI cyZ cyJ q0 q1 q2 q3 q4 q5 q6 qo wc wl sc sl cl ct rw co sk ss sq (vp_updL oo 0 r9.toInt64)) := hD
    refine lv_goto (tgt := 21) hx hb dL_seam_10 (by decide) ?_
    refine lv_iconst (v := 0) hx hb dL_seam_21 (by decide) ?_
    refine W.widen (k := 1) (n := 6) (by decide) (by decide) ?_
    exact W.iret (v := 0) hx hb hr (fun t ht hW => ⟨⟨0, vp_updL oo 0 r9.toInt64, rfl, Or.inr (Or.inr (⟨rfl, r9, ra, rb, hw, rfl⟩)), by show va_P (dC, dI) vwCl (wXO cyI cyZ cyJ q0 q1 q2 q3 q4 q5 q6 qo wc wl sc sl cl ct rw co sk ss sq (vp_updL oo 0 r9.toInt64)) t.heap; rw [ht]; exact hP⟩, hS.F ht⟩) hS.2.2 dL_seam_22
set_option maxHeartbeats 4000000 in
set_option maxRecDepth 100000 in
theorem k_L_sum (l : Launch) (hst : l.stackTraces = false) (dC : Nat → ClassId) (dI : Nat → Nat → Nat) (cyI cyZ cyJ : ClassId) (H0 : Heap) (q0 q1 q2 q3 q4 q5 q6 qo : Nat) (wc wl sc sl cl ct : Nat → Int32) (rw co sk ss sq : Int32) (oo : Nat → Int64) (hP : va_P (dC, dI) vwCl (wXO cyI cyZ cyJ q0 q1 q2 q3 q4 q5 q6 qo wc wl sc sl cl ct rw co sk ss sq oo) H0) (hD0 : va_D (fun _ => True) (wXO cyI cyZ cyJ q0 q1 q2 q3 q4 q5 q6 qo wc wl sc sl cl ct rw co sk ss sq oo)) (x : Int32) (hwl : ∀ k, k < 5 → wl k = -1 ∨ ∃ n : Nat, n ≤ 64 ∧ wl k = nI n) (hrw : rw ≤ nI 40) : Met l yL_sum wsL_sum ({ frames := 7, cells := 1, slots := 6, locals := 111 }) (va_Pc [.ref q0, .int x, .ref qo] (pZ dC dI (tyO cyI cyZ cyJ) H0 (va_A (wXO cyI cyZ cyJ q0 q1 q2 q3 q4 q5 q6 qo wc wl sc sl cl ct rw co sk ss sq oo) H0.size))) (va_Qi (fun (r : Int32) (u : (Nat → Int64)) => match u with | oo9 => (((x.toInt < 0 ∨ 4 < x.toInt)) ∧ r = 1 ∧ oo9 = oo) ∨ (r = 0 ∧ ∃ (rr : Int32) , ((x = 0 ∧ rr = wO wc wl 5) ∨ (x = 1 ∧ rr = nOff wl 5) ∨ (x = 2 ∧ rr = rw) ∨ (x = 3 ∧ rr = co) ∨ (x = 4 ∧ rr = (if rw = -1 then -1 else nCut ct rw.toNatClampNeg))) ∧ oo9 = vp_updL oo 0 rr.toInt64)) (fun (u : (Nat → Int64)) (t : State) => match u with | oo9 => va_P (dC, dI) vwCl (wXO cyI cyZ cyJ q0 q1 q2 q3 q4 q5 q6 qo wc wl sc sl cl ct rw co sk ss sq oo9) t.heap) (va_A (wXO cyI cyZ cyJ q0 q1 q2 q3 q4 q5 q6 qo wc wl sc sl cl ct rw co sk ss sq oo) H0.size)) 1 6 (va_A (wXO cyI cyZ cyJ q0 q1 q2 q3 q4 q5 q6 qo wc wl sc sl cl ct rw co sk ss sq oo) H0.size) := by
  refine va_MetW (hh := [(0, 9, 12, 13)]) (cc := cL_sum) (maxL := 4) (ret := (some .int)) (by decide) rfl ?_
  intro p e s m args below meth c s₁ B hml hv
  obtain ⟨rfl, rfl, hK, hz⟩ := hv
  have hx := B.exec
  have hb := B.bytes
  have hr := B.returns
  have hts := atoms_spec (ws := wsL_sum) B.pre
  have hown : s.vm.findClass RL = some m.cls := findClass_of_methodNamed B.named
  have hlocks := B.notSynchronized
  have htab := vx_table (x := yL_sum) B (hts _ List.mem_cons_self)
  have hD := hD0.self (sz := s.heap.size)
  generalize hAe : (va_A (wXO cyI cyZ cyJ q0 q1 q2 q3 q4 q5 q6 qo wc wl sc sl cl ct rw co sk ss sq oo) s.heap.size) = A at hD hz ⊢
  have hA : ∀ q : Nat, s.heap.size ≤ q → A q := fun q h => by rw [← hAe]; exact Or.inr h
  have hS : va_S A s.heap s.heap [] := va_S.rf
  have hl := lv_entry ([.ref q0, .int x, .ref qo]) (n := 4) (Nat.le_of_ble_eq_true rfl)
  rw [lg_entry_eq]
  generalize (lg_sl ([.ref q0, .int x, .ref qo]) ++ List.replicate (4 - (lg_sl ([.ref q0, .int x, .ref qo])).length) Slot.unset).toArray = ls at hl ⊢
  have hl : lv_has ls 4 [(0, .ref q0), (1, .int x), (2, .ref qo)] := hl
  refine lv_aload_n hx hb dL_sum_0 rfl (lv_at hl 2 rfl) ?_
  refine lv_iconst (v := nI 0) hx hb dL_sum_1 (by decide) ?_
  refine lv_aload_n hx hb dL_sum_2 rfl (lv_at hl 0 rfl) ?_
  refine lv_iload_n hx hb dL_sum_3 rfl (lv_at hl 1 rfl) ?_
  have hPc := hP.sub (ws' := wX cyI cyZ q0 q1 q2 q3 q4 q5 q6 wc wl sc sl cl ct rw co sk ss sq) [0, 1, 2, 3, 4, 5, 6] rfl
  have hDs := hD.sub (ws' := wX cyI cyZ q0 q1 q2 q3 q4 q5 q6 wc wl sc sl cl ct rw co sk ss sq) [0, 1, 2, 3, 4, 5, 6] (by decide) rfl
  have hKc := hK.sub (tys' := tyW cyI cyZ) [0, 1] rfl
  have hFc := va_free (wc := wX cyI cyZ q0 q1 q2 q3 q4 q5 q6 wc wl sc sl cl ct rw co sk ss sq) hD hS hA [0, 1, 2, 3, 4, 5, 6] rfl
  refine gx_callx (vx_runV (As := [.int x]) (rest := [.int (nI 0), .ref qo]) ⟨hx, hb, hml, hown, hts⟩ (k_X0_sum l hst dC dI cyI cyZ _ q0 q1 q2 q3 q4 q5 q6 wc wl sc sl cl ct rw co sk ss sq hPc (hDs.weaken (fun _ _ _ _ => trivial)) x hwl hrw) (cwV 1 hts gL_sum_X0_sum rfl rfl rfl (by decide +kernel) ⟨Nat.le_of_ble_eq_true rfl, Nat.le_of_ble_eq_true rfl⟩) (pZ_V hKc hz hS hFc (va_recv hK hP (ci := 0) (q0 := 0) rfl rfl)) rfl rfl hl.1 rfl (lv_room (Nat.le_of_ble_eq_true rfl)) dL_sum_4 ⟨Nat.le_of_ble_eq_true rfl, Nat.le_of_ble_eq_true rfl⟩) hS (fun q _ h => hFc q h) hFc (fun E ce q9 H1 locs1 hbad hz9 hk9 hS9 hce hcv hcl => ?_) (fun r9 u t H1 locs ht hvm hw hB hz1 hk1 hS => ?_)
  · skip
    have hP := hP.old hk9
    have hS := hS9
    obtain ⟨rfl, hC⟩ := hbad
    · skip
      refine vx_catch (own := RL) (name := "java/lang/IllegalArgumentException") (E := "java/lang/IllegalArgumentException") hown [] ⟨0, 9, 12, 13⟩ [] (by rw [htab]; rfl) (fun z h => by cases h) (by decide) (by decide) (hts (.classLink RL 13 "java/lang/IllegalArgumentException") (by decide +kernel)) (va_Nw.use rfl hz.2.2.1.1) hce hcv hcl ?_
      refine lv_astore_n (lv' := [(3, .ref q9), (0, .ref q0), (1, .int x), (2, .ref qo)]) hx hb dL_sum_12 rfl hl (by decide) rfl (fun ls hl => ?_)
      refine lv_iconst (v := 1) hx hb dL_sum_13 (by decide) ?_
      refine W.widen (k := 1) (n := 6) (by decide) (by decide) ?_
      exact W.iret (v := 1) hx hb hr (fun t ht hW => ⟨⟨1, oo, rfl, Or.inl ⟨hC, rfl, rfl⟩, by show va_P (dC, dI) vwCl (wXO cyI cyZ cyJ q0 q1 q2 q3 q4 q5 q6 qo wc wl sc sl cl ct rw co sk ss sq oo) t.heap; rw [ht]; exact hP⟩, hS.F ht⟩) hS.2.2 dL_sum_14
  · skip
    have hB : va_P (dC, dI) vwCl (wX cyI cyZ q0 q1 q2 q3 q4 q5 q6 wc wl sc sl cl ct rw co sk ss sq) t.heap := hB
    rw [ht] at hB
    obtain ⟨hP, hD⟩ := va_join (w1 := wX cyI cyZ q0 q1 q2 q3 q4 q5 q6 wc wl sc sl cl ct rw co sk ss sq) (wr := [(qo, .inl (cyJ, 1, .inr (.inl oo)))]) hP hD [0, 1, 2, 3, 4, 5, 6] [7] rfl rfl (by decide) (by decide) hk1 hFc hB (wX_D (hDs.self (sz := _)))
    have hP : va_P (dC, dI) vwCl (wXO cyI cyZ cyJ q0 q1 q2 q3 q4 q5 q6 qo wc wl sc sl cl ct rw co sk ss sq oo) H1 := hP.sub (ws' := wXO cyI cyZ cyJ q0 q1 q2 q3 q4 q5 q6 qo wc wl sc sl cl ct rw co sk ss sq oo) [1, 2, 3, 4, 5, 6, 7, 0] rfl
    have hD : va_D A (wXO cyI cyZ cyJ q0 q1 q2 q3 q4 q5 q6 qo wc wl sc sl cl ct rw co sk ss sq oo) := hD.sub (ws' := wXO cyI cyZ cyJ q0 q1 q2 q3 q4 q5 q6 qo wc wl sc sl cl ct rw co sk ss sq oo) [1, 2, 3, 4, 5, 6, 7, 0] (by decide) rfl
    clear hB
    generalize H1 = H at hP hS ⊢
    refine lv_i2l hx hb dL_sum_7 rfl ?_
    refine va_last hx hb hK hP hD hS 7 2 rfl rfl (vp_in_nI (by omega) (by omega)) dL_sum_8 (fun H locs hP hD hS => ?_)
    rw [nI_clamp (show 0 < 2 ^ 31 by omega)] at hP hD
    have hP : va_P (dC, dI) vwCl (wXO cyI cyZ cyJ q0 q1 q2 q3 q4 q5 q6 qo wc wl sc sl cl ct rw co sk ss sq (vp_updL oo 0 r9.toInt64)) H := hP
    have hD : va_D A (wXO cyI cyZ cyJ q0 q1 q2 q3 q4 q5 q6 qo wc wl sc sl cl ct rw co sk ss sq (vp_updL oo 0 r9.toInt64)) := hD
    refine lv_goto (tgt := 15) hx hb dL_sum_9 (by decide) ?_
    refine lv_iconst (v := 0) hx hb dL_sum_15 (by decide) ?_
    refine W.widen (k := 1) (n := 6) (by decide) (by decide) ?_
    exact W.iret (v := 0) hx hb hr (fun t ht hW => ⟨⟨0, vp_updL oo 0 r9.toInt64, rfl, Or.inr (⟨rfl, r9, hw, rfl⟩), by show va_P (dC, dI) vwCl (wXO cyI cyZ cyJ q0 q1 q2 q3 q4 q5 q6 qo wc wl sc sl cl ct rw co sk ss sq (vp_updL oo 0 r9.toInt64)) t.heap; rw [ht]; exact hP⟩, hS.F ht⟩) hS.2.2 dL_sum_16
