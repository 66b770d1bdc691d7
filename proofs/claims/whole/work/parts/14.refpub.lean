def mG (mn : Nat → Int32) (x y th2 : Int32) (same : Prop) (ok : Nat → Nat → Prop) : Prop := (¬ okS x ∧ th2 = 1 ∧ same) ∨ ∃ so : Nat, so < 5 ∧ x = nI so ∧ ((mn (2 * so) = -1 ∧ th2 = 2 ∧ same) ∨ (¬ mn (2 * so) = -1 ∧ ¬ (¬ y < 0 ∧ y < mn (2 * so)) ∧ th2 = 3 ∧ same) ∨ (¬ mn (2 * so) = -1 ∧ th2 = 0 ∧ ∃ i : Nat, i < 64 ∧ y = nI i ∧ nI i < mn (2 * so) ∧ ok so i))
def mA (mn : Nat → Int32) (x y h v th2 : Int32) (same : Prop) (ok : Nat → Nat → Prop) : Prop := ((¬ ∃ so : Nat, so < 5 ∧ x = nI so ∧ okA so h v) ∧ th2 = 1 ∧ same) ∨ ∃ so : Nat, so < 5 ∧ x = nI so ∧ okA so h v ∧ ((mn (2 * so) = -1 ∧ th2 = 2 ∧ same) ∨ (¬ mn (2 * so) = -1 ∧ ¬ (¬ y < 0 ∧ y < mn (2 * so)) ∧ th2 = 3 ∧ same) ∨ (¬ mn (2 * so) = -1 ∧ th2 = 0 ∧ ∃ i : Nat, i < 64 ∧ y = nI i ∧ nI i < mn (2 * so) ∧ ok so i))
theorem mg_b {z t r : Int32} (h : t = rfz 1 z ∧ r = (if t = 0 then 0 else 1)) : t = 1 ∧ r = 1 := by
  have h1 : t = 1 := h.1.trans (if_pos (by decide))
  refine ⟨h1, ?_⟩
  rw [h.2, h1]
  decide
theorem rfz_lk (w y : Int32) : rfz 0 (lkI w y) = if w = -1 then 2 else if ¬ (¬ y < 0 ∧ y < w) then 3 else 0 := by
  unfold rfz lkI
  rw [if_neg (by decide)]
  by_cases h1 : w = -1
  · rw [if_pos h1, if_pos h1, if_pos rfl]
  · rw [if_neg h1, if_neg h1]
    by_cases h2 : ¬ (¬ y < 0 ∧ y < w)
    · rw [if_pos h2, if_pos h2]; decide
    · rw [if_neg h2, if_neg h2]; decide
theorem mg_t {w y t r : Int32} (h : t = rfz 0 (lkI w y) ∧ r = (if t = 0 then 0 else 1)) (h0 : r = 0) : t = 0 ∧ ¬ w = -1 ∧ (¬ y < 0 ∧ y < w) := by
  have ht : t = 0 := by
    by_cases e : t = 0
    · exact e
    · have := h.2; rw [if_neg e, h0] at this; exact absurd this (by decide)
  refine ⟨ht, ?_⟩
  have h1 := h.1
  rw [ht, rfz_lk] at h1
  by_cases e1 : w = -1
  · rw [if_pos e1] at h1; exact absurd h1 (by decide)
  · rw [if_neg e1] at h1
    by_cases e2 : ¬ (¬ y < 0 ∧ y < w)
    · rw [if_pos e2] at h1; exact absurd h1 (by decide)
    · exact ⟨e1, Decidable.not_not.mp e2⟩
theorem mg_f {w y t r : Int32} (h : t = rfz 0 (lkI w y) ∧ r = (if t = 0 then 0 else 1)) (h0 : ¬ r = 0) : (w = -1 ∧ t = 2) ∨ (¬ w = -1 ∧ ¬ (¬ y < 0 ∧ y < w) ∧ t = 3) := by
  have h1 := h.1
  rw [rfz_lk] at h1
  by_cases e1 : w = -1
  · rw [if_pos e1] at h1; exact Or.inl ⟨e1, h1⟩
  · rw [if_neg e1] at h1
    by_cases e2 : ¬ (¬ y < 0 ∧ y < w)
    · rw [if_pos e2] at h1; exact Or.inr ⟨e1, e2, h1⟩
    · rw [if_neg e2] at h1
      refine absurd ?_ h0
      rw [h.2, if_pos h1]
theorem mnB {mn : Nat → Int32} {k : Nat} (hmn : ∀ k, k < 5 → mn (2 * k) = -1 ∨ ∃ n : Nat, n ≤ 64 ∧ mn (2 * k) = nI n) (hk : k < 5) : mn (2 * k) ≤ nI 64 := wlB (wl := fun k => mn (2 * k)) hmn hk
set_option maxHeartbeats 4000000 in
set_option maxRecDepth 100000 in
theorem k_X1_mount (l : Launch) (dC : Nat → ClassId) (dI : Nat → Nat → Nat) (cyI cyZ : ClassId) (H0 : Heap) (p0 p1 p2 p3 p4 : Nat) (mn me ml mt : Nat → Int32) (th wo mr mo mk mz mq : Int32) (hP : va_P (dC, dI) vwCl (wM cyI cyZ p0 p1 p2 p3 p4 mn me ml mt th wo mr mo mk mz mq) H0) (hD0 : va_D (fun _ => True) (wM cyI cyZ p0 p1 p2 p3 p4 mn me ml mt th wo mr mo mk mz mq)) (x : Int32) (y : Int32)  : Met l yX1_mount wsX1_mount ({ frames := 1, cells := 0, slots := 0, locals := 21 }) (va_Pc [.ref p0, .int x, .int y] (pK dC dI (tyW cyI cyZ) H0)) (va_Qi (fun (r : Int32) (u : Int32 × (Nat → Int32) × (Nat → Int32)) => match u with | (th2, mn2, me2) => (¬ (okS x ∧ ¬ y < 0 ∧ y ≤ nI 64) ∧ th2 = 1 ∧ mn2 = mn ∧ me2 = me) ∨ (th2 = 0 ∧ ∃ so nn : Nat, so < 5 ∧ x = nI so ∧ nn ≤ 64 ∧ y = nI nn ∧ r = mn (2 * so) ∧ mn2 = upd mn (2 * so) (nI nn) ∧ me2 = fl me (64 * (2 * so)) 0 nn)) (fun (u : Int32 × (Nat → Int32) × (Nat → Int32)) (t : State) => match u with | (th2, mn2, me2) => va_P (dC, dI) vwCl (wM cyI cyZ p0 p1 p2 p3 p4 mn2 me2 ml mt th2 wo mr mo mk mz mq) t.heap) (va_A (wM cyI cyZ p0 p1 p2 p3 p4 mn me ml mt th wo mr mo mk mz mq) H0.size)) 0 0 (va_A (wM cyI cyZ p0 p1 p2 p3 p4 mn me ml mt th wo mr mo mk mz mq) H0.size) := by
  refine Met.ofW (cc := cX1_mount) (maxL := 5) (ret := (some .int)) (by decide) rfl ?_
  intro p e s m args below meth c s₁ B hml hv
  obtain ⟨rfl, rfl, hK⟩ := hv
  have hx := B.exec
  have hb := B.bytes
  have hr := B.returns
  have hts := atoms_spec (ws := wsX1_mount) B.pre
  have hown : s.vm.findClass RX1 = some m.cls := findClass_of_methodNamed B.named
  have hlocks := B.notSynchronized
  have hD := hD0.self (sz := s.heap.size)
  generalize hAe : (va_A (wM cyI cyZ p0 p1 p2 p3 p4 mn me ml mt th wo mr mo mk mz mq) s.heap.size) = A at hD ⊢
  have hA : ∀ q : Nat, s.heap.size ≤ q → A q := fun q h => by rw [← hAe]; exact Or.inr h
  have hS : va_S A s.heap s.heap [] := va_S.rf
  have hl := lv_entry ([.ref p0, .int x, .int y]) (n := 5) (Nat.le_of_ble_eq_true rfl)
  rw [lg_entry_eq]
  generalize (lg_sl ([.ref p0, .int x, .int y]) ++ List.replicate (5 - (lg_sl ([.ref p0, .int x, .int y])).length) Slot.unset).toArray = ls at hl ⊢
  have hl : lv_has ls 5 [(0, .ref p0), (1, .int x), (2, .int y)] := hl
  have iw : ∀ w ∈ wsX10, w ∈ wsX1_mount := by decide +kernel
  refine lv_aload_n hx hb dX1_mount_0 rfl (lv_at hl 0 rfl) ?_
  refine lv_iload_n hx hb dX1_mount_1 rfl (lv_at hl 1 rfl) ?_
  refine gx_calli (va_runS (As := [.int x]) (rest := [.ref p0]) ⟨hx, hb, hml, hown, hts⟩ (k_X1_isSort l dC dI  _   x ) (va_cwS 1 hts gX1_mount_X1_isSort rfl rfl rfl (by decide +kernel) ⟨Nat.le_of_ble_eq_true rfl, Nat.le_of_ble_eq_true rfl⟩) (pK_S (hK.sub (tys' := []) [] rfl)) rfl rfl hl.1 rfl (lv_room (Nat.le_of_ble_eq_true rfl)) dX1_mount_2 ⟨Nat.le_of_ble_eq_true rfl, Nat.le_of_ble_eq_true rfl⟩) (fun r2 hr2 => ?_)
  refine lv_if_eq (tgt := 18) hx hb dX1_mount_5 (by decide) (fun h5 => ?_) (fun h5 => ?_)
  · skip
    have hs := (hr2.resolve_left (fun a => absurd (a.1.symm.trans h5) (by decide))).2
    refine lv_iconst (v := 1) hx hb dX1_mount_18 (by decide) ?_
    refine lv_goto (tgt := 23) hx hb dX1_mount_19 (by decide) ?_
    refine va_put (D := (dC, dI)) (ci := 1) (v := .int 1) (ty := .int) (C := RX1) (T := TX1) (N := 11) hx hb hts iw tyX1 tyX1_ok nmX1 hown hK hP hD hS 0 rfl rfl 0 (by decide) (hts (.fieldLink RX1 23 "ReelLoomModel" "thrown" "I") (by decide +kernel)) (fun _ h9 => h9) rfl (by decide +kernel) rfl rfl (Nat.le_of_ble_eq_true rfl) dX1_mount_23 (fun H locs hP hD hS => ?_)
    have hP : va_P (dC, dI) vwCl (wM cyI cyZ p0 p1 p2 p3 p4 mn me ml mt 1 wo mr mo mk mz mq) H := hP
    have hD : va_D A (wM cyI cyZ p0 p1 p2 p3 p4 mn me ml mt 1 wo mr mo mk mz mq) := hD
    refine lv_aload_n hx hb dX1_mount_26 rfl (lv_at hl 0 rfl) ?_
    refine va_get (D := (dC, dI)) (ci := 1) (v := .int 1) (C := RX1) (T := TX1) (N := 11) hx hb hts iw hown hK hP 0 rfl rfl 0 (by decide) (hts (.fieldLink RX1 23 "ReelLoomModel" "thrown" "I") (by decide +kernel)) (fun _ h9 => h9) rfl dX1_mount_27 ?_
    refine lv_if_eq (tgt := 35) hx hb dX1_mount_30 (by decide) (fun c_3 => ?_) (fun c_3 => ?_)
    · skip
      exact absurd c_3 (by decide)
    · skip
      refine lv_iconst (v := 0) hx hb dX1_mount_33 (by decide) ?_
      exact W.iret (v := 0) hx hb hr (fun t ht hW => ⟨⟨0, (1, mn, me), rfl, Or.inl ⟨fun h => by first | exact hs h.1 | exact h.2.1 h9 | exact h15 h.2.2, rfl, rfl, rfl⟩, by show va_P (dC, dI) vwCl (wM cyI cyZ p0 p1 p2 p3 p4 mn me ml mt 1 wo mr mo mk mz mq) t.heap; rw [ht]; exact hP⟩, hS.F ht⟩) hS.2.2 dX1_mount_34
  · skip
    have hs := (hr2.resolve_right (fun a => h5 a.1)).2
    obtain ⟨so, hso, rfl⟩ := in_of (n := 5) (by decide) hs.1 hs.2
    refine lv_iload_n hx hb dX1_mount_8 rfl (lv_at hl 2 rfl) ?_
    refine lv_if_lt (tgt := 18) hx hb dX1_mount_9 (by decide) (fun h9 => ?_) (fun h9 => ?_)
    · skip
      refine lv_iconst (v := 1) hx hb dX1_mount_18 (by decide) ?_
      refine lv_goto (tgt := 23) hx hb dX1_mount_19 (by decide) ?_
      refine va_put (D := (dC, dI)) (ci := 1) (v := .int 1) (ty := .int) (C := RX1) (T := TX1) (N := 11) hx hb hts iw tyX1 tyX1_ok nmX1 hown hK hP hD hS 0 rfl rfl 0 (by decide) (hts (.fieldLink RX1 23 "ReelLoomModel" "thrown" "I") (by decide +kernel)) (fun _ h9 => h9) rfl (by decide +kernel) rfl rfl (Nat.le_of_ble_eq_true rfl) dX1_mount_23 (fun H locs hP hD hS => ?_)
      have hP : va_P (dC, dI) vwCl (wM cyI cyZ p0 p1 p2 p3 p4 mn me ml mt 1 wo mr mo mk mz mq) H := hP
      have hD : va_D A (wM cyI cyZ p0 p1 p2 p3 p4 mn me ml mt 1 wo mr mo mk mz mq) := hD
      refine lv_aload_n hx hb dX1_mount_26 rfl (lv_at hl 0 rfl) ?_
      refine va_get (D := (dC, dI)) (ci := 1) (v := .int 1) (C := RX1) (T := TX1) (N := 11) hx hb hts iw hown hK hP 0 rfl rfl 0 (by decide) (hts (.fieldLink RX1 23 "ReelLoomModel" "thrown" "I") (by decide +kernel)) (fun _ h9 => h9) rfl dX1_mount_27 ?_
      refine lv_if_eq (tgt := 35) hx hb dX1_mount_30 (by decide) (fun c_5 => ?_) (fun c_5 => ?_)
      · skip
        exact absurd c_5 (by decide)
      · skip
        refine lv_iconst (v := 0) hx hb dX1_mount_33 (by decide) ?_
        exact W.iret (v := 0) hx hb hr (fun t ht hW => ⟨⟨0, (1, mn, me), rfl, Or.inl ⟨fun h => by first | exact hs h.1 | exact h.2.1 h9 | exact h15 h.2.2, rfl, rfl, rfl⟩, by show va_P (dC, dI) vwCl (wM cyI cyZ p0 p1 p2 p3 p4 mn me ml mt 1 wo mr mo mk mz mq) t.heap; rw [ht]; exact hP⟩, hS.F ht⟩) hS.2.2 dX1_mount_34
    · skip
      refine lv_iload_n hx hb dX1_mount_12 rfl (lv_at hl 2 rfl) ?_
      refine lv_bipush (v := nI 64) hx hb dX1_mount_13 (by decide) ?_
      refine lv_icmp_le (tgt := 22) hx hb dX1_mount_15 (by decide) (fun h15 => ?_) (fun h15 => ?_)
      · skip
        refine lv_iconst (v := 0) hx hb dX1_mount_22 (by decide) ?_
        refine va_put (D := (dC, dI)) (ci := 1) (v := .int 0) (ty := .int) (C := RX1) (T := TX1) (N := 11) hx hb hts iw tyX1 tyX1_ok nmX1 hown hK hP hD hS 0 rfl rfl 0 (by decide) (hts (.fieldLink RX1 23 "ReelLoomModel" "thrown" "I") (by decide +kernel)) (fun _ h9 => h9) rfl (by decide +kernel) rfl rfl (Nat.le_of_ble_eq_true rfl) dX1_mount_23 (fun H locs hP hD hS => ?_)
        have hP : va_P (dC, dI) vwCl (wM cyI cyZ p0 p1 p2 p3 p4 mn me ml mt 0 wo mr mo mk mz mq) H := hP
        have hD : va_D A (wM cyI cyZ p0 p1 p2 p3 p4 mn me ml mt 0 wo mr mo mk mz mq) := hD
        refine lv_aload_n hx hb dX1_mount_26 rfl (lv_at hl 0 rfl) ?_
        refine va_get (D := (dC, dI)) (ci := 1) (v := .int 0) (C := RX1) (T := TX1) (N := 11) hx hb hts iw hown hK hP 0 rfl rfl 0 (by decide) (hts (.fieldLink RX1 23 "ReelLoomModel" "thrown" "I") (by decide +kernel)) (fun _ h9 => h9) rfl dX1_mount_27 ?_
        refine lv_if_eq (tgt := 35) hx hb dX1_mount_30 (by decide) (fun c_7 => ?_) (fun c_7 => ?_)
        · skip
          obtain ⟨nn, hnn, rfl⟩ := in_le (n := 64) (by decide) h9 h15
          refine lv_aload_n hx hb dX1_mount_35 rfl (lv_at hl 0 rfl) ?_
          refine va_get (D := (dC, dI)) (ci := 1) (v := .ref p1) (C := RX1) (T := TX1) (N := 11) hx hb hts iw hown hK hP 0 rfl rfl 1 (by decide) (hts (.fieldLink RX1 7 "ReelLoomModel" "many" "[I") (by decide +kernel)) (fun _ h9 => h9) rfl dX1_mount_36 ?_
          refine lv_iconst (v := nI 2) hx hb dX1_mount_39 (by decide) ?_
          refine lv_iload_n hx hb dX1_mount_40 rfl (lv_at hl 1 rfl) ?_
          refine lv_imul hx hb dX1_mount_41 ?_
          rw [pk_mul]
          refine va_iald hx hb hK hP 1 0 rfl rfl (vp_in_nI (by omega) (by omega)) dX1_mount_42 ?_
          rw [nI_clamp (show (2 * so) < 2 ^ 31 by omega)]
          refine lv_istore_n (lv' := [(3, .int (mn ((2 * so)))), (0, .ref p0), (1, .int (nI so)), (2, .int (nI nn))]) hx hb dX1_mount_43 rfl hl (by decide) rfl (fun ls hl => ?_)
          refine lv_aload_n hx hb dX1_mount_44 rfl (lv_at hl 1 rfl) ?_
          refine va_get (D := (dC, dI)) (ci := 1) (v := .ref p1) (C := RX1) (T := TX1) (N := 11) hx hb hts iw hown hK hP 0 rfl rfl 1 (by decide) (hts (.fieldLink RX1 7 "ReelLoomModel" "many" "[I") (by decide +kernel)) (fun _ h9 => h9) rfl dX1_mount_45 ?_
          refine lv_iconst (v := nI 2) hx hb dX1_mount_48 (by decide) ?_
          refine lv_iload_n hx hb dX1_mount_49 rfl (lv_at hl 2 rfl) ?_
          refine lv_imul hx hb dX1_mount_50 ?_
          rw [pk_mul]
          refine lv_iload_n hx hb dX1_mount_51 rfl (lv_at hl 3 rfl) ?_
          refine va_iast hx hb hK hP hD hS 1 0 rfl rfl (vp_in_nI (by omega) (by omega)) dX1_mount_52 (fun H locs hP hD hS => ?_)
          rw [nI_clamp (show (2 * so) < 2 ^ 31 by omega)] at hP hD
          have hP : va_P (dC, dI) vwCl (wM cyI cyZ p0 p1 p2 p3 p4 (upd mn ((2 * so)) (nI nn)) me ml mt 0 wo mr mo mk mz mq) H := hP
          have hD : va_D A (wM cyI cyZ p0 p1 p2 p3 p4 (upd mn ((2 * so)) (nI nn)) me ml mt 0 wo mr mo mk mz mq) := hD
          refine lv_iconst (v := nI 0) hx hb dX1_mount_53 (by decide) ?_
          refine lv_istore (lv' := [(4, .int (nI 0)), (3, .int (mn ((2 * so)))), (0, .ref p0), (1, .int (nI so)), (2, .int (nI nn))]) hx hb dX1_mount_54 hl (by decide) rfl (fun ls hl => ?_)
          refine lpW (N := nn) (I := fun i H locs ls => va_P (dC, dI) vwCl (wM cyI cyZ p0 p1 p2 p3 p4 (upd mn ((2 * so)) (nI nn)) (fl me (64 * (2 * so)) 0 i) ml mt 0 wo mr mo mk mz mq) H ∧ va_D A (wM cyI cyZ p0 p1 p2 p3 p4 (upd mn ((2 * so)) (nI nn)) (fl me (64 * (2 * so)) 0 i) ml mt 0 wo mr mo mk mz mq) ∧ va_S A s.heap H locs ∧ lv_has ls 5 [(4, .int (nI i)), (3, .int (mn ((2 * so)))), (0, .ref p0), (1, .int (nI so)), (2, .int (nI nn))]) (fun i hi H locs ls hI ih => ?_) (fun H locs ls hI => ?_) 0 (Nat.zero_le _) ⟨hP, hD, hS, lv_sub hl [0, 1, 2, 3, 4] rfl⟩
          · skip
            obtain ⟨hP, hD, hS, hl⟩ := hI
            refine lv_iload hx hb dX1_mount_56 (lv_at hl 0 rfl) ?_
            refine lv_iload_n hx hb dX1_mount_58 rfl (lv_at hl 4 rfl) ?_
            refine lv_icmp_ge (tgt := 80) hx hb dX1_mount_59 (by decide) (fun c_8 => ?_) (fun c_8 => ?_)
            · skip
              exact absurd c_8 (nI_ge (by omega) (by omega))
            · skip
              refine lv_aload_n hx hb dX1_mount_62 rfl (lv_at hl 2 rfl) ?_
              refine va_get (D := (dC, dI)) (ci := 1) (v := .ref p2) (C := RX1) (T := TX1) (N := 11) hx hb hts iw hown hK hP 0 rfl rfl 2 (by decide) (hts (.fieldLink RX1 13 "ReelLoomModel" "cells" "[I") (by decide +kernel)) (fun _ h9 => h9) rfl dX1_mount_63 ?_
              refine lv_iload_n hx hb dX1_mount_66 rfl (lv_at hl 3 rfl) ?_
              refine lv_iload hx hb dX1_mount_67 (lv_at hl 0 rfl) ?_
              refine gx_calli (va_runS (As := [.int (nI so), .int (nI i)]) (rest := [.ref p2]) ⟨hx, hb, hml, hown, hts⟩ (k_X1_at l dC dI  _   so i ) (va_cwS 2 hts gX1_mount_X1_at rfl rfl rfl (by decide +kernel) ⟨Nat.le_of_ble_eq_true rfl, Nat.le_of_ble_eq_true rfl⟩) (pK_S (hK.sub (tys' := []) [] rfl)) rfl rfl hl.1 rfl (lv_room (Nat.le_of_ble_eq_true rfl)) dX1_mount_69 ⟨Nat.le_of_ble_eq_true rfl, Nat.le_of_ble_eq_true rfl⟩) (fun r_9 hr_9 => ?_)
              subst hr_9
              refine lv_iconst (v := 0) hx hb dX1_mount_72 (by decide) ?_
              refine va_iast hx hb hK hP hD hS 2 0 rfl rfl (vp_in_nI (by omega) (by omega)) dX1_mount_73 (fun H locs hP hD hS => ?_)
              rw [nI_clamp (show (64 * (2 * so) + i) < 2 ^ 31 by omega)] at hP hD
              have hP : va_P (dC, dI) vwCl (wM cyI cyZ p0 p1 p2 p3 p4 (upd mn ((2 * so)) (nI nn)) (fl me (64 * (2 * so)) 0 (i + 1)) ml mt 0 wo mr mo mk mz mq) H := hP
              have hD : va_D A (wM cyI cyZ p0 p1 p2 p3 p4 (upd mn ((2 * so)) (nI nn)) (fl me (64 * (2 * so)) 0 (i + 1)) ml mt 0 wo mr mo mk mz mq) := hD
              refine lv_iinc (v := nI (i + 1)) (lv' := [(4, .int (nI (i + 1))), (3, .int (mn ((2 * so)))), (0, .ref p0), (1, .int (nI so)), (2, .int (nI nn))]) hx hb dX1_mount_74 hl (k := 0) rfl (nI_1 _) (by decide) rfl (fun ls hl => ?_)
              refine lv_goto (tgt := 56) hx hb dX1_mount_77 (by decide) ?_
              exact ih _ _ _ ⟨hP, hD, hS, lv_sub hl [0, 1, 2, 3, 4] rfl⟩
          · skip
            obtain ⟨hP, hD, hS, hl⟩ := hI
            refine lv_iload hx hb dX1_mount_56 (lv_at hl 0 rfl) ?_
            refine lv_iload_n hx hb dX1_mount_58 rfl (lv_at hl 4 rfl) ?_
            refine lv_icmp_ge (tgt := 80) hx hb dX1_mount_59 (by decide) (fun c_10 => ?_) (fun c_10 => ?_)
            · skip
              refine lv_iload_n hx hb dX1_mount_80 rfl (lv_at hl 1 rfl) ?_
              exact W.iret (v := (mn ((2 * so)))) hx hb hr (fun t ht hW => ⟨⟨(mn ((2 * so))), (0, upd mn ((2 * so)) (nI nn), fl me (64 * (2 * so)) 0 nn), rfl, Or.inr ⟨rfl, so, nn, hso, rfl, hnn, rfl, rfl, rfl, rfl⟩, by show va_P (dC, dI) vwCl (wM cyI cyZ p0 p1 p2 p3 p4 (upd mn ((2 * so)) (nI nn)) (fl me (64 * (2 * so)) 0 nn) ml mt 0 wo mr mo mk mz mq) t.heap; rw [ht]; exact hP⟩, hS.F ht⟩) hS.2.2 dX1_mount_81
            · skip
              exact absurd (nI_le (Nat.le_refl _) (by omega)) c_10
        · skip
          exact absurd (by decide) c_7
      · skip
        refine lv_iconst (v := 1) hx hb dX1_mount_18 (by decide) ?_
        refine lv_goto (tgt := 23) hx hb dX1_mount_19 (by decide) ?_
        refine va_put (D := (dC, dI)) (ci := 1) (v := .int 1) (ty := .int) (C := RX1) (T := TX1) (N := 11) hx hb hts iw tyX1 tyX1_ok nmX1 hown hK hP hD hS 0 rfl rfl 0 (by decide) (hts (.fieldLink RX1 23 "ReelLoomModel" "thrown" "I") (by decide +kernel)) (fun _ h9 => h9) rfl (by decide +kernel) rfl rfl (Nat.le_of_ble_eq_true rfl) dX1_mount_23 (fun H locs hP hD hS => ?_)
        have hP : va_P (dC, dI) vwCl (wM cyI cyZ p0 p1 p2 p3 p4 mn me ml mt 1 wo mr mo mk mz mq) H := hP
        have hD : va_D A (wM cyI cyZ p0 p1 p2 p3 p4 mn me ml mt 1 wo mr mo mk mz mq) := hD
        refine lv_aload_n hx hb dX1_mount_26 rfl (lv_at hl 0 rfl) ?_
        refine va_get (D := (dC, dI)) (ci := 1) (v := .int 1) (C := RX1) (T := TX1) (N := 11) hx hb hts iw hown hK hP 0 rfl rfl 0 (by decide) (hts (.fieldLink RX1 23 "ReelLoomModel" "thrown" "I") (by decide +kernel)) (fun _ h9 => h9) rfl dX1_mount_27 ?_
        refine lv_if_eq (tgt := 35) hx hb dX1_mount_30 (by decide) (fun c_11 => ?_) (fun c_11 => ?_)
        · skip
          exact absurd c_11 (by decide)
        · skip
          refine lv_iconst (v := 0) hx hb dX1_mount_33 (by decide) ?_
          exact W.iret (v := 0) hx hb hr (fun t ht hW => ⟨⟨0, (1, mn, me), rfl, Or.inl ⟨fun h => by first | exact hs h.1 | exact h.2.1 h9 | exact h15 h.2.2, rfl, rfl, rfl⟩, by show va_P (dC, dI) vwCl (wM cyI cyZ p0 p1 p2 p3 p4 mn me ml mt 1 wo mr mo mk mz mq) t.heap; rw [ht]; exact hP⟩, hS.F ht⟩) hS.2.2 dX1_mount_34
set_option maxHeartbeats 4000000 in
set_option maxRecDepth 100000 in
theorem k_X1_off (l : Launch) (dC : Nat → ClassId) (dI : Nat → Nat → Nat) (cyI cyZ : ClassId) (H0 : Heap) (p0 p1 p2 p3 p4 : Nat) (mn me ml mt : Nat → Int32) (th wo mr mo mk mz mq : Int32) (hP : va_P (dC, dI) vwCl (wM cyI cyZ p0 p1 p2 p3 p4 mn me ml mt th wo mr mo mk mz mq) H0) (hD0 : va_D (fun _ => True) (wM cyI cyZ p0 p1 p2 p3 p4 mn me ml mt th wo mr mo mk mz mq)) (x : Int32)  : Met l yX1_off wsX1_off ({ frames := 1, cells := 0, slots := 0, locals := 20 }) (va_Pc [.ref p0, .int x] (pK dC dI (tyW cyI cyZ) H0)) (va_Qi (fun (r : Int32) (u : Int32 × (Nat → Int32)) => match u with | (th2, mn2) => (¬ okS x ∧ th2 = 1 ∧ mn2 = mn) ∨ ∃ so : Nat, so < 5 ∧ x = nI so ∧ ((mn (2 * so) = -1 ∧ th2 = 2 ∧ mn2 = mn) ∨ (¬ mn (2 * so) = -1 ∧ th2 = 0 ∧ r = mn (2 * so) ∧ mn2 = upd mn (2 * so) (-1)))) (fun (u : Int32 × (Nat → Int32)) (t : State) => match u with | (th2, mn2) => va_P (dC, dI) vwCl (wM cyI cyZ p0 p1 p2 p3 p4 mn2 me ml mt th2 wo mr mo mk mz mq) t.heap) (va_A (wM cyI cyZ p0 p1 p2 p3 p4 mn me ml mt th wo mr mo mk mz mq) H0.size)) 0 0 (va_A (wM cyI cyZ p0 p1 p2 p3 p4 mn me ml mt th wo mr mo mk mz mq) H0.size) := by
  refine Met.ofW (cc := cX1_off) (maxL := 3) (ret := (some .int)) (by decide) rfl ?_
  intro p e s m args below meth c s₁ B hml hv
  obtain ⟨rfl, rfl, hK⟩ := hv
  have hx := B.exec
  have hb := B.bytes
  have hr := B.returns
  have hts := atoms_spec (ws := wsX1_off) B.pre
  have hown : s.vm.findClass RX1 = some m.cls := findClass_of_methodNamed B.named
  have hlocks := B.notSynchronized
  have hD := hD0.self (sz := s.heap.size)
  generalize hAe : (va_A (wM cyI cyZ p0 p1 p2 p3 p4 mn me ml mt th wo mr mo mk mz mq) s.heap.size) = A at hD ⊢
  have hA : ∀ q : Nat, s.heap.size ≤ q → A q := fun q h => by rw [← hAe]; exact Or.inr h
  have hS : va_S A s.heap s.heap [] := va_S.rf
  have hl := lv_entry ([.ref p0, .int x]) (n := 3) (Nat.le_of_ble_eq_true rfl)
  rw [lg_entry_eq]
  generalize (lg_sl ([.ref p0, .int x]) ++ List.replicate (3 - (lg_sl ([.ref p0, .int x])).length) Slot.unset).toArray = ls at hl ⊢
  have hl : lv_has ls 3 [(0, .ref p0), (1, .int x)] := hl
  have iw : ∀ w ∈ wsX10, w ∈ wsX1_off := by decide +kernel
  refine lv_aload_n hx hb dX1_off_0 rfl (lv_at hl 0 rfl) ?_
  refine lv_iload_n hx hb dX1_off_1 rfl (lv_at hl 1 rfl) ?_
  refine gx_calli (va_runS (As := [.int x]) (rest := [.ref p0]) ⟨hx, hb, hml, hown, hts⟩ (k_X1_isSort l dC dI  _   x ) (va_cwS 1 hts gX1_off_X1_isSort rfl rfl rfl (by decide +kernel) ⟨Nat.le_of_ble_eq_true rfl, Nat.le_of_ble_eq_true rfl⟩) (pK_S (hK.sub (tys' := []) [] rfl)) rfl rfl hl.1 rfl (lv_room (Nat.le_of_ble_eq_true rfl)) dX1_off_2 ⟨Nat.le_of_ble_eq_true rfl, Nat.le_of_ble_eq_true rfl⟩) (fun r2 hr2 => ?_)
  refine lv_if_ne (tgt := 12) hx hb dX1_off_5 (by decide) (fun h5 => ?_) (fun h5 => ?_)
  · skip
    have hs := (hr2.resolve_right (fun a => h5 a.1)).2
    obtain ⟨so, hso, rfl⟩ := in_of (n := 5) (by decide) hs.1 hs.2
    refine lv_aload_n hx hb dX1_off_12 rfl (lv_at hl 0 rfl) ?_
    refine va_get (D := (dC, dI)) (ci := 1) (v := .ref p1) (C := RX1) (T := TX1) (N := 11) hx hb hts iw hown hK hP 0 rfl rfl 1 (by decide) (hts (.fieldLink RX1 7 "ReelLoomModel" "many" "[I") (by decide +kernel)) (fun _ h9 => h9) rfl dX1_off_13 ?_
    refine lv_iconst (v := nI 2) hx hb dX1_off_16 (by decide) ?_
    refine lv_iload_n hx hb dX1_off_17 rfl (lv_at hl 1 rfl) ?_
    refine lv_imul hx hb dX1_off_18 ?_
    rw [pk_mul]
    refine va_iald hx hb hK hP 1 0 rfl rfl (vp_in_nI (by omega) (by omega)) dX1_off_19 ?_
    rw [nI_clamp (show (2 * so) < 2 ^ 31 by omega)]
    refine lv_iconst (v := -1) hx hb dX1_off_20 (by decide) ?_
    refine lv_icmp_ne (tgt := 28) hx hb dX1_off_21 (by decide) (fun h21 => ?_) (fun h21 => ?_)
    · skip
      refine lv_iconst (v := 0) hx hb dX1_off_28 (by decide) ?_
      refine va_put (D := (dC, dI)) (ci := 1) (v := .int 0) (ty := .int) (C := RX1) (T := TX1) (N := 11) hx hb hts iw tyX1 tyX1_ok nmX1 hown hK hP hD hS 0 rfl rfl 0 (by decide) (hts (.fieldLink RX1 23 "ReelLoomModel" "thrown" "I") (by decide +kernel)) (fun _ h9 => h9) rfl (by decide +kernel) rfl rfl (Nat.le_of_ble_eq_true rfl) dX1_off_29 (fun H locs hP hD hS => ?_)
      have hP : va_P (dC, dI) vwCl (wM cyI cyZ p0 p1 p2 p3 p4 mn me ml mt 0 wo mr mo mk mz mq) H := hP
      have hD : va_D A (wM cyI cyZ p0 p1 p2 p3 p4 mn me ml mt 0 wo mr mo mk mz mq) := hD
      refine lv_aload_n hx hb dX1_off_32 rfl (lv_at hl 0 rfl) ?_
      refine va_get (D := (dC, dI)) (ci := 1) (v := .int 0) (C := RX1) (T := TX1) (N := 11) hx hb hts iw hown hK hP 0 rfl rfl 0 (by decide) (hts (.fieldLink RX1 23 "ReelLoomModel" "thrown" "I") (by decide +kernel)) (fun _ h9 => h9) rfl dX1_off_33 ?_
      refine lv_if_eq (tgt := 41) hx hb dX1_off_36 (by decide) (fun c_4 => ?_) (fun c_4 => ?_)
      · skip
        refine lv_aload_n hx hb dX1_off_41 rfl (lv_at hl 0 rfl) ?_
        refine va_get (D := (dC, dI)) (ci := 1) (v := .ref p1) (C := RX1) (T := TX1) (N := 11) hx hb hts iw hown hK hP 0 rfl rfl 1 (by decide) (hts (.fieldLink RX1 7 "ReelLoomModel" "many" "[I") (by decide +kernel)) (fun _ h9 => h9) rfl dX1_off_42 ?_
        refine lv_iconst (v := nI 2) hx hb dX1_off_45 (by decide) ?_
        refine lv_iload_n hx hb dX1_off_46 rfl (lv_at hl 1 rfl) ?_
        refine lv_imul hx hb dX1_off_47 ?_
        rw [pk_mul]
        refine va_iald hx hb hK hP 1 0 rfl rfl (vp_in_nI (by omega) (by omega)) dX1_off_48 ?_
        rw [nI_clamp (show (2 * so) < 2 ^ 31 by omega)]
        refine lv_istore_n (lv' := [(2, .int (mn ((2 * so)))), (0, .ref p0), (1, .int (nI so))]) hx hb dX1_off_49 rfl hl (by decide) rfl (fun ls hl => ?_)
        refine lv_aload_n hx hb dX1_off_50 rfl (lv_at hl 1 rfl) ?_
        refine va_get (D := (dC, dI)) (ci := 1) (v := .ref p1) (C := RX1) (T := TX1) (N := 11) hx hb hts iw hown hK hP 0 rfl rfl 1 (by decide) (hts (.fieldLink RX1 7 "ReelLoomModel" "many" "[I") (by decide +kernel)) (fun _ h9 => h9) rfl dX1_off_51 ?_
        refine lv_iconst (v := nI 2) hx hb dX1_off_54 (by decide) ?_
        refine lv_iload_n hx hb dX1_off_55 rfl (lv_at hl 2 rfl) ?_
        refine lv_imul hx hb dX1_off_56 ?_
        rw [pk_mul]
        refine lv_iconst (v := -1) hx hb dX1_off_57 (by decide) ?_
        refine va_iast hx hb hK hP hD hS 1 0 rfl rfl (vp_in_nI (by omega) (by omega)) dX1_off_58 (fun H locs hP hD hS => ?_)
        rw [nI_clamp (show (2 * so) < 2 ^ 31 by omega)] at hP hD
        have hP : va_P (dC, dI) vwCl (wM cyI cyZ p0 p1 p2 p3 p4 (upd mn ((2 * so)) (-1)) me ml mt 0 wo mr mo mk mz mq) H := hP
        have hD : va_D A (wM cyI cyZ p0 p1 p2 p3 p4 (upd mn ((2 * so)) (-1)) me ml mt 0 wo mr mo mk mz mq) := hD
        refine lv_iload_n hx hb dX1_off_59 rfl (lv_at hl 0 rfl) ?_
        exact W.iret (v := (mn ((2 * so)))) hx hb hr (fun t ht hW => ⟨⟨(mn ((2 * so))), (0, upd mn ((2 * so)) (-1)), rfl, Or.inr ⟨so, hso, rfl, Or.inr ⟨h21, rfl, rfl, rfl⟩⟩, by show va_P (dC, dI) vwCl (wM cyI cyZ p0 p1 p2 p3 p4 (upd mn ((2 * so)) (-1)) me ml mt 0 wo mr mo mk mz mq) t.heap; rw [ht]; exact hP⟩, hS.F ht⟩) hS.2.2 dX1_off_60
      · skip
        exact absurd (by decide) c_4
    · skip
      refine lv_iconst (v := 2) hx hb dX1_off_24 (by decide) ?_
      refine lv_goto (tgt := 29) hx hb dX1_off_25 (by decide) ?_
      refine va_put (D := (dC, dI)) (ci := 1) (v := .int 2) (ty := .int) (C := RX1) (T := TX1) (N := 11) hx hb hts iw tyX1 tyX1_ok nmX1 hown hK hP hD hS 0 rfl rfl 0 (by decide) (hts (.fieldLink RX1 23 "ReelLoomModel" "thrown" "I") (by decide +kernel)) (fun _ h9 => h9) rfl (by decide +kernel) rfl rfl (Nat.le_of_ble_eq_true rfl) dX1_off_29 (fun H locs hP hD hS => ?_)
      have hP : va_P (dC, dI) vwCl (wM cyI cyZ p0 p1 p2 p3 p4 mn me ml mt 2 wo mr mo mk mz mq) H := hP
      have hD : va_D A (wM cyI cyZ p0 p1 p2 p3 p4 mn me ml mt 2 wo mr mo mk mz mq) := hD
      refine lv_aload_n hx hb dX1_off_32 rfl (lv_at hl 0 rfl) ?_
      refine va_get (D := (dC, dI)) (ci := 1) (v := .int 2) (C := RX1) (T := TX1) (N := 11) hx hb hts iw hown hK hP 0 rfl rfl 0 (by decide) (hts (.fieldLink RX1 23 "ReelLoomModel" "thrown" "I") (by decide +kernel)) (fun _ h9 => h9) rfl dX1_off_33 ?_
      refine lv_if_eq (tgt := 41) hx hb dX1_off_36 (by decide) (fun c_5 => ?_) (fun c_5 => ?_)
      · skip
        exact absurd c_5 (by decide)
      · skip
        refine lv_iconst (v := 0) hx hb dX1_off_39 (by decide) ?_
        exact W.iret (v := 0) hx hb hr (fun t ht hW => ⟨⟨0, (2, mn), rfl, Or.inr ⟨so, hso, rfl, Or.inl ⟨h21, rfl, rfl⟩⟩, by show va_P (dC, dI) vwCl (wM cyI cyZ p0 p1 p2 p3 p4 mn me ml mt 2 wo mr mo mk mz mq) t.heap; rw [ht]; exact hP⟩, hS.F ht⟩) hS.2.2 dX1_off_40
  · skip
    have hs := (hr2.resolve_left (fun a => absurd (a.1.symm.trans h5) (by decide))).2
    refine lv_iconst (v := 1) hx hb dX1_off_8 (by decide) ?_
    refine lv_goto (tgt := 29) hx hb dX1_off_9 (by decide) ?_
    refine va_put (D := (dC, dI)) (ci := 1) (v := .int 1) (ty := .int) (C := RX1) (T := TX1) (N := 11) hx hb hts iw tyX1 tyX1_ok nmX1 hown hK hP hD hS 0 rfl rfl 0 (by decide) (hts (.fieldLink RX1 23 "ReelLoomModel" "thrown" "I") (by decide +kernel)) (fun _ h9 => h9) rfl (by decide +kernel) rfl rfl (Nat.le_of_ble_eq_true rfl) dX1_off_29 (fun H locs hP hD hS => ?_)
    have hP : va_P (dC, dI) vwCl (wM cyI cyZ p0 p1 p2 p3 p4 mn me ml mt 1 wo mr mo mk mz mq) H := hP
    have hD : va_D A (wM cyI cyZ p0 p1 p2 p3 p4 mn me ml mt 1 wo mr mo mk mz mq) := hD
    refine lv_aload_n hx hb dX1_off_32 rfl (lv_at hl 0 rfl) ?_
    refine va_get (D := (dC, dI)) (ci := 1) (v := .int 1) (C := RX1) (T := TX1) (N := 11) hx hb hts iw hown hK hP 0 rfl rfl 0 (by decide) (hts (.fieldLink RX1 23 "ReelLoomModel" "thrown" "I") (by decide +kernel)) (fun _ h9 => h9) rfl dX1_off_33 ?_
    refine lv_if_eq (tgt := 41) hx hb dX1_off_36 (by decide) (fun c_6 => ?_) (fun c_6 => ?_)
    · skip
      exact absurd c_6 (by decide)
    · skip
      refine lv_iconst (v := 0) hx hb dX1_off_39 (by decide) ?_
      exact W.iret (v := 0) hx hb hr (fun t ht hW => ⟨⟨0, (1, mn), rfl, Or.inl ⟨hs, rfl, rfl⟩, by show va_P (dC, dI) vwCl (wM cyI cyZ p0 p1 p2 p3 p4 mn me ml mt 1 wo mr mo mk mz mq) t.heap; rw [ht]; exact hP⟩, hS.F ht⟩) hS.2.2 dX1_off_40
set_option maxHeartbeats 4000000 in
set_option maxRecDepth 100000 in
theorem k_X1_swap (l : Launch) (dC : Nat → ClassId) (dI : Nat → Nat → Nat) (cyI cyZ : ClassId) (H0 : Heap) (p0 p1 p2 p3 p4 : Nat) (mn me ml mt : Nat → Int32) (th wo mr mo mk mz mq : Int32) (hP : va_P (dC, dI) vwCl (wM cyI cyZ p0 p1 p2 p3 p4 mn me ml mt th wo mr mo mk mz mq) H0) (hD0 : va_D (fun _ => True) (wM cyI cyZ p0 p1 p2 p3 p4 mn me ml mt th wo mr mo mk mz mq)) (x : Int32)  : Met l yX1_swap wsX1_swap ({ frames := 1, cells := 0, slots := 0, locals := 21 }) (va_Pc [.ref p0, .int x] (pK dC dI (tyW cyI cyZ) H0)) (va_Qi (fun (r : Int32) (u : Int32 × (Nat → Int32) × (Nat → Int32)) => match u with | (th2, mn2, me2) => (¬ okS x ∧ th2 = 1 ∧ mn2 = mn ∧ me2 = me) ∨ ∃ so : Nat, so < 5 ∧ x = nI so ∧ th2 = 0 ∧ r = mn (2 * so + 1) ∧ mn2 = upd (upd mn (2 * so) (mn (2 * so + 1))) (2 * so + 1) (mn (2 * so)) ∧ me2 = swm me (64 * (2 * so)) 64) (fun (u : Int32 × (Nat → Int32) × (Nat → Int32)) (t : State) => match u with | (th2, mn2, me2) => va_P (dC, dI) vwCl (wM cyI cyZ p0 p1 p2 p3 p4 mn2 me2 ml mt th2 wo mr mo mk mz mq) t.heap) (va_A (wM cyI cyZ p0 p1 p2 p3 p4 mn me ml mt th wo mr mo mk mz mq) H0.size)) 0 0 (va_A (wM cyI cyZ p0 p1 p2 p3 p4 mn me ml mt th wo mr mo mk mz mq) H0.size) := by
  refine Met.ofW (cc := cX1_swap) (maxL := 4) (ret := (some .int)) (by decide) rfl ?_
  intro p e s m args below meth c s₁ B hml hv
  obtain ⟨rfl, rfl, hK⟩ := hv
  have hx := B.exec
  have hb := B.bytes
  have hr := B.returns
  have hts := atoms_spec (ws := wsX1_swap) B.pre
  have hown : s.vm.findClass RX1 = some m.cls := findClass_of_methodNamed B.named
  have hlocks := B.notSynchronized
  have hD := hD0.self (sz := s.heap.size)
  generalize hAe : (va_A (wM cyI cyZ p0 p1 p2 p3 p4 mn me ml mt th wo mr mo mk mz mq) s.heap.size) = A at hD ⊢
  have hA : ∀ q : Nat, s.heap.size ≤ q → A q := fun q h => by rw [← hAe]; exact Or.inr h
  have hS : va_S A s.heap s.heap [] := va_S.rf
  have hl := lv_entry ([.ref p0, .int x]) (n := 4) (Nat.le_of_ble_eq_true rfl)
  rw [lg_entry_eq]
  generalize (lg_sl ([.ref p0, .int x]) ++ List.replicate (4 - (lg_sl ([.ref p0, .int x])).length) Slot.unset).toArray = ls at hl ⊢
  have hl : lv_has ls 4 [(0, .ref p0), (1, .int x)] := hl
  have iw : ∀ w ∈ wsX10, w ∈ wsX1_swap := by decide +kernel
  refine lv_aload_n hx hb dX1_swap_0 rfl (lv_at hl 0 rfl) ?_
  refine lv_iload_n hx hb dX1_swap_1 rfl (lv_at hl 1 rfl) ?_
  refine gx_calli (va_runS (As := [.int x]) (rest := [.ref p0]) ⟨hx, hb, hml, hown, hts⟩ (k_X1_isSort l dC dI  _   x ) (va_cwS 1 hts gX1_swap_X1_isSort rfl rfl rfl (by decide +kernel) ⟨Nat.le_of_ble_eq_true rfl, Nat.le_of_ble_eq_true rfl⟩) (pK_S (hK.sub (tys' := []) [] rfl)) rfl rfl hl.1 rfl (lv_room (Nat.le_of_ble_eq_true rfl)) dX1_swap_2 ⟨Nat.le_of_ble_eq_true rfl, Nat.le_of_ble_eq_true rfl⟩) (fun r2 hr2 => ?_)
  refine lv_if_eq (tgt := 12) hx hb dX1_swap_5 (by decide) (fun h5 => ?_) (fun h5 => ?_)
  · skip
    have hs := (hr2.resolve_left (fun a => absurd (a.1.symm.trans h5) (by decide))).2
    refine lv_iconst (v := 1) hx hb dX1_swap_12 (by decide) ?_
    refine va_put (D := (dC, dI)) (ci := 1) (v := .int 1) (ty := .int) (C := RX1) (T := TX1) (N := 11) hx hb hts iw tyX1 tyX1_ok nmX1 hown hK hP hD hS 0 rfl rfl 0 (by decide) (hts (.fieldLink RX1 23 "ReelLoomModel" "thrown" "I") (by decide +kernel)) (fun _ h9 => h9) rfl (by decide +kernel) rfl rfl (Nat.le_of_ble_eq_true rfl) dX1_swap_13 (fun H locs hP hD hS => ?_)
    have hP : va_P (dC, dI) vwCl (wM cyI cyZ p0 p1 p2 p3 p4 mn me ml mt 1 wo mr mo mk mz mq) H := hP
    have hD : va_D A (wM cyI cyZ p0 p1 p2 p3 p4 mn me ml mt 1 wo mr mo mk mz mq) := hD
    refine lv_aload_n hx hb dX1_swap_16 rfl (lv_at hl 0 rfl) ?_
    refine va_get (D := (dC, dI)) (ci := 1) (v := .int 1) (C := RX1) (T := TX1) (N := 11) hx hb hts iw hown hK hP 0 rfl rfl 0 (by decide) (hts (.fieldLink RX1 23 "ReelLoomModel" "thrown" "I") (by decide +kernel)) (fun _ h9 => h9) rfl dX1_swap_17 ?_
    refine lv_if_eq (tgt := 25) hx hb dX1_swap_20 (by decide) (fun c_3 => ?_) (fun c_3 => ?_)
    · skip
      exact absurd c_3 (by decide)
    · skip
      refine lv_iconst (v := 0) hx hb dX1_swap_23 (by decide) ?_
      exact W.iret (v := 0) hx hb hr (fun t ht hW => ⟨⟨0, (1, mn, me), rfl, Or.inl ⟨hs, rfl, rfl, rfl⟩, by show va_P (dC, dI) vwCl (wM cyI cyZ p0 p1 p2 p3 p4 mn me ml mt 1 wo mr mo mk mz mq) t.heap; rw [ht]; exact hP⟩, hS.F ht⟩) hS.2.2 dX1_swap_24
  · skip
    have hs := (hr2.resolve_right (fun a => h5 a.1)).2
    obtain ⟨so, hso, rfl⟩ := in_of (n := 5) (by decide) hs.1 hs.2
    refine lv_iconst (v := 0) hx hb dX1_swap_8 (by decide) ?_
    refine lv_goto (tgt := 13) hx hb dX1_swap_9 (by decide) ?_
    refine va_put (D := (dC, dI)) (ci := 1) (v := .int 0) (ty := .int) (C := RX1) (T := TX1) (N := 11) hx hb hts iw tyX1 tyX1_ok nmX1 hown hK hP hD hS 0 rfl rfl 0 (by decide) (hts (.fieldLink RX1 23 "ReelLoomModel" "thrown" "I") (by decide +kernel)) (fun _ h9 => h9) rfl (by decide +kernel) rfl rfl (Nat.le_of_ble_eq_true rfl) dX1_swap_13 (fun H locs hP hD hS => ?_)
    have hP : va_P (dC, dI) vwCl (wM cyI cyZ p0 p1 p2 p3 p4 mn me ml mt 0 wo mr mo mk mz mq) H := hP
    have hD : va_D A (wM cyI cyZ p0 p1 p2 p3 p4 mn me ml mt 0 wo mr mo mk mz mq) := hD
    refine lv_aload_n hx hb dX1_swap_16 rfl (lv_at hl 0 rfl) ?_
    refine va_get (D := (dC, dI)) (ci := 1) (v := .int 0) (C := RX1) (T := TX1) (N := 11) hx hb hts iw hown hK hP 0 rfl rfl 0 (by decide) (hts (.fieldLink RX1 23 "ReelLoomModel" "thrown" "I") (by decide +kernel)) (fun _ h9 => h9) rfl dX1_swap_17 ?_
    refine lv_if_eq (tgt := 25) hx hb dX1_swap_20 (by decide) (fun c_4 => ?_) (fun c_4 => ?_)
    · skip
      refine lv_iconst (v := nI 0) hx hb dX1_swap_25 (by decide) ?_
      refine lv_istore_n (lv' := [(2, .int (nI 0)), (0, .ref p0), (1, .int (nI so))]) hx hb dX1_swap_26 rfl hl (by decide) rfl (fun ls hl => ?_)
      refine lpW (N := 64) (I := fun i H locs ls => va_P (dC, dI) vwCl (wM cyI cyZ p0 p1 p2 p3 p4 mn (swm me (64 * (2 * so)) i) ml mt 0 wo mr mo mk mz mq) H ∧ va_D A (wM cyI cyZ p0 p1 p2 p3 p4 mn (swm me (64 * (2 * so)) i) ml mt 0 wo mr mo mk mz mq) ∧ va_S A s.heap H locs ∧ lv_has ls 4 [(2, .int (nI i)), (0, .ref p0), (1, .int (nI so))]) (fun i hi H locs ls hI ih => ?_) (fun H locs ls hI => ?_) 0 (Nat.zero_le _) ⟨hP, hD, hS, lv_sub hl [0, 1, 2] rfl⟩
      · skip
        obtain ⟨hP, hD, hS, hl⟩ := hI
        refine lv_iload_n hx hb dX1_swap_27 rfl (lv_at hl 0 rfl) ?_
        refine lv_bipush (v := nI 64) hx hb dX1_swap_28 (by decide) ?_
        refine lv_icmp_ge (tgt := 87) hx hb dX1_swap_30 (by decide) (fun c_5 => ?_) (fun c_5 => ?_)
        · skip
          exact absurd c_5 (nI_ge (by omega) (by omega))
        · skip
          refine lv_aload_n hx hb dX1_swap_33 rfl (lv_at hl 1 rfl) ?_
          refine va_get (D := (dC, dI)) (ci := 1) (v := .ref p2) (C := RX1) (T := TX1) (N := 11) hx hb hts iw hown hK hP 0 rfl rfl 2 (by decide) (hts (.fieldLink RX1 13 "ReelLoomModel" "cells" "[I") (by decide +kernel)) (fun _ h9 => h9) rfl dX1_swap_34 ?_
          refine lv_iload_n hx hb dX1_swap_37 rfl (lv_at hl 2 rfl) ?_
          refine lv_iload_n hx hb dX1_swap_38 rfl (lv_at hl 0 rfl) ?_
          refine gx_calli (va_runS (As := [.int (nI so), .int (nI i)]) (rest := [.ref p2]) ⟨hx, hb, hml, hown, hts⟩ (k_X1_at l dC dI  _   so i ) (va_cwS 2 hts gX1_swap_X1_at rfl rfl rfl (by decide +kernel) ⟨Nat.le_of_ble_eq_true rfl, Nat.le_of_ble_eq_true rfl⟩) (pK_S (hK.sub (tys' := []) [] rfl)) rfl rfl hl.1 rfl (lv_room (Nat.le_of_ble_eq_true rfl)) dX1_swap_39 ⟨Nat.le_of_ble_eq_true rfl, Nat.le_of_ble_eq_true rfl⟩) (fun r_6 hr_6 => ?_)
          subst hr_6
          refine va_iald hx hb hK hP 2 0 rfl rfl (vp_in_nI (by omega) (by omega)) dX1_swap_42 ?_
          rw [nI_clamp (show (64 * (2 * so) + i) < 2 ^ 31 by omega)]
          refine lv_istore_n (lv' := [(3, .int ((swm me (64 * (2 * so)) i) ((64 * (2 * so) + i)))), (2, .int (nI i)), (0, .ref p0), (1, .int (nI so))]) hx hb dX1_swap_43 rfl hl (by decide) rfl (fun ls hl => ?_)
          refine lv_aload_n hx hb dX1_swap_44 rfl (lv_at hl 2 rfl) ?_
          refine va_get (D := (dC, dI)) (ci := 1) (v := .ref p2) (C := RX1) (T := TX1) (N := 11) hx hb hts iw hown hK hP 0 rfl rfl 2 (by decide) (hts (.fieldLink RX1 13 "ReelLoomModel" "cells" "[I") (by decide +kernel)) (fun _ h9 => h9) rfl dX1_swap_45 ?_
          refine lv_iload_n hx hb dX1_swap_48 rfl (lv_at hl 3 rfl) ?_
          refine lv_iload_n hx hb dX1_swap_49 rfl (lv_at hl 1 rfl) ?_
          refine gx_calli (va_runS (As := [.int (nI so), .int (nI i)]) (rest := [.ref p2]) ⟨hx, hb, hml, hown, hts⟩ (k_X1_at l dC dI  _   so i ) (va_cwS 2 hts gX1_swap_X1_at rfl rfl rfl (by decide +kernel) ⟨Nat.le_of_ble_eq_true rfl, Nat.le_of_ble_eq_true rfl⟩) (pK_S (hK.sub (tys' := []) [] rfl)) rfl rfl hl.1 rfl (lv_room (Nat.le_of_ble_eq_true rfl)) dX1_swap_50 ⟨Nat.le_of_ble_eq_true rfl, Nat.le_of_ble_eq_true rfl⟩) (fun r_7 hr_7 => ?_)
          subst hr_7
          refine lv_aload_n hx hb dX1_swap_53 rfl (lv_at hl 2 rfl) ?_
          refine va_get (D := (dC, dI)) (ci := 1) (v := .ref p2) (C := RX1) (T := TX1) (N := 11) hx hb hts iw hown hK hP 0 rfl rfl 2 (by decide) (hts (.fieldLink RX1 13 "ReelLoomModel" "cells" "[I") (by decide +kernel)) (fun _ h9 => h9) rfl dX1_swap_54 ?_
          refine lv_iload_n hx hb dX1_swap_57 rfl (lv_at hl 3 rfl) ?_
          refine lv_bipush (v := nI 64) hx hb dX1_swap_58 (by decide) ?_
          refine lv_iload_n hx hb dX1_swap_60 rfl (lv_at hl 1 rfl) ?_
          refine lv_iadd hx hb dX1_swap_61 ?_
          rw [nI_add]
          refine gx_calli (va_runS (As := [.int (nI so), .int (nI (64 + i))]) (rest := [.ref p2, .int (nI (64 * (2 * so) + i)), .ref p2]) ⟨hx, hb, hml, hown, hts⟩ (k_X1_at l dC dI  _   so ((64 + i)) ) (va_cwS 2 hts gX1_swap_X1_at rfl rfl rfl (by decide +kernel) ⟨Nat.le_of_ble_eq_true rfl, Nat.le_of_ble_eq_true rfl⟩) (pK_S (hK.sub (tys' := []) [] rfl)) rfl rfl hl.1 rfl (lv_room (Nat.le_of_ble_eq_true rfl)) dX1_swap_62 ⟨Nat.le_of_ble_eq_true rfl, Nat.le_of_ble_eq_true rfl⟩) (fun r_8 hr_8 => ?_)
          subst hr_8
          refine va_iald hx hb hK hP 2 0 rfl rfl (vp_in_nI (by omega) (by omega)) dX1_swap_65 ?_
          rw [nI_clamp (show (64 * (2 * so) + (((64 + i)))) < 2 ^ 31 by omega)]
          refine va_iast hx hb hK hP hD hS 2 0 rfl rfl (vp_in_nI (by omega) (by omega)) dX1_swap_66 (fun H locs hP hD hS => ?_)
          rw [nI_clamp (show (64 * (2 * so) + i) < 2 ^ 31 by omega)] at hP hD
          have hP : va_P (dC, dI) vwCl (wM cyI cyZ p0 p1 p2 p3 p4 mn (upd (swm me (64 * (2 * so)) i) ((64 * (2 * so) + i)) ((swm me (64 * (2 * so)) i) ((64 * (2 * so) + (((64 + i))))))) ml mt 0 wo mr mo mk mz mq) H := hP
          have hD : va_D A (wM cyI cyZ p0 p1 p2 p3 p4 mn (upd (swm me (64 * (2 * so)) i) ((64 * (2 * so) + i)) ((swm me (64 * (2 * so)) i) ((64 * (2 * so) + (((64 + i))))))) ml mt 0 wo mr mo mk mz mq) := hD
          refine lv_aload_n hx hb dX1_swap_67 rfl (lv_at hl 2 rfl) ?_
          refine va_get (D := (dC, dI)) (ci := 1) (v := .ref p2) (C := RX1) (T := TX1) (N := 11) hx hb hts iw hown hK hP 0 rfl rfl 2 (by decide) (hts (.fieldLink RX1 13 "ReelLoomModel" "cells" "[I") (by decide +kernel)) (fun _ h9 => h9) rfl dX1_swap_68 ?_
          refine lv_iload_n hx hb dX1_swap_71 rfl (lv_at hl 3 rfl) ?_
          refine lv_bipush (v := nI 64) hx hb dX1_swap_72 (by decide) ?_
          refine lv_iload_n hx hb dX1_swap_74 rfl (lv_at hl 1 rfl) ?_
          refine lv_iadd hx hb dX1_swap_75 ?_
          rw [nI_add]
          refine gx_calli (va_runS (As := [.int (nI so), .int (nI (64 + i))]) (rest := [.ref p2]) ⟨hx, hb, hml, hown, hts⟩ (k_X1_at l dC dI  _   so ((64 + i)) ) (va_cwS 2 hts gX1_swap_X1_at rfl rfl rfl (by decide +kernel) ⟨Nat.le_of_ble_eq_true rfl, Nat.le_of_ble_eq_true rfl⟩) (pK_S (hK.sub (tys' := []) [] rfl)) rfl rfl hl.1 rfl (lv_room (Nat.le_of_ble_eq_true rfl)) dX1_swap_76 ⟨Nat.le_of_ble_eq_true rfl, Nat.le_of_ble_eq_true rfl⟩) (fun r_9 hr_9 => ?_)
          subst hr_9
          refine lv_iload_n hx hb dX1_swap_79 rfl (lv_at hl 0 rfl) ?_
          refine va_iast hx hb hK hP hD hS 2 0 rfl rfl (vp_in_nI (by omega) (by omega)) dX1_swap_80 (fun H locs hP hD hS => ?_)
          rw [nI_clamp (show (64 * (2 * so) + (((64 + i)))) < 2 ^ 31 by omega)] at hP hD
          have hP : va_P (dC, dI) vwCl (wM cyI cyZ p0 p1 p2 p3 p4 mn (upd (upd (swm me (64 * (2 * so)) i) ((64 * (2 * so) + i)) ((swm me (64 * (2 * so)) i) ((64 * (2 * so) + (((64 + i))))))) ((64 * (2 * so) + (((64 + i))))) ((swm me (64 * (2 * so)) i) ((64 * (2 * so) + i)))) ml mt 0 wo mr mo mk mz mq) H := hP
          have hD : va_D A (wM cyI cyZ p0 p1 p2 p3 p4 mn (upd (upd (swm me (64 * (2 * so)) i) ((64 * (2 * so) + i)) ((swm me (64 * (2 * so)) i) ((64 * (2 * so) + (((64 + i))))))) ((64 * (2 * so) + (((64 + i))))) ((swm me (64 * (2 * so)) i) ((64 * (2 * so) + i)))) ml mt 0 wo mr mo mk mz mq) := hD
          refine lv_iinc (v := nI (i + 1)) (lv' := [(2, .int (nI (i + 1))), (3, .int ((swm me (64 * (2 * so)) i) ((64 * (2 * so) + i)))), (0, .ref p0), (1, .int (nI so))]) hx hb dX1_swap_81 hl (k := 1) rfl (nI_1 _) (by decide) rfl (fun ls hl => ?_)
          refine lv_goto (tgt := 27) hx hb dX1_swap_84 (by decide) ?_
          exact ih _ _ _ ⟨hP, hD, hS, lv_sub hl [0, 2, 3] rfl⟩
      · skip
        obtain ⟨hP, hD, hS, hl⟩ := hI
        refine lv_iload_n hx hb dX1_swap_27 rfl (lv_at hl 0 rfl) ?_
        refine lv_bipush (v := nI 64) hx hb dX1_swap_28 (by decide) ?_
        refine lv_icmp_ge (tgt := 87) hx hb dX1_swap_30 (by decide) (fun c_10 => ?_) (fun c_10 => ?_)
        · skip
          refine lv_aload_n hx hb dX1_swap_87 rfl (lv_at hl 1 rfl) ?_
          refine va_get (D := (dC, dI)) (ci := 1) (v := .ref p1) (C := RX1) (T := TX1) (N := 11) hx hb hts iw hown hK hP 0 rfl rfl 1 (by decide) (hts (.fieldLink RX1 7 "ReelLoomModel" "many" "[I") (by decide +kernel)) (fun _ h9 => h9) rfl dX1_swap_88 ?_
          refine lv_iconst (v := nI 2) hx hb dX1_swap_91 (by decide) ?_
          refine lv_iload_n hx hb dX1_swap_92 rfl (lv_at hl 2 rfl) ?_
          refine lv_imul hx hb dX1_swap_93 ?_
          rw [pk_mul]
          refine va_iald hx hb hK hP 1 0 rfl rfl (vp_in_nI (by omega) (by omega)) dX1_swap_94 ?_
          rw [nI_clamp (show (2 * so) < 2 ^ 31 by omega)]
          refine lv_istore_n (lv' := [(2, .int (mn ((2 * so)))), (0, .ref p0), (1, .int (nI so))]) hx hb dX1_swap_95 rfl hl (by decide) rfl (fun ls hl => ?_)
          refine lv_aload_n hx hb dX1_swap_96 rfl (lv_at hl 1 rfl) ?_
          refine va_get (D := (dC, dI)) (ci := 1) (v := .ref p1) (C := RX1) (T := TX1) (N := 11) hx hb hts iw hown hK hP 0 rfl rfl 1 (by decide) (hts (.fieldLink RX1 7 "ReelLoomModel" "many" "[I") (by decide +kernel)) (fun _ h9 => h9) rfl dX1_swap_97 ?_
          refine lv_iconst (v := nI 2) hx hb dX1_swap_100 (by decide) ?_
          refine lv_iload_n hx hb dX1_swap_101 rfl (lv_at hl 2 rfl) ?_
          refine lv_imul hx hb dX1_swap_102 ?_
          rw [pk_mul]
          refine lv_aload_n hx hb dX1_swap_103 rfl (lv_at hl 1 rfl) ?_
          refine va_get (D := (dC, dI)) (ci := 1) (v := .ref p1) (C := RX1) (T := TX1) (N := 11) hx hb hts iw hown hK hP 0 rfl rfl 1 (by decide) (hts (.fieldLink RX1 7 "ReelLoomModel" "many" "[I") (by decide +kernel)) (fun _ h9 => h9) rfl dX1_swap_104 ?_
          refine lv_iconst (v := nI 2) hx hb dX1_swap_107 (by decide) ?_
          refine lv_iload_n hx hb dX1_swap_108 rfl (lv_at hl 2 rfl) ?_
          refine lv_imul hx hb dX1_swap_109 ?_
          rw [pk_mul]
          refine lv_iconst (v := nI 1) hx hb dX1_swap_110 (by decide) ?_
          refine lv_iadd hx hb dX1_swap_111 ?_
          rw [nI_add]
          refine va_iald hx hb hK hP 1 0 rfl rfl (vp_in_nI (by omega) (by omega)) dX1_swap_112 ?_
          rw [nI_clamp (show ((2 * so) + 1) < 2 ^ 31 by omega)]
          refine va_iast hx hb hK hP hD hS 1 0 rfl rfl (vp_in_nI (by omega) (by omega)) dX1_swap_113 (fun H locs hP hD hS => ?_)
          rw [nI_clamp (show (2 * so) < 2 ^ 31 by omega)] at hP hD
          have hP : va_P (dC, dI) vwCl (wM cyI cyZ p0 p1 p2 p3 p4 (upd mn ((2 * so)) (mn (((2 * so) + 1)))) (swm me (64 * (2 * so)) 64) ml mt 0 wo mr mo mk mz mq) H := hP
          have hD : va_D A (wM cyI cyZ p0 p1 p2 p3 p4 (upd mn ((2 * so)) (mn (((2 * so) + 1)))) (swm me (64 * (2 * so)) 64) ml mt 0 wo mr mo mk mz mq) := hD
          refine lv_aload_n hx hb dX1_swap_114 rfl (lv_at hl 1 rfl) ?_
          refine va_get (D := (dC, dI)) (ci := 1) (v := .ref p1) (C := RX1) (T := TX1) (N := 11) hx hb hts iw hown hK hP 0 rfl rfl 1 (by decide) (hts (.fieldLink RX1 7 "ReelLoomModel" "many" "[I") (by decide +kernel)) (fun _ h9 => h9) rfl dX1_swap_115 ?_
          refine lv_iconst (v := nI 2) hx hb dX1_swap_118 (by decide) ?_
          refine lv_iload_n hx hb dX1_swap_119 rfl (lv_at hl 2 rfl) ?_
          refine lv_imul hx hb dX1_swap_120 ?_
          rw [pk_mul]
          refine lv_iconst (v := nI 1) hx hb dX1_swap_121 (by decide) ?_
          refine lv_iadd hx hb dX1_swap_122 ?_
          rw [nI_add]
          refine lv_iload_n hx hb dX1_swap_123 rfl (lv_at hl 0 rfl) ?_
          refine va_iast hx hb hK hP hD hS 1 0 rfl rfl (vp_in_nI (by omega) (by omega)) dX1_swap_124 (fun H locs hP hD hS => ?_)
          rw [nI_clamp (show ((2 * so) + 1) < 2 ^ 31 by omega)] at hP hD
          have hP : va_P (dC, dI) vwCl (wM cyI cyZ p0 p1 p2 p3 p4 (upd (upd mn ((2 * so)) (mn (((2 * so) + 1)))) (((2 * so) + 1)) (mn ((2 * so)))) (swm me (64 * (2 * so)) 64) ml mt 0 wo mr mo mk mz mq) H := hP
          have hD : va_D A (wM cyI cyZ p0 p1 p2 p3 p4 (upd (upd mn ((2 * so)) (mn (((2 * so) + 1)))) (((2 * so) + 1)) (mn ((2 * so)))) (swm me (64 * (2 * so)) 64) ml mt 0 wo mr mo mk mz mq) := hD
          refine lv_aload_n hx hb dX1_swap_125 rfl (lv_at hl 1 rfl) ?_
          refine va_get (D := (dC, dI)) (ci := 1) (v := .ref p1) (C := RX1) (T := TX1) (N := 11) hx hb hts iw hown hK hP 0 rfl rfl 1 (by decide) (hts (.fieldLink RX1 7 "ReelLoomModel" "many" "[I") (by decide +kernel)) (fun _ h9 => h9) rfl dX1_swap_126 ?_
          refine lv_iconst (v := nI 2) hx hb dX1_swap_129 (by decide) ?_
          refine lv_iload_n hx hb dX1_swap_130 rfl (lv_at hl 2 rfl) ?_
          refine lv_imul hx hb dX1_swap_131 ?_
          rw [pk_mul]
          refine va_iald hx hb hK hP 1 0 rfl rfl (vp_in_nI (by omega) (by omega)) dX1_swap_132 ?_
          rw [nI_clamp (show (2 * so) < 2 ^ 31 by omega)]
          exact W.iret (v := ((upd (upd mn ((2 * so)) (mn (((2 * so) + 1)))) (((2 * so) + 1)) (mn ((2 * so)))) ((2 * so)))) hx hb hr (fun t ht hW => ⟨⟨((upd (upd mn ((2 * so)) (mn (((2 * so) + 1)))) (((2 * so) + 1)) (mn ((2 * so)))) ((2 * so))), (0, upd (upd mn ((2 * so)) (mn (((2 * so) + 1)))) (((2 * so) + 1)) (mn ((2 * so))), swm me (64 * (2 * so)) 64), rfl, Or.inr ⟨so, hso, rfl, rfl, by rw [pk_un (by omega), pk_us], rfl, rfl⟩, by show va_P (dC, dI) vwCl (wM cyI cyZ p0 p1 p2 p3 p4 (upd (upd mn ((2 * so)) (mn (((2 * so) + 1)))) (((2 * so) + 1)) (mn ((2 * so)))) (swm me (64 * (2 * so)) 64) ml mt 0 wo mr mo mk mz mq) t.heap; rw [ht]; exact hP⟩, hS.F ht⟩) hS.2.2 dX1_swap_133
        · skip
          exact absurd (nI_le (Nat.le_refl _) (by omega)) c_10
    · skip
      exact absurd (by decide) c_4
set_option maxHeartbeats 4000000 in
set_option maxRecDepth 100000 in
theorem k_X1_copy (l : Launch) (dC : Nat → ClassId) (dI : Nat → Nat → Nat) (cyI cyZ : ClassId) (H0 : Heap) (p0 p1 p2 p3 p4 : Nat) (mn me ml mt : Nat → Int32) (th wo mr mo mk mz mq : Int32) (hP : va_P (dC, dI) vwCl (wM cyI cyZ p0 p1 p2 p3 p4 mn me ml mt th wo mr mo mk mz mq) H0) (hD0 : va_D (fun _ => True) (wM cyI cyZ p0 p1 p2 p3 p4 mn me ml mt th wo mr mo mk mz mq)) (x : Int32) (hmn : ∀ k, k < 5 → mn (2 * k) = -1 ∨ ∃ n : Nat, n ≤ 64 ∧ mn (2 * k) = nI n) : Met l yX1_copy wsX1_copy ({ frames := 1, cells := 0, slots := 0, locals := 21 }) (va_Pc [.ref p0, .int x] (pK dC dI (tyW cyI cyZ) H0)) (va_Qi (fun (r : Int32) (u : Int32 × (Nat → Int32) × (Nat → Int32)) => match u with | (th2, mn2, me2) => (¬ okS x ∧ th2 = 1 ∧ mn2 = mn ∧ me2 = me) ∨ ∃ so : Nat, so < 5 ∧ x = nI so ∧ ((mn (2 * so) = -1 ∧ th2 = 2 ∧ mn2 = mn ∧ me2 = me) ∨ (th2 = 0 ∧ ∃ nn : Nat, nn ≤ 64 ∧ mn (2 * so) = nI nn ∧ r = nI nn ∧ mn2 = upd mn (2 * so + 1) (nI nn) ∧ me2 = cpm me (64 * (2 * so)) nn))) (fun (u : Int32 × (Nat → Int32) × (Nat → Int32)) (t : State) => match u with | (th2, mn2, me2) => va_P (dC, dI) vwCl (wM cyI cyZ p0 p1 p2 p3 p4 mn2 me2 ml mt th2 wo mr mo mk mz mq) t.heap) (va_A (wM cyI cyZ p0 p1 p2 p3 p4 mn me ml mt th wo mr mo mk mz mq) H0.size)) 0 0 (va_A (wM cyI cyZ p0 p1 p2 p3 p4 mn me ml mt th wo mr mo mk mz mq) H0.size) := by
  refine Met.ofW (cc := cX1_copy) (maxL := 3) (ret := (some .int)) (by decide) rfl ?_
  intro p e s m args below meth c s₁ B hml hv
  obtain ⟨rfl, rfl, hK⟩ := hv
  have hx := B.exec
  have hb := B.bytes
  have hr := B.returns
  have hts := atoms_spec (ws := wsX1_copy) B.pre
  have hown : s.vm.findClass RX1 = some m.cls := findClass_of_methodNamed B.named
  have hlocks := B.notSynchronized
  have hD := hD0.self (sz := s.heap.size)
  generalize hAe : (va_A (wM cyI cyZ p0 p1 p2 p3 p4 mn me ml mt th wo mr mo mk mz mq) s.heap.size) = A at hD ⊢
  have hA : ∀ q : Nat, s.heap.size ≤ q → A q := fun q h => by rw [← hAe]; exact Or.inr h
  have hS : va_S A s.heap s.heap [] := va_S.rf
  have hl := lv_entry ([.ref p0, .int x]) (n := 3) (Nat.le_of_ble_eq_true rfl)
  rw [lg_entry_eq]
  generalize (lg_sl ([.ref p0, .int x]) ++ List.replicate (3 - (lg_sl ([.ref p0, .int x])).length) Slot.unset).toArray = ls at hl ⊢
  have hl : lv_has ls 3 [(0, .ref p0), (1, .int x)] := hl
  have iw : ∀ w ∈ wsX10, w ∈ wsX1_copy := by decide +kernel
  refine lv_aload_n hx hb dX1_copy_0 rfl (lv_at hl 0 rfl) ?_
  refine lv_iload_n hx hb dX1_copy_1 rfl (lv_at hl 1 rfl) ?_
  refine gx_calli (va_runS (As := [.int x]) (rest := [.ref p0]) ⟨hx, hb, hml, hown, hts⟩ (k_X1_isSort l dC dI  _   x ) (va_cwS 1 hts gX1_copy_X1_isSort rfl rfl rfl (by decide +kernel) ⟨Nat.le_of_ble_eq_true rfl, Nat.le_of_ble_eq_true rfl⟩) (pK_S (hK.sub (tys' := []) [] rfl)) rfl rfl hl.1 rfl (lv_room (Nat.le_of_ble_eq_true rfl)) dX1_copy_2 ⟨Nat.le_of_ble_eq_true rfl, Nat.le_of_ble_eq_true rfl⟩) (fun r2 hr2 => ?_)
  refine lv_if_ne (tgt := 12) hx hb dX1_copy_5 (by decide) (fun h5 => ?_) (fun h5 => ?_)
  · skip
    have hs := (hr2.resolve_right (fun a => h5 a.1)).2
    obtain ⟨so, hso, rfl⟩ := in_of (n := 5) (by decide) hs.1 hs.2
    refine lv_aload_n hx hb dX1_copy_12 rfl (lv_at hl 0 rfl) ?_
    refine va_get (D := (dC, dI)) (ci := 1) (v := .ref p1) (C := RX1) (T := TX1) (N := 11) hx hb hts iw hown hK hP 0 rfl rfl 1 (by decide) (hts (.fieldLink RX1 7 "ReelLoomModel" "many" "[I") (by decide +kernel)) (fun _ h9 => h9) rfl dX1_copy_13 ?_
    refine lv_iconst (v := nI 2) hx hb dX1_copy_16 (by decide) ?_
    refine lv_iload_n hx hb dX1_copy_17 rfl (lv_at hl 1 rfl) ?_
    refine lv_imul hx hb dX1_copy_18 ?_
    rw [pk_mul]
    refine va_iald hx hb hK hP 1 0 rfl rfl (vp_in_nI (by omega) (by omega)) dX1_copy_19 ?_
    rw [nI_clamp (show (2 * so) < 2 ^ 31 by omega)]
    refine lv_iconst (v := -1) hx hb dX1_copy_20 (by decide) ?_
    refine lv_icmp_ne (tgt := 28) hx hb dX1_copy_21 (by decide) (fun h21 => ?_) (fun h21 => ?_)
    · skip
      obtain ⟨nn, hnn, hwn⟩ : ∃ n : Nat, n ≤ 64 ∧ mn (2 * so) = nI n := by rcases hmn so hso with e | e; exact absurd e h21; exact e
      refine lv_iconst (v := 0) hx hb dX1_copy_28 (by decide) ?_
      refine va_put (D := (dC, dI)) (ci := 1) (v := .int 0) (ty := .int) (C := RX1) (T := TX1) (N := 11) hx hb hts iw tyX1 tyX1_ok nmX1 hown hK hP hD hS 0 rfl rfl 0 (by decide) (hts (.fieldLink RX1 23 "ReelLoomModel" "thrown" "I") (by decide +kernel)) (fun _ h9 => h9) rfl (by decide +kernel) rfl rfl (Nat.le_of_ble_eq_true rfl) dX1_copy_29 (fun H locs hP hD hS => ?_)
      have hP : va_P (dC, dI) vwCl (wM cyI cyZ p0 p1 p2 p3 p4 mn me ml mt 0 wo mr mo mk mz mq) H := hP
      have hD : va_D A (wM cyI cyZ p0 p1 p2 p3 p4 mn me ml mt 0 wo mr mo mk mz mq) := hD
      refine lv_aload_n hx hb dX1_copy_32 rfl (lv_at hl 0 rfl) ?_
      refine va_get (D := (dC, dI)) (ci := 1) (v := .int 0) (C := RX1) (T := TX1) (N := 11) hx hb hts iw hown hK hP 0 rfl rfl 0 (by decide) (hts (.fieldLink RX1 23 "ReelLoomModel" "thrown" "I") (by decide +kernel)) (fun _ h9 => h9) rfl dX1_copy_33 ?_
      refine lv_if_eq (tgt := 41) hx hb dX1_copy_36 (by decide) (fun c_4 => ?_) (fun c_4 => ?_)
      · skip
        refine lv_iconst (v := nI 0) hx hb dX1_copy_41 (by decide) ?_
        refine lv_istore_n (lv' := [(2, .int (nI 0)), (0, .ref p0), (1, .int (nI so))]) hx hb dX1_copy_42 rfl hl (by decide) rfl (fun ls hl => ?_)
        refine lpW (N := nn) (I := fun i H locs ls => va_P (dC, dI) vwCl (wM cyI cyZ p0 p1 p2 p3 p4 mn (cpm me (64 * (2 * so)) i) ml mt 0 wo mr mo mk mz mq) H ∧ va_D A (wM cyI cyZ p0 p1 p2 p3 p4 mn (cpm me (64 * (2 * so)) i) ml mt 0 wo mr mo mk mz mq) ∧ va_S A s.heap H locs ∧ lv_has ls 3 [(2, .int (nI i)), (0, .ref p0), (1, .int (nI so))]) (fun i hi H locs ls hI ih => ?_) (fun H locs ls hI => ?_) 0 (Nat.zero_le _) ⟨hP, hD, hS, lv_sub hl [0, 1, 2] rfl⟩
        · skip
          obtain ⟨hP, hD, hS, hl⟩ := hI
          refine lv_iload_n hx hb dX1_copy_43 rfl (lv_at hl 0 rfl) ?_
          refine lv_aload_n hx hb dX1_copy_44 rfl (lv_at hl 1 rfl) ?_
          refine va_get (D := (dC, dI)) (ci := 1) (v := .ref p1) (C := RX1) (T := TX1) (N := 11) hx hb hts iw hown hK hP 0 rfl rfl 1 (by decide) (hts (.fieldLink RX1 7 "ReelLoomModel" "many" "[I") (by decide +kernel)) (fun _ h9 => h9) rfl dX1_copy_45 ?_
          refine lv_iconst (v := nI 2) hx hb dX1_copy_48 (by decide) ?_
          refine lv_iload_n hx hb dX1_copy_49 rfl (lv_at hl 2 rfl) ?_
          refine lv_imul hx hb dX1_copy_50 ?_
          rw [pk_mul]
          refine va_iald hx hb hK hP 1 0 rfl rfl (vp_in_nI (by omega) (by omega)) dX1_copy_51 ?_
          rw [nI_clamp (show (2 * so) < 2 ^ 31 by omega)]
          rw [hwn]
          refine lv_icmp_ge (tgt := 84) hx hb dX1_copy_52 (by decide) (fun c_5 => ?_) (fun c_5 => ?_)
          · skip
            exact absurd c_5 (nI_ge (by omega) (by omega))
          · skip
            refine lv_aload_n hx hb dX1_copy_55 rfl (lv_at hl 1 rfl) ?_
            refine va_get (D := (dC, dI)) (ci := 1) (v := .ref p2) (C := RX1) (T := TX1) (N := 11) hx hb hts iw hown hK hP 0 rfl rfl 2 (by decide) (hts (.fieldLink RX1 13 "ReelLoomModel" "cells" "[I") (by decide +kernel)) (fun _ h9 => h9) rfl dX1_copy_56 ?_
            refine lv_iload_n hx hb dX1_copy_59 rfl (lv_at hl 2 rfl) ?_
            refine lv_bipush (v := nI 64) hx hb dX1_copy_60 (by decide) ?_
            refine lv_iload_n hx hb dX1_copy_62 rfl (lv_at hl 0 rfl) ?_
            refine lv_iadd hx hb dX1_copy_63 ?_
            rw [nI_add]
            refine gx_calli (va_runS (As := [.int (nI so), .int (nI (64 + i))]) (rest := [.ref p2]) ⟨hx, hb, hml, hown, hts⟩ (k_X1_at l dC dI  _   so ((64 + i)) ) (va_cwS 2 hts gX1_copy_X1_at rfl rfl rfl (by decide +kernel) ⟨Nat.le_of_ble_eq_true rfl, Nat.le_of_ble_eq_true rfl⟩) (pK_S (hK.sub (tys' := []) [] rfl)) rfl rfl hl.1 rfl (lv_room (Nat.le_of_ble_eq_true rfl)) dX1_copy_64 ⟨Nat.le_of_ble_eq_true rfl, Nat.le_of_ble_eq_true rfl⟩) (fun r_6 hr_6 => ?_)
            subst hr_6
            refine lv_aload_n hx hb dX1_copy_67 rfl (lv_at hl 1 rfl) ?_
            refine va_get (D := (dC, dI)) (ci := 1) (v := .ref p2) (C := RX1) (T := TX1) (N := 11) hx hb hts iw hown hK hP 0 rfl rfl 2 (by decide) (hts (.fieldLink RX1 13 "ReelLoomModel" "cells" "[I") (by decide +kernel)) (fun _ h9 => h9) rfl dX1_copy_68 ?_
            refine lv_iload_n hx hb dX1_copy_71 rfl (lv_at hl 2 rfl) ?_
            refine lv_iload_n hx hb dX1_copy_72 rfl (lv_at hl 0 rfl) ?_
            refine gx_calli (va_runS (As := [.int (nI so), .int (nI i)]) (rest := [.ref p2, .int (nI (64 * (2 * so) + (((64 + i))))), .ref p2]) ⟨hx, hb, hml, hown, hts⟩ (k_X1_at l dC dI  _   so i ) (va_cwS 2 hts gX1_copy_X1_at rfl rfl rfl (by decide +kernel) ⟨Nat.le_of_ble_eq_true rfl, Nat.le_of_ble_eq_true rfl⟩) (pK_S (hK.sub (tys' := []) [] rfl)) rfl rfl hl.1 rfl (lv_room (Nat.le_of_ble_eq_true rfl)) dX1_copy_73 ⟨Nat.le_of_ble_eq_true rfl, Nat.le_of_ble_eq_true rfl⟩) (fun r_7 hr_7 => ?_)
            subst hr_7
            refine va_iald hx hb hK hP 2 0 rfl rfl (vp_in_nI (by omega) (by omega)) dX1_copy_76 ?_
            rw [nI_clamp (show (64 * (2 * so) + i) < 2 ^ 31 by omega)]
            refine va_iast hx hb hK hP hD hS 2 0 rfl rfl (vp_in_nI (by omega) (by omega)) dX1_copy_77 (fun H locs hP hD hS => ?_)
            rw [nI_clamp (show (64 * (2 * so) + (((64 + i)))) < 2 ^ 31 by omega)] at hP hD
            have hP : va_P (dC, dI) vwCl (wM cyI cyZ p0 p1 p2 p3 p4 mn (cpm me (64 * (2 * so)) (i + 1)) ml mt 0 wo mr mo mk mz mq) H := hP
            have hD : va_D A (wM cyI cyZ p0 p1 p2 p3 p4 mn (cpm me (64 * (2 * so)) (i + 1)) ml mt 0 wo mr mo mk mz mq) := hD
            refine lv_iinc (v := nI (i + 1)) (lv' := [(2, .int (nI (i + 1))), (0, .ref p0), (1, .int (nI so))]) hx hb dX1_copy_78 hl (k := 0) rfl (nI_1 _) (by decide) rfl (fun ls hl => ?_)
            refine lv_goto (tgt := 43) hx hb dX1_copy_81 (by decide) ?_
            exact ih _ _ _ ⟨hP, hD, hS, lv_sub hl [0, 1, 2] rfl⟩
        · skip
          obtain ⟨hP, hD, hS, hl⟩ := hI
          refine lv_iload_n hx hb dX1_copy_43 rfl (lv_at hl 0 rfl) ?_
          refine lv_aload_n hx hb dX1_copy_44 rfl (lv_at hl 1 rfl) ?_
          refine va_get (D := (dC, dI)) (ci := 1) (v := .ref p1) (C := RX1) (T := TX1) (N := 11) hx hb hts iw hown hK hP 0 rfl rfl 1 (by decide) (hts (.fieldLink RX1 7 "ReelLoomModel" "many" "[I") (by decide +kernel)) (fun _ h9 => h9) rfl dX1_copy_45 ?_
          refine lv_iconst (v := nI 2) hx hb dX1_copy_48 (by decide) ?_
          refine lv_iload_n hx hb dX1_copy_49 rfl (lv_at hl 2 rfl) ?_
          refine lv_imul hx hb dX1_copy_50 ?_
          rw [pk_mul]
          refine va_iald hx hb hK hP 1 0 rfl rfl (vp_in_nI (by omega) (by omega)) dX1_copy_51 ?_
          rw [nI_clamp (show (2 * so) < 2 ^ 31 by omega)]
          rw [hwn]
          refine lv_icmp_ge (tgt := 84) hx hb dX1_copy_52 (by decide) (fun c_8 => ?_) (fun c_8 => ?_)
          · skip
            refine lv_aload_n hx hb dX1_copy_84 rfl (lv_at hl 1 rfl) ?_
            refine va_get (D := (dC, dI)) (ci := 1) (v := .ref p1) (C := RX1) (T := TX1) (N := 11) hx hb hts iw hown hK hP 0 rfl rfl 1 (by decide) (hts (.fieldLink RX1 7 "ReelLoomModel" "many" "[I") (by decide +kernel)) (fun _ h9 => h9) rfl dX1_copy_85 ?_
            refine lv_iconst (v := nI 2) hx hb dX1_copy_88 (by decide) ?_
            refine lv_iload_n hx hb dX1_copy_89 rfl (lv_at hl 2 rfl) ?_
            refine lv_imul hx hb dX1_copy_90 ?_
            rw [pk_mul]
            refine lv_iconst (v := nI 1) hx hb dX1_copy_91 (by decide) ?_
            refine lv_iadd hx hb dX1_copy_92 ?_
            rw [nI_add]
            refine lv_aload_n hx hb dX1_copy_93 rfl (lv_at hl 1 rfl) ?_
            refine va_get (D := (dC, dI)) (ci := 1) (v := .ref p1) (C := RX1) (T := TX1) (N := 11) hx hb hts iw hown hK hP 0 rfl rfl 1 (by decide) (hts (.fieldLink RX1 7 "ReelLoomModel" "many" "[I") (by decide +kernel)) (fun _ h9 => h9) rfl dX1_copy_94 ?_
            refine lv_iconst (v := nI 2) hx hb dX1_copy_97 (by decide) ?_
            refine lv_iload_n hx hb dX1_copy_98 rfl (lv_at hl 2 rfl) ?_
            refine lv_imul hx hb dX1_copy_99 ?_
            rw [pk_mul]
            refine va_iald hx hb hK hP 1 0 rfl rfl (vp_in_nI (by omega) (by omega)) dX1_copy_100 ?_
            rw [nI_clamp (show (2 * so) < 2 ^ 31 by omega)]
            rw [hwn]
            refine va_iast hx hb hK hP hD hS 1 0 rfl rfl (vp_in_nI (by omega) (by omega)) dX1_copy_101 (fun H locs hP hD hS => ?_)
            rw [nI_clamp (show ((2 * so) + 1) < 2 ^ 31 by omega)] at hP hD
            have hP : va_P (dC, dI) vwCl (wM cyI cyZ p0 p1 p2 p3 p4 (upd mn (((2 * so) + 1)) (nI nn)) (cpm me (64 * (2 * so)) nn) ml mt 0 wo mr mo mk mz mq) H := hP
            have hD : va_D A (wM cyI cyZ p0 p1 p2 p3 p4 (upd mn (((2 * so) + 1)) (nI nn)) (cpm me (64 * (2 * so)) nn) ml mt 0 wo mr mo mk mz mq) := hD
            refine lv_aload_n hx hb dX1_copy_102 rfl (lv_at hl 1 rfl) ?_
            refine va_get (D := (dC, dI)) (ci := 1) (v := .ref p1) (C := RX1) (T := TX1) (N := 11) hx hb hts iw hown hK hP 0 rfl rfl 1 (by decide) (hts (.fieldLink RX1 7 "ReelLoomModel" "many" "[I") (by decide +kernel)) (fun _ h9 => h9) rfl dX1_copy_103 ?_
            refine lv_iconst (v := nI 2) hx hb dX1_copy_106 (by decide) ?_
            refine lv_iload_n hx hb dX1_copy_107 rfl (lv_at hl 2 rfl) ?_
            refine lv_imul hx hb dX1_copy_108 ?_
            rw [pk_mul]
            refine va_iald hx hb hK hP 1 0 rfl rfl (vp_in_nI (by omega) (by omega)) dX1_copy_109 ?_
            rw [nI_clamp (show (2 * so) < 2 ^ 31 by omega)]
            exact W.iret (v := ((upd mn (((2 * so) + 1)) (nI nn)) ((2 * so)))) hx hb hr (fun t ht hW => ⟨⟨((upd mn (((2 * so) + 1)) (nI nn)) ((2 * so))), (0, upd mn (((2 * so) + 1)) (nI nn), cpm me (64 * (2 * so)) nn), rfl, Or.inr ⟨so, hso, rfl, Or.inr ⟨rfl, nn, hnn, hwn, by rw [pk_un (by omega)]; exact hwn, rfl, rfl⟩⟩, by show va_P (dC, dI) vwCl (wM cyI cyZ p0 p1 p2 p3 p4 (upd mn (((2 * so) + 1)) (nI nn)) (cpm me (64 * (2 * so)) nn) ml mt 0 wo mr mo mk mz mq) t.heap; rw [ht]; exact hP⟩, hS.F ht⟩) hS.2.2 dX1_copy_110
          · skip
            exact absurd (nI_le (Nat.le_refl _) (by omega)) c_8
      · skip
        exact absurd (by decide) c_4
    · skip
      refine lv_iconst (v := 2) hx hb dX1_copy_24 (by decide) ?_
      refine lv_goto (tgt := 29) hx hb dX1_copy_25 (by decide) ?_
      refine va_put (D := (dC, dI)) (ci := 1) (v := .int 2) (ty := .int) (C := RX1) (T := TX1) (N := 11) hx hb hts iw tyX1 tyX1_ok nmX1 hown hK hP hD hS 0 rfl rfl 0 (by decide) (hts (.fieldLink RX1 23 "ReelLoomModel" "thrown" "I") (by decide +kernel)) (fun _ h9 => h9) rfl (by decide +kernel) rfl rfl (Nat.le_of_ble_eq_true rfl) dX1_copy_29 (fun H locs hP hD hS => ?_)
      have hP : va_P (dC, dI) vwCl (wM cyI cyZ p0 p1 p2 p3 p4 mn me ml mt 2 wo mr mo mk mz mq) H := hP
      have hD : va_D A (wM cyI cyZ p0 p1 p2 p3 p4 mn me ml mt 2 wo mr mo mk mz mq) := hD
      refine lv_aload_n hx hb dX1_copy_32 rfl (lv_at hl 0 rfl) ?_
      refine va_get (D := (dC, dI)) (ci := 1) (v := .int 2) (C := RX1) (T := TX1) (N := 11) hx hb hts iw hown hK hP 0 rfl rfl 0 (by decide) (hts (.fieldLink RX1 23 "ReelLoomModel" "thrown" "I") (by decide +kernel)) (fun _ h9 => h9) rfl dX1_copy_33 ?_
      refine lv_if_eq (tgt := 41) hx hb dX1_copy_36 (by decide) (fun c_9 => ?_) (fun c_9 => ?_)
      · skip
        exact absurd c_9 (by decide)
      · skip
        refine lv_iconst (v := 0) hx hb dX1_copy_39 (by decide) ?_
        exact W.iret (v := 0) hx hb hr (fun t ht hW => ⟨⟨0, (2, mn, me), rfl, Or.inr ⟨so, hso, rfl, Or.inl ⟨h21, rfl, rfl, rfl⟩⟩, by show va_P (dC, dI) vwCl (wM cyI cyZ p0 p1 p2 p3 p4 mn me ml mt 2 wo mr mo mk mz mq) t.heap; rw [ht]; exact hP⟩, hS.F ht⟩) hS.2.2 dX1_copy_40
  · skip
    have hs := (hr2.resolve_left (fun a => absurd (a.1.symm.trans h5) (by decide))).2
    refine lv_iconst (v := 1) hx hb dX1_copy_8 (by decide) ?_
    refine lv_goto (tgt := 29) hx hb dX1_copy_9 (by decide) ?_
    refine va_put (D := (dC, dI)) (ci := 1) (v := .int 1) (ty := .int) (C := RX1) (T := TX1) (N := 11) hx hb hts iw tyX1 tyX1_ok nmX1 hown hK hP hD hS 0 rfl rfl 0 (by decide) (hts (.fieldLink RX1 23 "ReelLoomModel" "thrown" "I") (by decide +kernel)) (fun _ h9 => h9) rfl (by decide +kernel) rfl rfl (Nat.le_of_ble_eq_true rfl) dX1_copy_29 (fun H locs hP hD hS => ?_)
    have hP : va_P (dC, dI) vwCl (wM cyI cyZ p0 p1 p2 p3 p4 mn me ml mt 1 wo mr mo mk mz mq) H := hP
    have hD : va_D A (wM cyI cyZ p0 p1 p2 p3 p4 mn me ml mt 1 wo mr mo mk mz mq) := hD
    refine lv_aload_n hx hb dX1_copy_32 rfl (lv_at hl 0 rfl) ?_
    refine va_get (D := (dC, dI)) (ci := 1) (v := .int 1) (C := RX1) (T := TX1) (N := 11) hx hb hts iw hown hK hP 0 rfl rfl 0 (by decide) (hts (.fieldLink RX1 23 "ReelLoomModel" "thrown" "I") (by decide +kernel)) (fun _ h9 => h9) rfl dX1_copy_33 ?_
    refine lv_if_eq (tgt := 41) hx hb dX1_copy_36 (by decide) (fun c_10 => ?_) (fun c_10 => ?_)
    · skip
      exact absurd c_10 (by decide)
    · skip
      refine lv_iconst (v := 0) hx hb dX1_copy_39 (by decide) ?_
      exact W.iret (v := 0) hx hb hr (fun t ht hW => ⟨⟨0, (1, mn, me), rfl, Or.inl ⟨hs, rfl, rfl, rfl⟩, by show va_P (dC, dI) vwCl (wM cyI cyZ p0 p1 p2 p3 p4 mn me ml mt 1 wo mr mo mk mz mq) t.heap; rw [ht]; exact hP⟩, hS.F ht⟩) hS.2.2 dX1_copy_40
set_option maxHeartbeats 4000000 in
set_option maxRecDepth 100000 in
theorem k_X1_size (l : Launch) (dC : Nat → ClassId) (dI : Nat → Nat → Nat) (cyI cyZ : ClassId) (H0 : Heap) (p0 p1 p2 p3 p4 : Nat) (mn me ml mt : Nat → Int32) (th wo mr mo mk mz mq : Int32) (hP : va_P (dC, dI) vwCl (wM cyI cyZ p0 p1 p2 p3 p4 mn me ml mt th wo mr mo mk mz mq) H0) (hD0 : va_D (fun _ => True) (wM cyI cyZ p0 p1 p2 p3 p4 mn me ml mt th wo mr mo mk mz mq)) (x : Int32) (y : Int32)  : Met l yX1_size wsX1_size ({ frames := 1, cells := 0, slots := 0, locals := 20 }) (va_Pc [.ref p0, .int x, .int y] (pK dC dI (tyW cyI cyZ) H0)) (va_Qi (fun (r : Int32) (u : Int32) => match u with | th2 => (¬ okS x ∧ th2 = 1) ∨ ∃ so : Nat, so < 5 ∧ x = nI so ∧ th2 = 0 ∧ r = (if y = 0 then mn (2 * so) else mn (2 * so + 1))) (fun (u : Int32) (t : State) => match u with | th2 => va_P (dC, dI) vwCl (wM cyI cyZ p0 p1 p2 p3 p4 mn me ml mt th2 wo mr mo mk mz mq) t.heap) (va_A (wM cyI cyZ p0 p1 p2 p3 p4 mn me ml mt th wo mr mo mk mz mq) H0.size)) 0 0 (va_A (wM cyI cyZ p0 p1 p2 p3 p4 mn me ml mt th wo mr mo mk mz mq) H0.size) := by
  refine Met.ofW (cc := cX1_size) (maxL := 3) (ret := (some .int)) (by decide) rfl ?_
  intro p e s m args below meth c s₁ B hml hv
  obtain ⟨rfl, rfl, hK⟩ := hv
  have hx := B.exec
  have hb := B.bytes
  have hr := B.returns
  have hts := atoms_spec (ws := wsX1_size) B.pre
  have hown : s.vm.findClass RX1 = some m.cls := findClass_of_methodNamed B.named
  have hlocks := B.notSynchronized
  have hD := hD0.self (sz := s.heap.size)
  generalize hAe : (va_A (wM cyI cyZ p0 p1 p2 p3 p4 mn me ml mt th wo mr mo mk mz mq) s.heap.size) = A at hD ⊢
  have hA : ∀ q : Nat, s.heap.size ≤ q → A q := fun q h => by rw [← hAe]; exact Or.inr h
  have hS : va_S A s.heap s.heap [] := va_S.rf
  have hl := lv_entry ([.ref p0, .int x, .int y]) (n := 3) (Nat.le_of_ble_eq_true rfl)
  rw [lg_entry_eq]
  generalize (lg_sl ([.ref p0, .int x, .int y]) ++ List.replicate (3 - (lg_sl ([.ref p0, .int x, .int y])).length) Slot.unset).toArray = ls at hl ⊢
  have hl : lv_has ls 3 [(0, .ref p0), (1, .int x), (2, .int y)] := hl
  have iw : ∀ w ∈ wsX10, w ∈ wsX1_size := by decide +kernel
  refine lv_aload_n hx hb dX1_size_0 rfl (lv_at hl 0 rfl) ?_
  refine lv_iload_n hx hb dX1_size_1 rfl (lv_at hl 1 rfl) ?_
  refine gx_calli (va_runS (As := [.int x]) (rest := [.ref p0]) ⟨hx, hb, hml, hown, hts⟩ (k_X1_isSort l dC dI  _   x ) (va_cwS 1 hts gX1_size_X1_isSort rfl rfl rfl (by decide +kernel) ⟨Nat.le_of_ble_eq_true rfl, Nat.le_of_ble_eq_true rfl⟩) (pK_S (hK.sub (tys' := []) [] rfl)) rfl rfl hl.1 rfl (lv_room (Nat.le_of_ble_eq_true rfl)) dX1_size_2 ⟨Nat.le_of_ble_eq_true rfl, Nat.le_of_ble_eq_true rfl⟩) (fun r2 hr2 => ?_)
  refine lv_if_eq (tgt := 12) hx hb dX1_size_5 (by decide) (fun h5 => ?_) (fun h5 => ?_)
  · skip
    have hs := (hr2.resolve_left (fun a => absurd (a.1.symm.trans h5) (by decide))).2
    refine lv_iconst (v := 1) hx hb dX1_size_12 (by decide) ?_
    refine va_put (D := (dC, dI)) (ci := 1) (v := .int 1) (ty := .int) (C := RX1) (T := TX1) (N := 11) hx hb hts iw tyX1 tyX1_ok nmX1 hown hK hP hD hS 0 rfl rfl 0 (by decide) (hts (.fieldLink RX1 23 "ReelLoomModel" "thrown" "I") (by decide +kernel)) (fun _ h9 => h9) rfl (by decide +kernel) rfl rfl (Nat.le_of_ble_eq_true rfl) dX1_size_13 (fun H locs hP hD hS => ?_)
    have hP : va_P (dC, dI) vwCl (wM cyI cyZ p0 p1 p2 p3 p4 mn me ml mt 1 wo mr mo mk mz mq) H := hP
    have hD : va_D A (wM cyI cyZ p0 p1 p2 p3 p4 mn me ml mt 1 wo mr mo mk mz mq) := hD
    refine lv_aload_n hx hb dX1_size_16 rfl (lv_at hl 0 rfl) ?_
    refine va_get (D := (dC, dI)) (ci := 1) (v := .int 1) (C := RX1) (T := TX1) (N := 11) hx hb hts iw hown hK hP 0 rfl rfl 0 (by decide) (hts (.fieldLink RX1 23 "ReelLoomModel" "thrown" "I") (by decide +kernel)) (fun _ h9 => h9) rfl dX1_size_17 ?_
    refine lv_if_ne (tgt := 44) hx hb dX1_size_20 (by decide) (fun c_3 => ?_) (fun c_3 => ?_)
    · skip
      refine lv_iconst (v := 0) hx hb dX1_size_44 (by decide) ?_
      exact W.iret (v := 0) hx hb hr (fun t ht hW => ⟨⟨0, 1, rfl, Or.inl ⟨hs, rfl⟩, by show va_P (dC, dI) vwCl (wM cyI cyZ p0 p1 p2 p3 p4 mn me ml mt 1 wo mr mo mk mz mq) t.heap; rw [ht]; exact hP⟩, hS.F ht⟩) hS.2.2 dX1_size_45
    · skip
      exact absurd c_3 (by decide)
  · skip
    have hs := (hr2.resolve_right (fun a => h5 a.1)).2
    obtain ⟨so, hso, rfl⟩ := in_of (n := 5) (by decide) hs.1 hs.2
    refine lv_iconst (v := 0) hx hb dX1_size_8 (by decide) ?_
    refine lv_goto (tgt := 13) hx hb dX1_size_9 (by decide) ?_
    refine va_put (D := (dC, dI)) (ci := 1) (v := .int 0) (ty := .int) (C := RX1) (T := TX1) (N := 11) hx hb hts iw tyX1 tyX1_ok nmX1 hown hK hP hD hS 0 rfl rfl 0 (by decide) (hts (.fieldLink RX1 23 "ReelLoomModel" "thrown" "I") (by decide +kernel)) (fun _ h9 => h9) rfl (by decide +kernel) rfl rfl (Nat.le_of_ble_eq_true rfl) dX1_size_13 (fun H locs hP hD hS => ?_)
    have hP : va_P (dC, dI) vwCl (wM cyI cyZ p0 p1 p2 p3 p4 mn me ml mt 0 wo mr mo mk mz mq) H := hP
    have hD : va_D A (wM cyI cyZ p0 p1 p2 p3 p4 mn me ml mt 0 wo mr mo mk mz mq) := hD
    refine lv_aload_n hx hb dX1_size_16 rfl (lv_at hl 0 rfl) ?_
    refine va_get (D := (dC, dI)) (ci := 1) (v := .int 0) (C := RX1) (T := TX1) (N := 11) hx hb hts iw hown hK hP 0 rfl rfl 0 (by decide) (hts (.fieldLink RX1 23 "ReelLoomModel" "thrown" "I") (by decide +kernel)) (fun _ h9 => h9) rfl dX1_size_17 ?_
    refine lv_if_ne (tgt := 44) hx hb dX1_size_20 (by decide) (fun c_4 => ?_) (fun c_4 => ?_)
    · skip
      exact absurd (by decide) c_4
    · skip
      refine lv_aload_n hx hb dX1_size_23 rfl (lv_at hl 0 rfl) ?_
      refine va_get (D := (dC, dI)) (ci := 1) (v := .ref p1) (C := RX1) (T := TX1) (N := 11) hx hb hts iw hown hK hP 0 rfl rfl 1 (by decide) (hts (.fieldLink RX1 7 "ReelLoomModel" "many" "[I") (by decide +kernel)) (fun _ h9 => h9) rfl dX1_size_24 ?_
      refine lv_iconst (v := nI 2) hx hb dX1_size_27 (by decide) ?_
      refine lv_iload_n hx hb dX1_size_28 rfl (lv_at hl 1 rfl) ?_
      refine lv_imul hx hb dX1_size_29 ?_
      rw [pk_mul]
      refine lv_iload_n hx hb dX1_size_30 rfl (lv_at hl 2 rfl) ?_
      refine lv_if_eq (tgt := 38) hx hb dX1_size_31 (by decide) (fun h31 => ?_) (fun h31 => ?_)
      · skip
        refine lv_iconst (v := nI 0) hx hb dX1_size_38 (by decide) ?_
        refine lv_iadd hx hb dX1_size_39 ?_
        rw [nI_add]
        refine va_iald hx hb hK hP 1 0 rfl rfl (vp_in_nI (by omega) (by omega)) dX1_size_40 ?_
        rw [nI_clamp (show ((2 * so) + 0) < 2 ^ 31 by omega)]
        refine lv_goto (tgt := 45) hx hb dX1_size_41 (by decide) ?_
        exact W.iret (v := (mn (((2 * so) + 0)))) hx hb hr (fun t ht hW => ⟨⟨(mn (((2 * so) + 0))), 0, rfl, Or.inr ⟨so, hso, rfl, rfl, by first | exact (if_pos h31).symm | exact (if_neg h31).symm⟩, by show va_P (dC, dI) vwCl (wM cyI cyZ p0 p1 p2 p3 p4 mn me ml mt 0 wo mr mo mk mz mq) t.heap; rw [ht]; exact hP⟩, hS.F ht⟩) hS.2.2 dX1_size_45
      · skip
        refine lv_iconst (v := nI 1) hx hb dX1_size_34 (by decide) ?_
        refine lv_goto (tgt := 39) hx hb dX1_size_35 (by decide) ?_
        refine lv_iadd hx hb dX1_size_39 ?_
        rw [nI_add]
        refine va_iald hx hb hK hP 1 0 rfl rfl (vp_in_nI (by omega) (by omega)) dX1_size_40 ?_
        rw [nI_clamp (show ((2 * so) + 1) < 2 ^ 31 by omega)]
        refine lv_goto (tgt := 45) hx hb dX1_size_41 (by decide) ?_
        exact W.iret (v := (mn (((2 * so) + 1)))) hx hb hr (fun t ht hW => ⟨⟨(mn (((2 * so) + 1))), 0, rfl, Or.inr ⟨so, hso, rfl, rfl, by first | exact (if_pos h31).symm | exact (if_neg h31).symm⟩, by show va_P (dC, dI) vwCl (wM cyI cyZ p0 p1 p2 p3 p4 mn me ml mt 0 wo mr mo mk mz mq) t.heap; rw [ht]; exact hP⟩, hS.F ht⟩) hS.2.2 dX1_size_45
set_option maxHeartbeats 4000000 in
set_option maxRecDepth 100000 in
theorem k_X1_get (l : Launch) (dC : Nat → ClassId) (dI : Nat → Nat → Nat) (cyI cyZ : ClassId) (H0 : Heap) (p0 p1 p2 p3 p4 : Nat) (mn me ml mt : Nat → Int32) (th wo mr mo mk mz mq : Int32) (hP : va_P (dC, dI) vwCl (wM cyI cyZ p0 p1 p2 p3 p4 mn me ml mt th wo mr mo mk mz mq) H0) (hD0 : va_D (fun _ => True) (wM cyI cyZ p0 p1 p2 p3 p4 mn me ml mt th wo mr mo mk mz mq)) (x : Int32) (y : Int32) (hmn : ∀ k, k < 5 → mn (2 * k) = -1 ∨ ∃ n : Nat, n ≤ 64 ∧ mn (2 * k) = nI n) : Met l yX1_get wsX1_get ({ frames := 1, cells := 0, slots := 0, locals := 23 }) (va_Pc [.ref p0, .int x, .int y] (pK dC dI (tyW cyI cyZ) H0)) (va_Qi (fun (r : Int32) (u : Int32) => match u with | th2 => mG mn x y th2 True (fun so i => r = me (64 * (2 * so) + i))) (fun (u : Int32) (t : State) => match u with | th2 => va_P (dC, dI) vwCl (wM cyI cyZ p0 p1 p2 p3 p4 mn me ml mt th2 wo mr mo mk mz mq) t.heap) (va_A (wM cyI cyZ p0 p1 p2 p3 p4 mn me ml mt th wo mr mo mk mz mq) H0.size)) 0 0 (va_A (wM cyI cyZ p0 p1 p2 p3 p4 mn me ml mt th wo mr mo mk mz mq) H0.size) := by
  refine Met.ofW (cc := cX1_get) (maxL := 3) (ret := (some .int)) (by decide) rfl ?_
  intro p e s m args below meth c s₁ B hml hv
  obtain ⟨rfl, rfl, hK⟩ := hv
  have hx := B.exec
  have hb := B.bytes
  have hr := B.returns
  have hts := atoms_spec (ws := wsX1_get) B.pre
  have hown : s.vm.findClass RX1 = some m.cls := findClass_of_methodNamed B.named
  have hlocks := B.notSynchronized
  have hD := hD0.self (sz := s.heap.size)
  generalize hAe : (va_A (wM cyI cyZ p0 p1 p2 p3 p4 mn me ml mt th wo mr mo mk mz mq) s.heap.size) = A at hD ⊢
  have hA : ∀ q : Nat, s.heap.size ≤ q → A q := fun q h => by rw [← hAe]; exact Or.inr h
  have hS : va_S A s.heap s.heap [] := va_S.rf
  have hl := lv_entry ([.ref p0, .int x, .int y]) (n := 3) (Nat.le_of_ble_eq_true rfl)
  rw [lg_entry_eq]
  generalize (lg_sl ([.ref p0, .int x, .int y]) ++ List.replicate (3 - (lg_sl ([.ref p0, .int x, .int y])).length) Slot.unset).toArray = ls at hl ⊢
  have hl : lv_has ls 3 [(0, .ref p0), (1, .int x), (2, .int y)] := hl
  have iw : ∀ w ∈ wsX10, w ∈ wsX1_get := by decide +kernel
  refine lv_aload_n hx hb dX1_get_0 rfl (lv_at hl 0 rfl) ?_
  refine lv_iload_n hx hb dX1_get_1 rfl (lv_at hl 1 rfl) ?_
  refine gx_calli (va_runS (As := [.int x]) (rest := [.ref p0]) ⟨hx, hb, hml, hown, hts⟩ (k_X1_isSort l dC dI  _   x ) (va_cwS 1 hts gX1_get_X1_isSort rfl rfl rfl (by decide +kernel) ⟨Nat.le_of_ble_eq_true rfl, Nat.le_of_ble_eq_true rfl⟩) (pK_S (hK.sub (tys' := []) [] rfl)) rfl rfl hl.1 rfl (lv_room (Nat.le_of_ble_eq_true rfl)) dX1_get_2 ⟨Nat.le_of_ble_eq_true rfl, Nat.le_of_ble_eq_true rfl⟩) (fun r2 hr2 => ?_)
  refine lv_if_ne (tgt := 12) hx hb dX1_get_5 (by decide) (fun h5 => ?_) (fun h5 => ?_)
  · skip
    have hs := (hr2.resolve_right (fun a => h5 a.1)).2
    obtain ⟨so, hso, rfl⟩ := in_of (n := 5) (by decide) hs.1 hs.2
    refine lv_iconst (v := 0) hx hb dX1_get_12 (by decide) ?_
    refine lv_iload_n hx hb dX1_get_13 rfl (lv_at hl 1 rfl) ?_
    refine gx_calli (va_runS (As := [.int (nI so)]) (rest := [.int 0, .ref p0]) ⟨hx, hb, hml, hown, hts⟩ (k_X1_isSort l dC dI  _   (nI so) ) (va_cwS 1 hts gX1_get_X1_isSort rfl rfl rfl (by decide +kernel) ⟨Nat.le_of_ble_eq_true rfl, Nat.le_of_ble_eq_true rfl⟩) (pK_S (hK.sub (tys' := []) [] rfl)) rfl rfl hl.1 rfl (lv_room (Nat.le_of_ble_eq_true rfl)) dX1_get_14 ⟨Nat.le_of_ble_eq_true rfl, Nat.le_of_ble_eq_true rfl⟩) (fun r14 hr14 => ?_)
    refine lv_if_eq (tgt := 29) hx hb dX1_get_17 (by decide) (fun h17 => ?_) (fun h17 => ?_)
    · skip
      exact absurd hs ((hr14.resolve_left (fun a => absurd (a.1.symm.trans h17) (by decide))).2)
    · skip
      refine lv_aload_n hx hb dX1_get_20 rfl (lv_at hl 0 rfl) ?_
      refine lv_iload_n hx hb dX1_get_21 rfl (lv_at hl 1 rfl) ?_
      refine lv_iload_n hx hb dX1_get_22 rfl (lv_at hl 2 rfl) ?_
      refine gx_calli (va_runV (As := [.int (nI so), .int y]) (rest := [.int 0, .ref p0]) ⟨hx, hb, hml, hown, hts⟩ (k_X1_lacks l dC dI cyI cyZ _ p0 p1 p2 p3 p4 mn me ml mt th wo mr mo mk mz mq hP (hD.weaken (fun _ _ _ _ => trivial)) so y (by omega)) (cwV 2 hts gX1_get_X1_lacks rfl rfl rfl (by decide +kernel) ⟨Nat.le_of_ble_eq_true rfl, Nat.le_of_ble_eq_true rfl⟩) (pK_V hK (va_recv hK hP (ci := 1) (q0 := 0) rfl rfl)) rfl rfl hl.1 rfl (lv_room (Nat.le_of_ble_eq_true rfl)) dX1_get_23 ⟨Nat.le_of_ble_eq_true rfl, Nat.le_of_ble_eq_true rfl⟩) (fun r_5 hr_5 => ?_)
      subst hr_5
      refine lv_goto (tgt := 30) hx hb dX1_get_26 (by decide) ?_
      have hFc := va_free (wc := wM cyI cyZ p0 p1 p2 p3 p4 mn me ml mt th wo mr mo mk mz mq) hD hS hA [0, 1, 2, 3, 4] rfl
      refine va_calli (va_runV (As := [.int 0, .int (lkI (mn (2 * so)) y)]) (rest := []) ⟨hx, hb, hml, hown, hts⟩ (k_X1_refuses l dC dI cyI cyZ _ p0 p1 p2 p3 p4 mn me ml mt th wo mr mo mk mz mq hP (hD.weaken (fun _ _ _ _ => trivial)) 0 (lkI (mn (2 * so)) y) ) (cwV 2 hts gX1_get_X1_refuses rfl rfl rfl (by decide +kernel) ⟨Nat.le_of_ble_eq_true rfl, Nat.le_of_ble_eq_true rfl⟩) (pK_V hK (va_recv hK hP (ci := 1) (q0 := 0) rfl rfl)) rfl rfl hl.1 rfl (lv_room (Nat.le_of_ble_eq_true rfl)) dX1_get_30 ⟨Nat.le_of_ble_eq_true rfl, Nat.le_of_ble_eq_true rfl⟩) hS (fun q _ h => hFc q h) hFc (fun r30 u t H1 locs ht hvm hw hB hz1 hk1 hS => ?_)
      obtain ⟨th30, rfl⟩ : ∃ z, z = u := ⟨_, rfl⟩
      dsimp only at hw
      have hP : va_P (dC, dI) vwCl (wM cyI cyZ p0 p1 p2 p3 p4 mn me ml mt th30 wo mr mo mk mz mq) t.heap := hB
      rw [ht] at hP
      have hD : va_D A (wM cyI cyZ p0 p1 p2 p3 p4 mn me ml mt th30 wo mr mo mk mz mq) := wM_D hD
      clear hB
      generalize H1 = H at hP hS ⊢
      refine lv_if_eq (tgt := 38) hx hb dX1_get_33 (by decide) (fun h33 => ?_) (fun h33 => ?_)
      · skip
        obtain ⟨htt, hm, hcl⟩ := mg_t hw h33
        obtain ⟨i, hi64, rfl⟩ := in_of (n := 64) (by decide) hcl.1 (i_lt hcl.2 (mnB hmn hso))
        refine lv_aload_n hx hb dX1_get_38 rfl (lv_at hl 0 rfl) ?_
        refine va_get (D := (dC, dI)) (ci := 1) (v := .ref p2) (C := RX1) (T := TX1) (N := 11) hx hb hts iw hown hK hP 0 rfl rfl 2 (by decide) (hts (.fieldLink RX1 13 "ReelLoomModel" "cells" "[I") (by decide +kernel)) (fun _ h9 => h9) rfl dX1_get_39 ?_
        refine lv_iload_n hx hb dX1_get_42 rfl (lv_at hl 1 rfl) ?_
        refine lv_iload_n hx hb dX1_get_43 rfl (lv_at hl 2 rfl) ?_
        refine gx_calli (va_runS (As := [.int (nI so), .int (nI i)]) (rest := [.ref p2]) ⟨hx, hb, hml, hown, hts⟩ (k_X1_at l dC dI  _   so i ) (va_cwS 2 hts gX1_get_X1_at rfl rfl rfl (by decide +kernel) ⟨Nat.le_of_ble_eq_true rfl, Nat.le_of_ble_eq_true rfl⟩) (pK_S (hK.sub (tys' := []) [] rfl)) rfl rfl hl.1 rfl (lv_room (Nat.le_of_ble_eq_true rfl)) dX1_get_44 ⟨Nat.le_of_ble_eq_true rfl, Nat.le_of_ble_eq_true rfl⟩) (fun r_8 hr_8 => ?_)
        subst hr_8
        refine va_iald hx hb hK hP 2 0 rfl rfl (vp_in_nI (by omega) (by omega)) dX1_get_47 ?_
        rw [nI_clamp (show (64 * (2 * so) + i) < 2 ^ 31 by omega)]
        exact W.iret (v := (me ((64 * (2 * so) + i)))) hx hb hr (fun t ht hW => ⟨⟨(me ((64 * (2 * so) + i))), th30, rfl, Or.inr ⟨so, hso, rfl, Or.inr (Or.inr ⟨hm, htt, i, hi64, rfl, hcl.2, rfl⟩)⟩, by show va_P (dC, dI) vwCl (wM cyI cyZ p0 p1 p2 p3 p4 mn me ml mt th30 wo mr mo mk mz mq) t.heap; rw [ht]; exact hP⟩, hS.F ht⟩) hS.2.2 dX1_get_48
      · skip
        have htt := mg_f hw h33
        refine lv_iconst (v := 0) hx hb dX1_get_36 (by decide) ?_
        exact W.iret (v := 0) hx hb hr (fun t ht hW => ⟨⟨0, th30, rfl, Or.inr ⟨so, hso, rfl, htt.elim (fun a => Or.inl ⟨a.1, a.2, trivial⟩) (fun a => Or.inr (Or.inl ⟨a.1, a.2.1, a.2.2, trivial⟩))⟩, by show va_P (dC, dI) vwCl (wM cyI cyZ p0 p1 p2 p3 p4 mn me ml mt th30 wo mr mo mk mz mq) t.heap; rw [ht]; exact hP⟩, hS.F ht⟩) hS.2.2 dX1_get_37
  · skip
    have hs := (hr2.resolve_left (fun a => absurd (a.1.symm.trans h5) (by decide))).2
    refine lv_iconst (v := 1) hx hb dX1_get_8 (by decide) ?_
    refine lv_goto (tgt := 13) hx hb dX1_get_9 (by decide) ?_
    refine lv_iload_n hx hb dX1_get_13 rfl (lv_at hl 1 rfl) ?_
    refine gx_calli (va_runS (As := [.int x]) (rest := [.int 1, .ref p0]) ⟨hx, hb, hml, hown, hts⟩ (k_X1_isSort l dC dI  _   x ) (va_cwS 1 hts gX1_get_X1_isSort rfl rfl rfl (by decide +kernel) ⟨Nat.le_of_ble_eq_true rfl, Nat.le_of_ble_eq_true rfl⟩) (pK_S (hK.sub (tys' := []) [] rfl)) rfl rfl hl.1 rfl (lv_room (Nat.le_of_ble_eq_true rfl)) dX1_get_14 ⟨Nat.le_of_ble_eq_true rfl, Nat.le_of_ble_eq_true rfl⟩) (fun r14 hr14 => ?_)
    refine lv_if_eq (tgt := 29) hx hb dX1_get_17 (by decide) (fun h17 => ?_) (fun h17 => ?_)
    · skip
      refine lv_iconst (v := 0) hx hb dX1_get_29 (by decide) ?_
      have hFc := va_free (wc := wM cyI cyZ p0 p1 p2 p3 p4 mn me ml mt th wo mr mo mk mz mq) hD hS hA [0, 1, 2, 3, 4] rfl
      refine va_calli (va_runV (As := [.int 1, .int 0]) (rest := []) ⟨hx, hb, hml, hown, hts⟩ (k_X1_refuses l dC dI cyI cyZ _ p0 p1 p2 p3 p4 mn me ml mt th wo mr mo mk mz mq hP (hD.weaken (fun _ _ _ _ => trivial)) 1 0 ) (cwV 2 hts gX1_get_X1_refuses rfl rfl rfl (by decide +kernel) ⟨Nat.le_of_ble_eq_true rfl, Nat.le_of_ble_eq_true rfl⟩) (pK_V hK (va_recv hK hP (ci := 1) (q0 := 0) rfl rfl)) rfl rfl hl.1 rfl (lv_room (Nat.le_of_ble_eq_true rfl)) dX1_get_30 ⟨Nat.le_of_ble_eq_true rfl, Nat.le_of_ble_eq_true rfl⟩) hS (fun q _ h => hFc q h) hFc (fun r30 u t H1 locs ht hvm hw hB hz1 hk1 hS => ?_)
      obtain ⟨th30, rfl⟩ : ∃ z, z = u := ⟨_, rfl⟩
      dsimp only at hw
      have hP : va_P (dC, dI) vwCl (wM cyI cyZ p0 p1 p2 p3 p4 mn me ml mt th30 wo mr mo mk mz mq) t.heap := hB
      rw [ht] at hP
      have hD : va_D A (wM cyI cyZ p0 p1 p2 p3 p4 mn me ml mt th30 wo mr mo mk mz mq) := wM_D hD
      clear hB
      generalize H1 = H at hP hS ⊢
      refine lv_if_eq (tgt := 38) hx hb dX1_get_33 (by decide) (fun h33 => ?_) (fun h33 => ?_)
      · skip
        exact absurd ((mg_b hw).2.symm.trans h33) (by decide)
      · skip
        have htt := (mg_b hw).1
        refine lv_iconst (v := 0) hx hb dX1_get_36 (by decide) ?_
        exact W.iret (v := 0) hx hb hr (fun t ht hW => ⟨⟨0, th30, rfl, Or.inl ⟨hs, htt, trivial⟩, by show va_P (dC, dI) vwCl (wM cyI cyZ p0 p1 p2 p3 p4 mn me ml mt th30 wo mr mo mk mz mq) t.heap; rw [ht]; exact hP⟩, hS.F ht⟩) hS.2.2 dX1_get_37
    · skip
      exact absurd ((hr14.resolve_right (fun a => h17 a.1)).2) hs
set_option maxHeartbeats 4000000 in
set_option maxRecDepth 100000 in
theorem k_X1_set (l : Launch) (dC : Nat → ClassId) (dI : Nat → Nat → Nat) (cyI cyZ : ClassId) (H0 : Heap) (p0 p1 p2 p3 p4 : Nat) (mn me ml mt : Nat → Int32) (th wo mr mo mk mz mq : Int32) (hP : va_P (dC, dI) vwCl (wM cyI cyZ p0 p1 p2 p3 p4 mn me ml mt th wo mr mo mk mz mq) H0) (hD0 : va_D (fun _ => True) (wM cyI cyZ p0 p1 p2 p3 p4 mn me ml mt th wo mr mo mk mz mq)) (x : Int32) (y : Int32) (v : Int32) (hmn : ∀ k, k < 5 → mn (2 * k) = -1 ∨ ∃ n : Nat, n ≤ 64 ∧ mn (2 * k) = nI n) : Met l yX1_set wsX1_set ({ frames := 3, cells := 0, slots := 0, locals := 66 }) (va_Pc [.ref p0, .int x, .int y, .int v] (pK dC dI (tyW cyI cyZ) H0)) (va_Qi (fun (r : Int32) (u : Int32 × (Nat → Int32)) => match u with | (th2, me2) => mG mn x y th2 (me2 = me) (fun so i => r = ft so v ∧ me2 = upd me (64 * (2 * so) + i) (ft so v))) (fun (u : Int32 × (Nat → Int32)) (t : State) => match u with | (th2, me2) => va_P (dC, dI) vwCl (wM cyI cyZ p0 p1 p2 p3 p4 mn me2 ml mt th2 wo mr mo mk mz mq) t.heap) (va_A (wM cyI cyZ p0 p1 p2 p3 p4 mn me ml mt th wo mr mo mk mz mq) H0.size)) 0 0 (va_A (wM cyI cyZ p0 p1 p2 p3 p4 mn me ml mt th wo mr mo mk mz mq) H0.size) := by
  refine Met.ofW (cc := cX1_set) (maxL := 4) (ret := (some .int)) (by decide) rfl ?_
  intro p e s m args below meth c s₁ B hml hv
  obtain ⟨rfl, rfl, hK⟩ := hv
  have hx := B.exec
  have hb := B.bytes
  have hr := B.returns
  have hts := atoms_spec (ws := wsX1_set) B.pre
  have hown : s.vm.findClass RX1 = some m.cls := findClass_of_methodNamed B.named
  have hlocks := B.notSynchronized
  have hD := hD0.self (sz := s.heap.size)
  generalize hAe : (va_A (wM cyI cyZ p0 p1 p2 p3 p4 mn me ml mt th wo mr mo mk mz mq) s.heap.size) = A at hD ⊢
  have hA : ∀ q : Nat, s.heap.size ≤ q → A q := fun q h => by rw [← hAe]; exact Or.inr h
  have hS : va_S A s.heap s.heap [] := va_S.rf
  have hl := lv_entry ([.ref p0, .int x, .int y, .int v]) (n := 4) (Nat.le_of_ble_eq_true rfl)
  rw [lg_entry_eq]
  generalize (lg_sl ([.ref p0, .int x, .int y, .int v]) ++ List.replicate (4 - (lg_sl ([.ref p0, .int x, .int y, .int v])).length) Slot.unset).toArray = ls at hl ⊢
  have hl : lv_has ls 4 [(0, .ref p0), (1, .int x), (2, .int y), (3, .int v)] := hl
  refine lv_aload_n hx hb dX1_set_0 rfl (lv_at hl 0 rfl) ?_
  refine lv_iload_n hx hb dX1_set_1 rfl (lv_at hl 1 rfl) ?_
  refine gx_calli (va_runS (As := [.int x]) (rest := [.ref p0]) ⟨hx, hb, hml, hown, hts⟩ (k_X1_isSort l dC dI  _   x ) (va_cwS 1 hts gX1_set_X1_isSort rfl rfl rfl (by decide +kernel) ⟨Nat.le_of_ble_eq_true rfl, Nat.le_of_ble_eq_true rfl⟩) (pK_S (hK.sub (tys' := []) [] rfl)) rfl rfl hl.1 rfl (lv_room (Nat.le_of_ble_eq_true rfl)) dX1_set_2 ⟨Nat.le_of_ble_eq_true rfl, Nat.le_of_ble_eq_true rfl⟩) (fun r2 hr2 => ?_)
  refine lv_if_ne (tgt := 12) hx hb dX1_set_5 (by decide) (fun h5 => ?_) (fun h5 => ?_)
  · skip
    have hs := (hr2.resolve_right (fun a => h5 a.1)).2
    obtain ⟨so, hso, rfl⟩ := in_of (n := 5) (by decide) hs.1 hs.2
    refine lv_iconst (v := 0) hx hb dX1_set_12 (by decide) ?_
    refine lv_iload_n hx hb dX1_set_13 rfl (lv_at hl 1 rfl) ?_
    refine gx_calli (va_runS (As := [.int (nI so)]) (rest := [.int 0, .ref p0]) ⟨hx, hb, hml, hown, hts⟩ (k_X1_isSort l dC dI  _   (nI so) ) (va_cwS 1 hts gX1_set_X1_isSort rfl rfl rfl (by decide +kernel) ⟨Nat.le_of_ble_eq_true rfl, Nat.le_of_ble_eq_true rfl⟩) (pK_S (hK.sub (tys' := []) [] rfl)) rfl rfl hl.1 rfl (lv_room (Nat.le_of_ble_eq_true rfl)) dX1_set_14 ⟨Nat.le_of_ble_eq_true rfl, Nat.le_of_ble_eq_true rfl⟩) (fun r14 hr14 => ?_)
    refine lv_if_eq (tgt := 29) hx hb dX1_set_17 (by decide) (fun h17 => ?_) (fun h17 => ?_)
    · skip
      exact absurd hs ((hr14.resolve_left (fun a => absurd (a.1.symm.trans h17) (by decide))).2)
    · skip
      refine lv_aload_n hx hb dX1_set_20 rfl (lv_at hl 0 rfl) ?_
      refine lv_iload_n hx hb dX1_set_21 rfl (lv_at hl 1 rfl) ?_
      refine lv_iload_n hx hb dX1_set_22 rfl (lv_at hl 2 rfl) ?_
      refine gx_calli (va_runV (As := [.int (nI so), .int y]) (rest := [.int 0, .ref p0]) ⟨hx, hb, hml, hown, hts⟩ (k_X1_lacks l dC dI cyI cyZ _ p0 p1 p2 p3 p4 mn me ml mt th wo mr mo mk mz mq hP (hD.weaken (fun _ _ _ _ => trivial)) so y (by omega)) (cwV 2 hts gX1_set_X1_lacks rfl rfl rfl (by decide +kernel) ⟨Nat.le_of_ble_eq_true rfl, Nat.le_of_ble_eq_true rfl⟩) (pK_V hK (va_recv hK hP (ci := 1) (q0 := 0) rfl rfl)) rfl rfl hl.1 rfl (lv_room (Nat.le_of_ble_eq_true rfl)) dX1_set_23 ⟨Nat.le_of_ble_eq_true rfl, Nat.le_of_ble_eq_true rfl⟩) (fun r_5 hr_5 => ?_)
      subst hr_5
      refine lv_goto (tgt := 30) hx hb dX1_set_26 (by decide) ?_
      have hFc := va_free (wc := wM cyI cyZ p0 p1 p2 p3 p4 mn me ml mt th wo mr mo mk mz mq) hD hS hA [0, 1, 2, 3, 4] rfl
      refine va_calli (va_runV (As := [.int 0, .int (lkI (mn (2 * so)) y)]) (rest := []) ⟨hx, hb, hml, hown, hts⟩ (k_X1_refuses l dC dI cyI cyZ _ p0 p1 p2 p3 p4 mn me ml mt th wo mr mo mk mz mq hP (hD.weaken (fun _ _ _ _ => trivial)) 0 (lkI (mn (2 * so)) y) ) (cwV 2 hts gX1_set_X1_refuses rfl rfl rfl (by decide +kernel) ⟨Nat.le_of_ble_eq_true rfl, Nat.le_of_ble_eq_true rfl⟩) (pK_V hK (va_recv hK hP (ci := 1) (q0 := 0) rfl rfl)) rfl rfl hl.1 rfl (lv_room (Nat.le_of_ble_eq_true rfl)) dX1_set_30 ⟨Nat.le_of_ble_eq_true rfl, Nat.le_of_ble_eq_true rfl⟩) hS (fun q _ h => hFc q h) hFc (fun r30 u t H1 locs ht hvm hw hB hz1 hk1 hS => ?_)
      obtain ⟨th30, rfl⟩ : ∃ z, z = u := ⟨_, rfl⟩
      dsimp only at hw
      have hP : va_P (dC, dI) vwCl (wM cyI cyZ p0 p1 p2 p3 p4 mn me ml mt th30 wo mr mo mk mz mq) t.heap := hB
      rw [ht] at hP
      have hD : va_D A (wM cyI cyZ p0 p1 p2 p3 p4 mn me ml mt th30 wo mr mo mk mz mq) := wM_D hD
      clear hB
      generalize H1 = H at hP hS ⊢
      refine lv_if_eq (tgt := 38) hx hb dX1_set_33 (by decide) (fun h33 => ?_) (fun h33 => ?_)
      · skip
        obtain ⟨htt, hm, hcl⟩ := mg_t hw h33
        obtain ⟨i, hi64, rfl⟩ := in_of (n := 64) (by decide) hcl.1 (i_lt hcl.2 (mnB hmn hso))
        refine lv_aload_n hx hb dX1_set_38 rfl (lv_at hl 0 rfl) ?_
        refine lv_iload_n hx hb dX1_set_39 rfl (lv_at hl 1 rfl) ?_
        refine lv_iload_n hx hb dX1_set_40 rfl (lv_at hl 2 rfl) ?_
        refine lv_iload_n hx hb dX1_set_41 rfl (lv_at hl 3 rfl) ?_
        have hFc := va_free (wc := wM cyI cyZ p0 p1 p2 p3 p4 mn me ml mt th30 wo mr mo mk mz mq) hD hS hA [0, 1, 2, 3, 4] rfl
        refine va_calli (va_runV (As := [.int (nI so), .int (nI i), .int v]) (rest := []) ⟨hx, hb, hml, hown, hts⟩ (k_X1_put l dC dI cyI cyZ _ p0 p1 p2 p3 p4 mn me ml mt th30 wo mr mo mk mz mq hP (hD.weaken (fun _ _ _ _ => trivial)) so i v (by omega) (by omega)) (cwV 3 hts gX1_set_X1_put rfl rfl rfl (by decide +kernel) ⟨Nat.le_of_ble_eq_true rfl, Nat.le_of_ble_eq_true rfl⟩) (pK_V hK (va_recv hK hP (ci := 1) (q0 := 0) rfl rfl)) rfl rfl hl.1 rfl (lv_room (Nat.le_of_ble_eq_true rfl)) dX1_set_42 ⟨Nat.le_of_ble_eq_true rfl, Nat.le_of_ble_eq_true rfl⟩) hS (fun q _ h => hFc q h) hFc (fun r42 u t H1 locs ht hvm hw hB hz1 hk1 hS => ?_)
        have hP : va_P (dC, dI) vwCl (wM cyI cyZ p0 p1 p2 p3 p4 mn (upd me (64 * (2 * so) + i) (ft so v)) ml mt th30 wo mr mo mk mz mq) t.heap := hB
        rw [ht] at hP
        have hD : va_D A (wM cyI cyZ p0 p1 p2 p3 p4 mn (upd me (64 * (2 * so) + i) (ft so v)) ml mt th30 wo mr mo mk mz mq) := wM_D hD
        clear hB
        generalize H1 = H at hP hS ⊢
        exact W.iret (v := r42) hx hb hr (fun t ht hW => ⟨⟨r42, (th30, upd me (64 * (2 * so) + i) (ft so v)), rfl, Or.inr ⟨so, hso, rfl, Or.inr (Or.inr ⟨hm, htt, i, hi64, rfl, hcl.2, hw, rfl⟩)⟩, by show va_P (dC, dI) vwCl (wM cyI cyZ p0 p1 p2 p3 p4 mn (upd me (64 * (2 * so) + i) (ft so v)) ml mt th30 wo mr mo mk mz mq) t.heap; rw [ht]; exact hP⟩, hS.F ht⟩) hS.2.2 dX1_set_45
      · skip
        have htt := mg_f hw h33
        refine lv_iconst (v := 0) hx hb dX1_set_36 (by decide) ?_
        exact W.iret (v := 0) hx hb hr (fun t ht hW => ⟨⟨0, (th30, me), rfl, Or.inr ⟨so, hso, rfl, htt.elim (fun a => Or.inl ⟨a.1, a.2, rfl⟩) (fun a => Or.inr (Or.inl ⟨a.1, a.2.1, a.2.2, rfl⟩))⟩, by show va_P (dC, dI) vwCl (wM cyI cyZ p0 p1 p2 p3 p4 mn me ml mt th30 wo mr mo mk mz mq) t.heap; rw [ht]; exact hP⟩, hS.F ht⟩) hS.2.2 dX1_set_37
  · skip
    have hs := (hr2.resolve_left (fun a => absurd (a.1.symm.trans h5) (by decide))).2
    refine lv_iconst (v := 1) hx hb dX1_set_8 (by decide) ?_
    refine lv_goto (tgt := 13) hx hb dX1_set_9 (by decide) ?_
    refine lv_iload_n hx hb dX1_set_13 rfl (lv_at hl 1 rfl) ?_
    refine gx_calli (va_runS (As := [.int x]) (rest := [.int 1, .ref p0]) ⟨hx, hb, hml, hown, hts⟩ (k_X1_isSort l dC dI  _   x ) (va_cwS 1 hts gX1_set_X1_isSort rfl rfl rfl (by decide +kernel) ⟨Nat.le_of_ble_eq_true rfl, Nat.le_of_ble_eq_true rfl⟩) (pK_S (hK.sub (tys' := []) [] rfl)) rfl rfl hl.1 rfl (lv_room (Nat.le_of_ble_eq_true rfl)) dX1_set_14 ⟨Nat.le_of_ble_eq_true rfl, Nat.le_of_ble_eq_true rfl⟩) (fun r14 hr14 => ?_)
    refine lv_if_eq (tgt := 29) hx hb dX1_set_17 (by decide) (fun h17 => ?_) (fun h17 => ?_)
    · skip
      refine lv_iconst (v := 0) hx hb dX1_set_29 (by decide) ?_
      have hFc := va_free (wc := wM cyI cyZ p0 p1 p2 p3 p4 mn me ml mt th wo mr mo mk mz mq) hD hS hA [0, 1, 2, 3, 4] rfl
      refine va_calli (va_runV (As := [.int 1, .int 0]) (rest := []) ⟨hx, hb, hml, hown, hts⟩ (k_X1_refuses l dC dI cyI cyZ _ p0 p1 p2 p3 p4 mn me ml mt th wo mr mo mk mz mq hP (hD.weaken (fun _ _ _ _ => trivial)) 1 0 ) (cwV 2 hts gX1_set_X1_refuses rfl rfl rfl (by decide +kernel) ⟨Nat.le_of_ble_eq_true rfl, Nat.le_of_ble_eq_true rfl⟩) (pK_V hK (va_recv hK hP (ci := 1) (q0 := 0) rfl rfl)) rfl rfl hl.1 rfl (lv_room (Nat.le_of_ble_eq_true rfl)) dX1_set_30 ⟨Nat.le_of_ble_eq_true rfl, Nat.le_of_ble_eq_true rfl⟩) hS (fun q _ h => hFc q h) hFc (fun r30 u t H1 locs ht hvm hw hB hz1 hk1 hS => ?_)
      obtain ⟨th30, rfl⟩ : ∃ z, z = u := ⟨_, rfl⟩
      dsimp only at hw
      have hP : va_P (dC, dI) vwCl (wM cyI cyZ p0 p1 p2 p3 p4 mn me ml mt th30 wo mr mo mk mz mq) t.heap := hB
      rw [ht] at hP
      have hD : va_D A (wM cyI cyZ p0 p1 p2 p3 p4 mn me ml mt th30 wo mr mo mk mz mq) := wM_D hD
      clear hB
      generalize H1 = H at hP hS ⊢
      refine lv_if_eq (tgt := 38) hx hb dX1_set_33 (by decide) (fun h33 => ?_) (fun h33 => ?_)
      · skip
        exact absurd ((mg_b hw).2.symm.trans h33) (by decide)
      · skip
        have htt := (mg_b hw).1
        refine lv_iconst (v := 0) hx hb dX1_set_36 (by decide) ?_
        exact W.iret (v := 0) hx hb hr (fun t ht hW => ⟨⟨0, (th30, me), rfl, Or.inl ⟨hs, htt, rfl⟩, by show va_P (dC, dI) vwCl (wM cyI cyZ p0 p1 p2 p3 p4 mn me ml mt th30 wo mr mo mk mz mq) t.heap; rw [ht]; exact hP⟩, hS.F ht⟩) hS.2.2 dX1_set_37
    · skip
      exact absurd ((hr14.resolve_right (fun a => h17 a.1)).2) hs
set_option maxHeartbeats 4000000 in
set_option maxRecDepth 100000 in
theorem k_X1_alter (l : Launch) (dC : Nat → ClassId) (dI : Nat → Nat → Nat) (cyI cyZ : ClassId) (H0 : Heap) (p0 p1 p2 p3 p4 : Nat) (mn me ml mt : Nat → Int32) (th wo mr mo mk mz mq : Int32) (hP : va_P (dC, dI) vwCl (wM cyI cyZ p0 p1 p2 p3 p4 mn me ml mt th wo mr mo mk mz mq) H0) (hD0 : va_D (fun _ => True) (wM cyI cyZ p0 p1 p2 p3 p4 mn me ml mt th wo mr mo mk mz mq)) (x : Int32) (y : Int32) (h : Int32) (v : Int32) (hmn : ∀ k, k < 5 → mn (2 * k) = -1 ∨ ∃ n : Nat, n ≤ 64 ∧ mn (2 * k) = nI n) : Met l yX1_alter wsX1_alter ({ frames := 3, cells := 0, slots := 0, locals := 66 }) (va_Pc [.ref p0, .int x, .int y, .int h, .int v] (pK dC dI (tyW cyI cyZ) H0)) (va_Qi (fun (r : Int32) (u : Int32 × (Nat → Int32)) => match u with | (th2, me2) => mA mn x y h v th2 (me2 = me) (fun so i => r = ft so (cb (me (64 * (2 * so) + i)) h (opd so v)) ∧ me2 = upd me (64 * (2 * so) + i) (ft so (cb (me (64 * (2 * so) + i)) h (opd so v))))) (fun (u : Int32 × (Nat → Int32)) (t : State) => match u with | (th2, me2) => va_P (dC, dI) vwCl (wM cyI cyZ p0 p1 p2 p3 p4 mn me2 ml mt th2 wo mr mo mk mz mq) t.heap) (va_A (wM cyI cyZ p0 p1 p2 p3 p4 mn me ml mt th wo mr mo mk mz mq) H0.size)) 0 0 (va_A (wM cyI cyZ p0 p1 p2 p3 p4 mn me ml mt th wo mr mo mk mz mq) H0.size) := by
  refine Met.ofW (cc := cX1_alter) (maxL := 6) (ret := (some .int)) (by decide) rfl ?_
  intro p e s m args below meth c s₁ B hml hv
  obtain ⟨rfl, rfl, hK⟩ := hv
  have hx := B.exec
  have hb := B.bytes
  have hr := B.returns
  have hts := atoms_spec (ws := wsX1_alter) B.pre
  have hown : s.vm.findClass RX1 = some m.cls := findClass_of_methodNamed B.named
  have hlocks := B.notSynchronized
  have hD := hD0.self (sz := s.heap.size)
  generalize hAe : (va_A (wM cyI cyZ p0 p1 p2 p3 p4 mn me ml mt th wo mr mo mk mz mq) s.heap.size) = A at hD ⊢
  have hA : ∀ q : Nat, s.heap.size ≤ q → A q := fun q h => by rw [← hAe]; exact Or.inr h
  have hS : va_S A s.heap s.heap [] := va_S.rf
  have hl := lv_entry ([.ref p0, .int x, .int y, .int h, .int v]) (n := 6) (Nat.le_of_ble_eq_true rfl)
  rw [lg_entry_eq]
  generalize (lg_sl ([.ref p0, .int x, .int y, .int h, .int v]) ++ List.replicate (6 - (lg_sl ([.ref p0, .int x, .int y, .int h, .int v])).length) Slot.unset).toArray = ls at hl ⊢
  have hl : lv_has ls 6 [(0, .ref p0), (1, .int x), (2, .int y), (3, .int h), (4, .int v)] := hl
  have iw : ∀ w ∈ wsX10, w ∈ wsX1_alter := by decide +kernel
  refine lv_aload_n hx hb dX1_alter_0 rfl (lv_at hl 0 rfl) ?_
  refine lv_iload_n hx hb dX1_alter_1 rfl (lv_at hl 1 rfl) ?_
  refine lv_iload_n hx hb dX1_alter_2 rfl (lv_at hl 3 rfl) ?_
  refine lv_iload hx hb dX1_alter_3 (lv_at hl 4 rfl) ?_
  refine gx_calli (va_runS (As := [.int x, .int h, .int v]) (rest := [.ref p0]) ⟨hx, hb, hml, hown, hts⟩ (k_X1_mayAlter l dC dI  _   x h v ) (va_cwS 3 hts gX1_alter_X1_mayAlter rfl rfl rfl (by decide +kernel) ⟨Nat.le_of_ble_eq_true rfl, Nat.le_of_ble_eq_true rfl⟩) (pK_S (hK.sub (tys' := []) [] rfl)) rfl rfl hl.1 rfl (lv_room (Nat.le_of_ble_eq_true rfl)) dX1_alter_5 ⟨Nat.le_of_ble_eq_true rfl, Nat.le_of_ble_eq_true rfl⟩) (fun r5 hr5 => ?_)
  refine lv_if_ne (tgt := 15) hx hb dX1_alter_8 (by decide) (fun h8 => ?_) (fun h8 => ?_)
  · skip
    obtain ⟨so, hso, rfl, hal⟩ := (hr5.resolve_right (fun a => h8 a.1)).2
    refine lv_iconst (v := 0) hx hb dX1_alter_15 (by decide) ?_
    refine lv_iload_n hx hb dX1_alter_16 rfl (lv_at hl 1 rfl) ?_
    refine gx_calli (va_runS (As := [.int (nI so)]) (rest := [.int 0, .ref p0]) ⟨hx, hb, hml, hown, hts⟩ (k_X1_isSort l dC dI  _   (nI so) ) (va_cwS 1 hts gX1_alter_X1_isSort rfl rfl rfl (by decide +kernel) ⟨Nat.le_of_ble_eq_true rfl, Nat.le_of_ble_eq_true rfl⟩) (pK_S (hK.sub (tys' := []) [] rfl)) rfl rfl hl.1 rfl (lv_room (Nat.le_of_ble_eq_true rfl)) dX1_alter_17 ⟨Nat.le_of_ble_eq_true rfl, Nat.le_of_ble_eq_true rfl⟩) (fun r17 hr17 => ?_)
    refine lv_if_eq (tgt := 32) hx hb dX1_alter_20 (by decide) (fun h20 => ?_) (fun h20 => ?_)
    · skip
      exact absurd ⟨nI_pos (by omega), nI_lt hso (by decide)⟩ ((hr17.resolve_left (fun a => absurd (a.1.symm.trans h20) (by decide))).2)
    · skip
      refine lv_aload_n hx hb dX1_alter_23 rfl (lv_at hl 0 rfl) ?_
      refine lv_iload_n hx hb dX1_alter_24 rfl (lv_at hl 1 rfl) ?_
      refine lv_iload_n hx hb dX1_alter_25 rfl (lv_at hl 2 rfl) ?_
      refine gx_calli (va_runV (As := [.int (nI so), .int y]) (rest := [.int 0, .ref p0]) ⟨hx, hb, hml, hown, hts⟩ (k_X1_lacks l dC dI cyI cyZ _ p0 p1 p2 p3 p4 mn me ml mt th wo mr mo mk mz mq hP (hD.weaken (fun _ _ _ _ => trivial)) so y (by omega)) (cwV 2 hts gX1_alter_X1_lacks rfl rfl rfl (by decide +kernel) ⟨Nat.le_of_ble_eq_true rfl, Nat.le_of_ble_eq_true rfl⟩) (pK_V hK (va_recv hK hP (ci := 1) (q0 := 0) rfl rfl)) rfl rfl hl.1 rfl (lv_room (Nat.le_of_ble_eq_true rfl)) dX1_alter_26 ⟨Nat.le_of_ble_eq_true rfl, Nat.le_of_ble_eq_true rfl⟩) (fun r_5 hr_5 => ?_)
      subst hr_5
      refine lv_goto (tgt := 33) hx hb dX1_alter_29 (by decide) ?_
      have hFc := va_free (wc := wM cyI cyZ p0 p1 p2 p3 p4 mn me ml mt th wo mr mo mk mz mq) hD hS hA [0, 1, 2, 3, 4] rfl
      refine va_calli (va_runV (As := [.int 0, .int (lkI (mn (2 * so)) y)]) (rest := []) ⟨hx, hb, hml, hown, hts⟩ (k_X1_refuses l dC dI cyI cyZ _ p0 p1 p2 p3 p4 mn me ml mt th wo mr mo mk mz mq hP (hD.weaken (fun _ _ _ _ => trivial)) 0 (lkI (mn (2 * so)) y) ) (cwV 2 hts gX1_alter_X1_refuses rfl rfl rfl (by decide +kernel) ⟨Nat.le_of_ble_eq_true rfl, Nat.le_of_ble_eq_true rfl⟩) (pK_V hK (va_recv hK hP (ci := 1) (q0 := 0) rfl rfl)) rfl rfl hl.1 rfl (lv_room (Nat.le_of_ble_eq_true rfl)) dX1_alter_33 ⟨Nat.le_of_ble_eq_true rfl, Nat.le_of_ble_eq_true rfl⟩) hS (fun q _ h => hFc q h) hFc (fun r33 u t H1 locs ht hvm hw hB hz1 hk1 hS => ?_)
      obtain ⟨th33, rfl⟩ : ∃ z, z = u := ⟨_, rfl⟩
      dsimp only at hw
      have hP : va_P (dC, dI) vwCl (wM cyI cyZ p0 p1 p2 p3 p4 mn me ml mt th33 wo mr mo mk mz mq) t.heap := hB
      rw [ht] at hP
      have hD : va_D A (wM cyI cyZ p0 p1 p2 p3 p4 mn me ml mt th33 wo mr mo mk mz mq) := wM_D hD
      clear hB
      generalize H1 = H at hP hS ⊢
      refine lv_if_eq (tgt := 41) hx hb dX1_alter_36 (by decide) (fun h36 => ?_) (fun h36 => ?_)
      · skip
        obtain ⟨htt, hm, hcl⟩ := mg_t hw h36
        obtain ⟨i, hi64, rfl⟩ := in_of (n := 64) (by decide) hcl.1 (i_lt hcl.2 (mnB hmn hso))
        refine lv_iload_n hx hb dX1_alter_41 rfl (lv_at hl 1 rfl) ?_
        refine lv_iconst (v := nI 3) hx hb dX1_alter_42 (by decide) ?_
        refine lv_icmp_ne (tgt := 55) hx hb dX1_alter_43 (by decide) (fun h43 => ?_) (fun h43 => ?_)
        · skip
          rw [nI_eq (by omega) (by omega)] at h43
          refine lv_iload hx hb dX1_alter_55 (lv_at hl 4 rfl) ?_
          refine lv_topi (fun y9 ey9 => ?_)
          have ey9 : y9 = opd so v := by unfold opd; first | rw [if_pos h43]; exact ey9 | rw [if_neg h43]; exact ey9
          subst ey9
          refine lv_istore (lv' := [(5, .int (opd so v)), (0, .ref p0), (1, .int (nI so)), (2, .int (nI i)), (3, .int h), (4, .int v)]) hx hb dX1_alter_57 hl (by decide) rfl (fun ls hl => ?_)
          refine lv_aload_n hx hb dX1_alter_59 rfl (lv_at hl 1 rfl) ?_
          refine lv_iload_n hx hb dX1_alter_60 rfl (lv_at hl 2 rfl) ?_
          refine lv_iload_n hx hb dX1_alter_61 rfl (lv_at hl 3 rfl) ?_
          refine lv_aload_n hx hb dX1_alter_62 rfl (lv_at hl 1 rfl) ?_
          refine va_get (D := (dC, dI)) (ci := 1) (v := .ref p2) (C := RX1) (T := TX1) (N := 11) hx hb hts iw hown hK hP 0 rfl rfl 2 (by decide) (hts (.fieldLink RX1 13 "ReelLoomModel" "cells" "[I") (by decide +kernel)) (fun _ h9 => h9) rfl dX1_alter_63 ?_
          refine lv_iload_n hx hb dX1_alter_66 rfl (lv_at hl 2 rfl) ?_
          refine lv_iload_n hx hb dX1_alter_67 rfl (lv_at hl 3 rfl) ?_
          refine gx_calli (va_runS (As := [.int (nI so), .int (nI i)]) (rest := [.ref p2, .int (nI i), .int (nI so), .ref p0]) ⟨hx, hb, hml, hown, hts⟩ (k_X1_at l dC dI  _   so i ) (va_cwS 2 hts gX1_alter_X1_at rfl rfl rfl (by decide +kernel) ⟨Nat.le_of_ble_eq_true rfl, Nat.le_of_ble_eq_true rfl⟩) (pK_S (hK.sub (tys' := []) [] rfl)) rfl rfl hl.1 rfl (lv_room (Nat.le_of_ble_eq_true rfl)) dX1_alter_68 ⟨Nat.le_of_ble_eq_true rfl, Nat.le_of_ble_eq_true rfl⟩) (fun r_9 hr_9 => ?_)
          subst hr_9
          refine va_iald hx hb hK hP 2 0 rfl rfl (vp_in_nI (by omega) (by omega)) dX1_alter_71 ?_
          rw [nI_clamp (show (64 * (2 * so) + i) < 2 ^ 31 by omega)]
          refine lv_iload_n hx hb dX1_alter_72 rfl (lv_at hl 4 rfl) ?_
          refine lv_iload hx hb dX1_alter_73 (lv_at hl 0 rfl) ?_
          refine gx_calli (va_runS (As := [.int (me ((64 * (2 * so) + i))), .int h, .int (opd so v)]) (rest := [.int (nI i), .int (nI so), .ref p0]) ⟨hx, hb, hml, hown, hts⟩ (k_X1_altered l dC dI  _   (me ((64 * (2 * so) + i))) h (opd so v) ) (va_cwS 3 hts gX1_alter_X1_altered rfl rfl rfl (by decide +kernel) ⟨Nat.le_of_ble_eq_true rfl, Nat.le_of_ble_eq_true rfl⟩) (pK_S (hK.sub (tys' := []) [] rfl)) rfl rfl hl.1 rfl (lv_room (Nat.le_of_ble_eq_true rfl)) dX1_alter_75 ⟨Nat.le_of_ble_eq_true rfl, Nat.le_of_ble_eq_true rfl⟩) (fun r_10 hr_10 => ?_)
          subst hr_10
          have hFc := va_free (wc := wM cyI cyZ p0 p1 p2 p3 p4 mn me ml mt th33 wo mr mo mk mz mq) hD hS hA [0, 1, 2, 3, 4] rfl
          refine va_calli (va_runV (As := [.int (nI so), .int (nI i), .int (cb ((me ((64 * (2 * so) + i)))) h ((opd so v)))]) (rest := []) ⟨hx, hb, hml, hown, hts⟩ (k_X1_put l dC dI cyI cyZ _ p0 p1 p2 p3 p4 mn me ml mt th33 wo mr mo mk mz mq hP (hD.weaken (fun _ _ _ _ => trivial)) so i (cb ((me ((64 * (2 * so) + i)))) h ((opd so v))) (by omega) (by omega)) (cwV 3 hts gX1_alter_X1_put rfl rfl rfl (by decide +kernel) ⟨Nat.le_of_ble_eq_true rfl, Nat.le_of_ble_eq_true rfl⟩) (pK_V hK (va_recv hK hP (ci := 1) (q0 := 0) rfl rfl)) rfl rfl hl.1 rfl (lv_room (Nat.le_of_ble_eq_true rfl)) dX1_alter_78 ⟨Nat.le_of_ble_eq_true rfl, Nat.le_of_ble_eq_true rfl⟩) hS (fun q _ h => hFc q h) hFc (fun r78 u t H1 locs ht hvm hw hB hz1 hk1 hS => ?_)
          have hP : va_P (dC, dI) vwCl (wM cyI cyZ p0 p1 p2 p3 p4 mn (upd me (64 * (2 * so) + i) (ft so ((cb ((me ((64 * (2 * so) + i)))) h ((opd so v)))))) ml mt th33 wo mr mo mk mz mq) t.heap := hB
          rw [ht] at hP
          have hD : va_D A (wM cyI cyZ p0 p1 p2 p3 p4 mn (upd me (64 * (2 * so) + i) (ft so ((cb ((me ((64 * (2 * so) + i)))) h ((opd so v)))))) ml mt th33 wo mr mo mk mz mq) := wM_D hD
          clear hB
          generalize H1 = H at hP hS ⊢
          exact W.iret (v := r78) hx hb hr (fun t ht hW => ⟨⟨r78, (th33, upd me (64 * (2 * so) + i) (ft so ((cb ((me ((64 * (2 * so) + i)))) h ((opd so v)))))), rfl, Or.inr ⟨so, hso, rfl, hal, Or.inr (Or.inr ⟨hm, htt, i, hi64, rfl, hcl.2, hw, rfl⟩)⟩, by show va_P (dC, dI) vwCl (wM cyI cyZ p0 p1 p2 p3 p4 mn (upd me (64 * (2 * so) + i) (ft so ((cb ((me ((64 * (2 * so) + i)))) h ((opd so v)))))) ml mt th33 wo mr mo mk mz mq) t.heap; rw [ht]; exact hP⟩, hS.F ht⟩) hS.2.2 dX1_alter_81
        · skip
          rw [nI_eq (by omega) (by omega)] at h43
          refine lv_iconst (v := nI 3) hx hb dX1_alter_46 (by decide) ?_
          refine lv_iload hx hb dX1_alter_47 (lv_at hl 4 rfl) ?_
          refine gx_calli (va_runS (As := [.int (nI 3), .int v]) (rest := []) ⟨hx, hb, hml, hown, hts⟩ (k_X1_held l dC dI  _   3 v (by omega)) (va_cwS 2 hts gX1_alter_X1_held rfl rfl rfl (by decide +kernel) ⟨Nat.le_of_ble_eq_true rfl, Nat.le_of_ble_eq_true rfl⟩) (pK_S (hK.sub (tys' := []) [] rfl)) rfl rfl hl.1 rfl (lv_room (Nat.le_of_ble_eq_true rfl)) dX1_alter_49 ⟨Nat.le_of_ble_eq_true rfl, Nat.le_of_ble_eq_true rfl⟩) (fun r_12 hr_12 => ?_)
          subst hr_12
          refine lv_goto (tgt := 57) hx hb dX1_alter_52 (by decide) ?_
          refine lv_topi (fun y9 ey9 => ?_)
          have ey9 : y9 = opd so v := by unfold opd; first | rw [if_pos h43]; exact ey9 | rw [if_neg h43]; exact ey9
          subst ey9
          refine lv_istore (lv' := [(5, .int (opd so v)), (0, .ref p0), (1, .int (nI so)), (2, .int (nI i)), (3, .int h), (4, .int v)]) hx hb dX1_alter_57 hl (by decide) rfl (fun ls hl => ?_)
          refine lv_aload_n hx hb dX1_alter_59 rfl (lv_at hl 1 rfl) ?_
          refine lv_iload_n hx hb dX1_alter_60 rfl (lv_at hl 2 rfl) ?_
          refine lv_iload_n hx hb dX1_alter_61 rfl (lv_at hl 3 rfl) ?_
          refine lv_aload_n hx hb dX1_alter_62 rfl (lv_at hl 1 rfl) ?_
          refine va_get (D := (dC, dI)) (ci := 1) (v := .ref p2) (C := RX1) (T := TX1) (N := 11) hx hb hts iw hown hK hP 0 rfl rfl 2 (by decide) (hts (.fieldLink RX1 13 "ReelLoomModel" "cells" "[I") (by decide +kernel)) (fun _ h9 => h9) rfl dX1_alter_63 ?_
          refine lv_iload_n hx hb dX1_alter_66 rfl (lv_at hl 2 rfl) ?_
          refine lv_iload_n hx hb dX1_alter_67 rfl (lv_at hl 3 rfl) ?_
          refine gx_calli (va_runS (As := [.int (nI so), .int (nI i)]) (rest := [.ref p2, .int (nI i), .int (nI so), .ref p0]) ⟨hx, hb, hml, hown, hts⟩ (k_X1_at l dC dI  _   so i ) (va_cwS 2 hts gX1_alter_X1_at rfl rfl rfl (by decide +kernel) ⟨Nat.le_of_ble_eq_true rfl, Nat.le_of_ble_eq_true rfl⟩) (pK_S (hK.sub (tys' := []) [] rfl)) rfl rfl hl.1 rfl (lv_room (Nat.le_of_ble_eq_true rfl)) dX1_alter_68 ⟨Nat.le_of_ble_eq_true rfl, Nat.le_of_ble_eq_true rfl⟩) (fun r_13 hr_13 => ?_)
          subst hr_13
          refine va_iald hx hb hK hP 2 0 rfl rfl (vp_in_nI (by omega) (by omega)) dX1_alter_71 ?_
          rw [nI_clamp (show (64 * (2 * so) + i) < 2 ^ 31 by omega)]
          refine lv_iload_n hx hb dX1_alter_72 rfl (lv_at hl 4 rfl) ?_
          refine lv_iload hx hb dX1_alter_73 (lv_at hl 0 rfl) ?_
          refine gx_calli (va_runS (As := [.int (me ((64 * (2 * so) + i))), .int h, .int (opd so v)]) (rest := [.int (nI i), .int (nI so), .ref p0]) ⟨hx, hb, hml, hown, hts⟩ (k_X1_altered l dC dI  _   (me ((64 * (2 * so) + i))) h (opd so v) ) (va_cwS 3 hts gX1_alter_X1_altered rfl rfl rfl (by decide +kernel) ⟨Nat.le_of_ble_eq_true rfl, Nat.le_of_ble_eq_true rfl⟩) (pK_S (hK.sub (tys' := []) [] rfl)) rfl rfl hl.1 rfl (lv_room (Nat.le_of_ble_eq_true rfl)) dX1_alter_75 ⟨Nat.le_of_ble_eq_true rfl, Nat.le_of_ble_eq_true rfl⟩) (fun r_14 hr_14 => ?_)
          subst hr_14
          have hFc := va_free (wc := wM cyI cyZ p0 p1 p2 p3 p4 mn me ml mt th33 wo mr mo mk mz mq) hD hS hA [0, 1, 2, 3, 4] rfl
          refine va_calli (va_runV (As := [.int (nI so), .int (nI i), .int (cb ((me ((64 * (2 * so) + i)))) h ((opd so v)))]) (rest := []) ⟨hx, hb, hml, hown, hts⟩ (k_X1_put l dC dI cyI cyZ _ p0 p1 p2 p3 p4 mn me ml mt th33 wo mr mo mk mz mq hP (hD.weaken (fun _ _ _ _ => trivial)) so i (cb ((me ((64 * (2 * so) + i)))) h ((opd so v))) (by omega) (by omega)) (cwV 3 hts gX1_alter_X1_put rfl rfl rfl (by decide +kernel) ⟨Nat.le_of_ble_eq_true rfl, Nat.le_of_ble_eq_true rfl⟩) (pK_V hK (va_recv hK hP (ci := 1) (q0 := 0) rfl rfl)) rfl rfl hl.1 rfl (lv_room (Nat.le_of_ble_eq_true rfl)) dX1_alter_78 ⟨Nat.le_of_ble_eq_true rfl, Nat.le_of_ble_eq_true rfl⟩) hS (fun q _ h => hFc q h) hFc (fun r78 u t H1 locs ht hvm hw hB hz1 hk1 hS => ?_)
          have hP : va_P (dC, dI) vwCl (wM cyI cyZ p0 p1 p2 p3 p4 mn (upd me (64 * (2 * so) + i) (ft so ((cb ((me ((64 * (2 * so) + i)))) h ((opd so v)))))) ml mt th33 wo mr mo mk mz mq) t.heap := hB
          rw [ht] at hP
          have hD : va_D A (wM cyI cyZ p0 p1 p2 p3 p4 mn (upd me (64 * (2 * so) + i) (ft so ((cb ((me ((64 * (2 * so) + i)))) h ((opd so v)))))) ml mt th33 wo mr mo mk mz mq) := wM_D hD
          clear hB
          generalize H1 = H at hP hS ⊢
          exact W.iret (v := r78) hx hb hr (fun t ht hW => ⟨⟨r78, (th33, upd me (64 * (2 * so) + i) (ft so ((cb ((me ((64 * (2 * so) + i)))) h ((opd so v)))))), rfl, Or.inr ⟨so, hso, rfl, hal, Or.inr (Or.inr ⟨hm, htt, i, hi64, rfl, hcl.2, hw, rfl⟩)⟩, by show va_P (dC, dI) vwCl (wM cyI cyZ p0 p1 p2 p3 p4 mn (upd me (64 * (2 * so) + i) (ft so ((cb ((me ((64 * (2 * so) + i)))) h ((opd so v)))))) ml mt th33 wo mr mo mk mz mq) t.heap; rw [ht]; exact hP⟩, hS.F ht⟩) hS.2.2 dX1_alter_81
      · skip
        have htt := mg_f hw h36
        refine lv_iconst (v := 0) hx hb dX1_alter_39 (by decide) ?_
        exact W.iret (v := 0) hx hb hr (fun t ht hW => ⟨⟨0, (th33, me), rfl, Or.inr ⟨so, hso, rfl, hal, htt.elim (fun a => Or.inl ⟨a.1, a.2, rfl⟩) (fun a => Or.inr (Or.inl ⟨a.1, a.2.1, a.2.2, rfl⟩))⟩, by show va_P (dC, dI) vwCl (wM cyI cyZ p0 p1 p2 p3 p4 mn me ml mt th33 wo mr mo mk mz mq) t.heap; rw [ht]; exact hP⟩, hS.F ht⟩) hS.2.2 dX1_alter_40
  · skip
    have hs := (hr5.resolve_left (fun a => absurd (a.1.symm.trans h8) (by decide))).2
    refine lv_iconst (v := 1) hx hb dX1_alter_11 (by decide) ?_
    refine lv_goto (tgt := 16) hx hb dX1_alter_12 (by decide) ?_
    refine lv_iload_n hx hb dX1_alter_16 rfl (lv_at hl 1 rfl) ?_
    refine gx_calli (va_runS (As := [.int x]) (rest := [.int 1, .ref p0]) ⟨hx, hb, hml, hown, hts⟩ (k_X1_isSort l dC dI  _   x ) (va_cwS 1 hts gX1_alter_X1_isSort rfl rfl rfl (by decide +kernel) ⟨Nat.le_of_ble_eq_true rfl, Nat.le_of_ble_eq_true rfl⟩) (pK_S (hK.sub (tys' := []) [] rfl)) rfl rfl hl.1 rfl (lv_room (Nat.le_of_ble_eq_true rfl)) dX1_alter_17 ⟨Nat.le_of_ble_eq_true rfl, Nat.le_of_ble_eq_true rfl⟩) (fun r17 hr17 => ?_)
    refine lv_if_eq (tgt := 32) hx hb dX1_alter_20 (by decide) (fun h20 => ?_) (fun h20 => ?_)
    · skip
      refine lv_iconst (v := 0) hx hb dX1_alter_32 (by decide) ?_
      have hFc := va_free (wc := wM cyI cyZ p0 p1 p2 p3 p4 mn me ml mt th wo mr mo mk mz mq) hD hS hA [0, 1, 2, 3, 4] rfl
      refine va_calli (va_runV (As := [.int 1, .int 0]) (rest := []) ⟨hx, hb, hml, hown, hts⟩ (k_X1_refuses l dC dI cyI cyZ _ p0 p1 p2 p3 p4 mn me ml mt th wo mr mo mk mz mq hP (hD.weaken (fun _ _ _ _ => trivial)) 1 0 ) (cwV 2 hts gX1_alter_X1_refuses rfl rfl rfl (by decide +kernel) ⟨Nat.le_of_ble_eq_true rfl, Nat.le_of_ble_eq_true rfl⟩) (pK_V hK (va_recv hK hP (ci := 1) (q0 := 0) rfl rfl)) rfl rfl hl.1 rfl (lv_room (Nat.le_of_ble_eq_true rfl)) dX1_alter_33 ⟨Nat.le_of_ble_eq_true rfl, Nat.le_of_ble_eq_true rfl⟩) hS (fun q _ h => hFc q h) hFc (fun r33 u t H1 locs ht hvm hw hB hz1 hk1 hS => ?_)
      obtain ⟨th33, rfl⟩ : ∃ z, z = u := ⟨_, rfl⟩
      dsimp only at hw
      have hP : va_P (dC, dI) vwCl (wM cyI cyZ p0 p1 p2 p3 p4 mn me ml mt th33 wo mr mo mk mz mq) t.heap := hB
      rw [ht] at hP
      have hD : va_D A (wM cyI cyZ p0 p1 p2 p3 p4 mn me ml mt th33 wo mr mo mk mz mq) := wM_D hD
      clear hB
      generalize H1 = H at hP hS ⊢
      refine lv_if_eq (tgt := 41) hx hb dX1_alter_36 (by decide) (fun h36 => ?_) (fun h36 => ?_)
      · skip
        exact absurd ((mg_b hw).2.symm.trans h36) (by decide)
      · skip
        have htt := (mg_b hw).1
        refine lv_iconst (v := 0) hx hb dX1_alter_39 (by decide) ?_
        exact W.iret (v := 0) hx hb hr (fun t ht hW => ⟨⟨0, (th33, me), rfl, Or.inl ⟨hs, htt, rfl⟩, by show va_P (dC, dI) vwCl (wM cyI cyZ p0 p1 p2 p3 p4 mn me ml mt th33 wo mr mo mk mz mq) t.heap; rw [ht]; exact hP⟩, hS.F ht⟩) hS.2.2 dX1_alter_40
    · skip
      have hs2 := (hr17.resolve_right (fun a => h20 a.1)).2
      obtain ⟨so, hso, rfl⟩ := in_of (n := 5) (by decide) hs2.1 hs2.2
      refine lv_aload_n hx hb dX1_alter_23 rfl (lv_at hl 0 rfl) ?_
      refine lv_iload_n hx hb dX1_alter_24 rfl (lv_at hl 1 rfl) ?_
      refine lv_iload_n hx hb dX1_alter_25 rfl (lv_at hl 2 rfl) ?_
      refine gx_calli (va_runV (As := [.int (nI so), .int y]) (rest := [.int 1, .ref p0]) ⟨hx, hb, hml, hown, hts⟩ (k_X1_lacks l dC dI cyI cyZ _ p0 p1 p2 p3 p4 mn me ml mt th wo mr mo mk mz mq hP (hD.weaken (fun _ _ _ _ => trivial)) so y (by omega)) (cwV 2 hts gX1_alter_X1_lacks rfl rfl rfl (by decide +kernel) ⟨Nat.le_of_ble_eq_true rfl, Nat.le_of_ble_eq_true rfl⟩) (pK_V hK (va_recv hK hP (ci := 1) (q0 := 0) rfl rfl)) rfl rfl hl.1 rfl (lv_room (Nat.le_of_ble_eq_true rfl)) dX1_alter_26 ⟨Nat.le_of_ble_eq_true rfl, Nat.le_of_ble_eq_true rfl⟩) (fun r_20 hr_20 => ?_)
      subst hr_20
      refine lv_goto (tgt := 33) hx hb dX1_alter_29 (by decide) ?_
      have hFc := va_free (wc := wM cyI cyZ p0 p1 p2 p3 p4 mn me ml mt th wo mr mo mk mz mq) hD hS hA [0, 1, 2, 3, 4] rfl
      refine va_calli (va_runV (As := [.int 1, .int (lkI (mn (2 * so)) y)]) (rest := []) ⟨hx, hb, hml, hown, hts⟩ (k_X1_refuses l dC dI cyI cyZ _ p0 p1 p2 p3 p4 mn me ml mt th wo mr mo mk mz mq hP (hD.weaken (fun _ _ _ _ => trivial)) 1 (lkI (mn (2 * so)) y) ) (cwV 2 hts gX1_alter_X1_refuses rfl rfl rfl (by decide +kernel) ⟨Nat.le_of_ble_eq_true rfl, Nat.le_of_ble_eq_true rfl⟩) (pK_V hK (va_recv hK hP (ci := 1) (q0 := 0) rfl rfl)) rfl rfl hl.1 rfl (lv_room (Nat.le_of_ble_eq_true rfl)) dX1_alter_33 ⟨Nat.le_of_ble_eq_true rfl, Nat.le_of_ble_eq_true rfl⟩) hS (fun q _ h => hFc q h) hFc (fun r33 u t H1 locs ht hvm hw hB hz1 hk1 hS => ?_)
      obtain ⟨th33, rfl⟩ : ∃ z, z = u := ⟨_, rfl⟩
      dsimp only at hw
      have hP : va_P (dC, dI) vwCl (wM cyI cyZ p0 p1 p2 p3 p4 mn me ml mt th33 wo mr mo mk mz mq) t.heap := hB
      rw [ht] at hP
      have hD : va_D A (wM cyI cyZ p0 p1 p2 p3 p4 mn me ml mt th33 wo mr mo mk mz mq) := wM_D hD
      clear hB
      generalize H1 = H at hP hS ⊢
      refine lv_if_eq (tgt := 41) hx hb dX1_alter_36 (by decide) (fun h36 => ?_) (fun h36 => ?_)
      · skip
        exact absurd ((mg_b hw).2.symm.trans h36) (by decide)
      · skip
        have htt := (mg_b hw).1
        refine lv_iconst (v := 0) hx hb dX1_alter_39 (by decide) ?_
        exact W.iret (v := 0) hx hb hr (fun t ht hW => ⟨⟨0, (th33, me), rfl, Or.inl ⟨hs, htt, rfl⟩, by show va_P (dC, dI) vwCl (wM cyI cyZ p0 p1 p2 p3 p4 mn me ml mt th33 wo mr mo mk mz mq) t.heap; rw [ht]; exact hP⟩, hS.F ht⟩) hS.2.2 dX1_alter_40
