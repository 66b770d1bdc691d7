abbrev eIA : String := "java/lang/IllegalArgumentException"
abbrev eIS : String := "java/lang/IllegalStateException"
abbrev eIO : String := "java/lang/IndexOutOfBoundsException"
abbrev eUO : String := "java/lang/UnsupportedOperationException"
theorem in_le {x : Int32} {n : Nat} (hn : n < 2 ^ 31) (h0 : ¬ x < 0) (h1 : x ≤ nI n) : ∃ j : Nat, j ≤ n ∧ x = nI j := by
  obtain ⟨j, hj, rfl⟩ := nI_of h0
  exact ⟨j, (nI_leI hj hn).mp h1, rfl⟩
theorem i_lt {x y z : Int32} (h : x < y) (h2 : y ≤ z) : x < z := by
  rw [Int32.lt_iff_toInt_lt] at h ⊢
  rw [Int32.le_iff_toInt_le] at h2
  omega
/-- what a cell of the cloth lacks: 1 no cloth or cut, 2 no such row or column -/
def lkC (rw co : Int32) (ct : Nat → Int32) (x y : Int32) : Nat := if rw = -1 then 1 else if ¬ (¬ x < 0 ∧ x < rw) then 2 else if ¬ ct x.toNatClampNeg = 0 then 1 else if ¬ (¬ y < 0 ∧ y < co) then 2 else 0
def okA (so : Nat) (h v : Int32) : Prop := (¬ h < 0 ∧ h ≤ nI 8) ∧ (so = 2 → h ≤ 1 ∧ ¬ v < -800000 ∧ v ≤ 800000) ∧ (so = 3 → ¬ h < 3 ∧ h ≤ 5)
/-- the kind of a stop at a reel -/
def stK (wl : Nat → Int32) (so : Nat) : Int32 := if wl so = -1 then 1 else 2
set_option maxHeartbeats 4000000 in
set_option maxRecDepth 100000 in
theorem k_X0_requireSort (l : Launch) (hst : l.stackTraces = false) (dC : Nat → ClassId) (dI : Nat → Nat → Nat)  (H0 : Heap)   (x : Int32)  : vx_Met l yX0_requireSort wsX0_requireSort ({ frames := 6, cells := 1, slots := 6, locals := 90 }) (va_Pc [.int x] (pZ dC dI ([]) H0 (gx_new H0))) (gx_Qv (¬ x < 0 ∧ x < nI 5) H0) (gx_X (fun E : String => E = eIA ∧ ¬ (¬ x < 0 ∧ x < nI 5)) H0) 1 6 (gx_new H0) := by
  refine vx_ofW (cc := cX0_requireSort) (maxL := 1) (ret := none) (by decide) rfl ?_
  intro p e s m args below meth c s₁ B hml hne hv
  obtain ⟨rfl, rfl, hK, hz⟩ := hv
  have hx := B.exec
  have hb := B.bytes
  have hr := B.returns
  have hts := atoms_spec (ws := wsX0_requireSort) B.pre
  have hown : s.vm.findClass RX0 = some m.cls := findClass_of_methodNamed B.named
  have hlocks := B.notSynchronized
  generalize hAe : (gx_new s.heap) = A at hz ⊢
  have hA : ∀ q : Nat, s.heap.size ≤ q → A q := fun q h => by rw [← hAe]; exact h
  have hS : va_S A s.heap s.heap [] := va_S.rf
  have hl := lv_entry ([.int x]) (n := 1) (Nat.le_of_ble_eq_true rfl)
  rw [lg_entry_eq]
  generalize (lg_sl ([.int x]) ++ List.replicate (1 - (lg_sl ([.int x])).length) Slot.unset).toArray = ls at hl ⊢
  have hl : lv_has ls 1 [(0, .int x)] := hl
  refine lv_iload_n hx hb dX0_requireSort_0 rfl (lv_at hl 0 rfl) ?_
  refine lv_if_lt (tgt := 9) hx hb dX0_requireSort_1 (by decide) (fun h1 => ?_) (fun h1 => ?_)
  · skip
    obtain ⟨sa, hsa⟩ := hz.2.2.2 133 "there is no such sort" (by decide)
    exact vx_throwS hx hb hst (own := RX0) (cls := "java/lang/IllegalArgumentException") (text := "there is no such sort") (names := zN) (ik := 55) (is := 133) (ic := 59) (sa := sa) (A := A) hown (by decide) (by decide) (hts (.classLink RX0 55 "java/lang/IllegalArgumentException") (by decide +kernel)) (hts (.initialized "java/lang/IllegalArgumentException") (by decide +kernel)) hsa (zHatIA hz (fun w h => hts w (List.mem_cons_of_mem _ (List.mem_append_right _ h)))) zGdIA hz.1 hz.2.1 hS (hl.1.trans hml.symm) dX0_requireSort_9 dX0_requireSort_12 dX0_requireSort_13 dX0_requireSort_15 dX0_requireSort_18 (fun y h => (hne y h).elim) (by decide) (by decide) (by decide) (by decide) hlocks (fun t hal hz9 hk9 => ⟨by first | exact ⟨rfl, fun h => h.1 h1⟩ | exact ⟨rfl, fun h => h2 h.2⟩, hz9, hk9⟩) hS.2.2 (by decide) (by decide)
  · skip
    refine lv_iload_n hx hb dX0_requireSort_4 rfl (lv_at hl 0 rfl) ?_
    refine lv_iconst (v := nI 5) hx hb dX0_requireSort_5 (by decide) ?_
    refine lv_icmp_lt (tgt := 19) hx hb dX0_requireSort_6 (by decide) (fun h2 => ?_) (fun h2 => ?_)
    · skip
      refine vx_ret ?_
      refine W.widen (k := 1) (n := 6) (by decide) (by decide) ?_
      exact W.vret hx hb hr (fun t ht hW => ⟨rfl, ⟨h1, h2⟩, ht⟩) hS.2.2 dX0_requireSort_19
    · skip
      obtain ⟨sa, hsa⟩ := hz.2.2.2 133 "there is no such sort" (by decide)
      exact vx_throwS hx hb hst (own := RX0) (cls := "java/lang/IllegalArgumentException") (text := "there is no such sort") (names := zN) (ik := 55) (is := 133) (ic := 59) (sa := sa) (A := A) hown (by decide) (by decide) (hts (.classLink RX0 55 "java/lang/IllegalArgumentException") (by decide +kernel)) (hts (.initialized "java/lang/IllegalArgumentException") (by decide +kernel)) hsa (zHatIA hz (fun w h => hts w (List.mem_cons_of_mem _ (List.mem_append_right _ h)))) zGdIA hz.1 hz.2.1 hS (hl.1.trans hml.symm) dX0_requireSort_9 dX0_requireSort_12 dX0_requireSort_13 dX0_requireSort_15 dX0_requireSort_18 (fun y h => (hne y h).elim) (by decide) (by decide) (by decide) (by decide) hlocks (fun t hal hz9 hk9 => ⟨by first | exact ⟨rfl, fun h => h.1 h1⟩ | exact ⟨rfl, fun h => h2 h.2⟩, hz9, hk9⟩) hS.2.2 (by decide) (by decide)
set_option maxHeartbeats 4000000 in
set_option maxRecDepth 100000 in
theorem k_X0_requireHow (l : Launch) (hst : l.stackTraces = false) (dC : Nat → ClassId) (dI : Nat → Nat → Nat)  (H0 : Heap)   (x : Int32)  : vx_Met l yX0_requireHow wsX0_requireHow ({ frames := 6, cells := 1, slots := 6, locals := 90 }) (va_Pc [.int x] (pZ dC dI ([]) H0 (gx_new H0))) (gx_Qv (¬ x < 0 ∧ x ≤ nI 8) H0) (gx_X (fun E : String => E = eIA ∧ ¬ (¬ x < 0 ∧ x ≤ nI 8)) H0) 1 6 (gx_new H0) := by
  refine vx_ofW (cc := cX0_requireHow) (maxL := 1) (ret := none) (by decide) rfl ?_
  intro p e s m args below meth c s₁ B hml hne hv
  obtain ⟨rfl, rfl, hK, hz⟩ := hv
  have hx := B.exec
  have hb := B.bytes
  have hr := B.returns
  have hts := atoms_spec (ws := wsX0_requireHow) B.pre
  have hown : s.vm.findClass RX0 = some m.cls := findClass_of_methodNamed B.named
  have hlocks := B.notSynchronized
  generalize hAe : (gx_new s.heap) = A at hz ⊢
  have hA : ∀ q : Nat, s.heap.size ≤ q → A q := fun q h => by rw [← hAe]; exact h
  have hS : va_S A s.heap s.heap [] := va_S.rf
  have hl := lv_entry ([.int x]) (n := 1) (Nat.le_of_ble_eq_true rfl)
  rw [lg_entry_eq]
  generalize (lg_sl ([.int x]) ++ List.replicate (1 - (lg_sl ([.int x])).length) Slot.unset).toArray = ls at hl ⊢
  have hl : lv_has ls 1 [(0, .int x)] := hl
  refine lv_iload_n hx hb dX0_requireHow_0 rfl (lv_at hl 0 rfl) ?_
  refine lv_if_lt (tgt := 10) hx hb dX0_requireHow_1 (by decide) (fun h1 => ?_) (fun h1 => ?_)
  · skip
    obtain ⟨sa, hsa⟩ := hz.2.2.2 135 "there is no such how" (by decide)
    exact vx_throwS hx hb hst (own := RX0) (cls := "java/lang/IllegalArgumentException") (text := "there is no such how") (names := zN) (ik := 55) (is := 135) (ic := 59) (sa := sa) (A := A) hown (by decide) (by decide) (hts (.classLink RX0 55 "java/lang/IllegalArgumentException") (by decide +kernel)) (hts (.initialized "java/lang/IllegalArgumentException") (by decide +kernel)) hsa (zHatIA hz (fun w h => hts w (List.mem_cons_of_mem _ (List.mem_append_right _ h)))) zGdIA hz.1 hz.2.1 hS (hl.1.trans hml.symm) dX0_requireHow_10 dX0_requireHow_13 dX0_requireHow_14 dX0_requireHow_16 dX0_requireHow_19 (fun y h => (hne y h).elim) (by decide) (by decide) (by decide) (by decide) hlocks (fun t hal hz9 hk9 => ⟨by first | exact ⟨rfl, fun h => h.1 h1⟩ | exact ⟨rfl, fun h => h2 h.2⟩, hz9, hk9⟩) hS.2.2 (by decide) (by decide)
  · skip
    refine lv_iload_n hx hb dX0_requireHow_4 rfl (lv_at hl 0 rfl) ?_
    refine lv_bipush (v := nI 8) hx hb dX0_requireHow_5 (by decide) ?_
    refine lv_icmp_le (tgt := 20) hx hb dX0_requireHow_7 (by decide) (fun h2 => ?_) (fun h2 => ?_)
    · skip
      refine vx_ret ?_
      refine W.widen (k := 1) (n := 6) (by decide) (by decide) ?_
      exact W.vret hx hb hr (fun t ht hW => ⟨rfl, ⟨h1, h2⟩, ht⟩) hS.2.2 dX0_requireHow_20
    · skip
      obtain ⟨sa, hsa⟩ := hz.2.2.2 135 "there is no such how" (by decide)
      exact vx_throwS hx hb hst (own := RX0) (cls := "java/lang/IllegalArgumentException") (text := "there is no such how") (names := zN) (ik := 55) (is := 135) (ic := 59) (sa := sa) (A := A) hown (by decide) (by decide) (hts (.classLink RX0 55 "java/lang/IllegalArgumentException") (by decide +kernel)) (hts (.initialized "java/lang/IllegalArgumentException") (by decide +kernel)) hsa (zHatIA hz (fun w h => hts w (List.mem_cons_of_mem _ (List.mem_append_right _ h)))) zGdIA hz.1 hz.2.1 hS (hl.1.trans hml.symm) dX0_requireHow_10 dX0_requireHow_13 dX0_requireHow_14 dX0_requireHow_16 dX0_requireHow_19 (fun y h => (hne y h).elim) (by decide) (by decide) (by decide) (by decide) hlocks (fun t hal hz9 hk9 => ⟨by first | exact ⟨rfl, fun h => h.1 h1⟩ | exact ⟨rfl, fun h => h2 h.2⟩, hz9, hk9⟩) hS.2.2 (by decide) (by decide)
set_option maxHeartbeats 4000000 in
set_option maxRecDepth 100000 in
theorem k_X0_requireAlterable (l : Launch) (hst : l.stackTraces = false) (dC : Nat → ClassId) (dI : Nat → Nat → Nat)  (H0 : Heap)   (so : Nat) (h : Int32) (v : Int32) (hso : so < 5) : vx_Met l yX0_requireAlterable wsX0_requireAlterable ({ frames := 7, cells := 1, slots := 6, locals := 110 }) (va_Pc [.int (nI so), .int h, .int v] (pZ dC dI ([]) H0 (gx_new H0))) (gx_Qv (okA so h v) H0) (gx_X (fun E : String => E = eIA ∧ ¬ okA so h v) H0) 1 6 (gx_new H0) := by
  refine vx_ofW (cc := cX0_requireAlterable) (maxL := 3) (ret := none) (by decide) rfl ?_
  intro p e s m args below meth c s₁ B hml hne hv
  obtain ⟨rfl, rfl, hK, hz⟩ := hv
  have hx := B.exec
  have hb := B.bytes
  have hr := B.returns
  have hts := atoms_spec (ws := wsX0_requireAlterable) B.pre
  have hown : s.vm.findClass RX0 = some m.cls := findClass_of_methodNamed B.named
  have hlocks := B.notSynchronized
  generalize hAe : (gx_new s.heap) = A at hz ⊢
  have hA : ∀ q : Nat, s.heap.size ≤ q → A q := fun q h => by rw [← hAe]; exact h
  have hS : va_S A s.heap s.heap [] := va_S.rf
  have hl := lv_entry ([.int (nI so), .int h, .int v]) (n := 3) (Nat.le_of_ble_eq_true rfl)
  rw [lg_entry_eq]
  generalize (lg_sl ([.int (nI so), .int h, .int v]) ++ List.replicate (3 - (lg_sl ([.int (nI so), .int h, .int v])).length) Slot.unset).toArray = ls at hl ⊢
  have hl : lv_has ls 3 [(0, .int (nI so)), (1, .int h), (2, .int v)] := hl
  refine lv_iload_n hx hb dX0_requireAlterable_0 rfl (lv_at hl 1 rfl) ?_
  refine gx_callv (vx_runS (As := [.int h]) (rest := []) ⟨hx, hb, hml, hown, hts⟩ (k_X0_requireHow l hst dC dI  _   h ) (va_cwS 1 hts gX0_requireAlterable_X0_requireHow rfl rfl rfl (by decide +kernel) ⟨Nat.le_of_ble_eq_true rfl, Nat.le_of_ble_eq_true rfl⟩) (pZ_S hK hz hS (fun q h => hA q (Nat.le_trans hS.1 h))) rfl rfl hl.1 rfl (lv_room (Nat.le_of_ble_eq_true rfl)) dX0_requireAlterable_1 ⟨Nat.le_of_ble_eq_true rfl, Nat.le_of_ble_eq_true rfl⟩) hS (fun q h => hA q (Nat.le_trans hS.1 h)) (fun E ce q9 H1 locs1 hbad hz9 hk9 hS9 hce hcv hcl => ?_) (fun hok => ?_)
  · skip
    exact vx_out (fun y h => (hne y h).elim) hlocks hce hcv hcl (fun t ht _ => ⟨⟨hbad.1, fun h => hbad.2 h.1⟩, by rw [ht]; exact hz9, fun q hq => by rw [ht]; exact hk9 q hq⟩) hS9.2.2 (by decide) (by decide)
  · skip
    have hh := hok
    refine lv_iload_n hx hb dX0_requireAlterable_4 rfl (lv_at hl 0 rfl) ?_
    refine lv_iconst (v := nI 2) hx hb dX0_requireAlterable_5 (by decide) ?_
    refine lv_icmp_ne (tgt := 24) hx hb dX0_requireAlterable_6 (by decide) (fun h6 => ?_) (fun h6 => ?_)
    · skip
      rw [nI_eq (by omega) (by omega)] at h6
      refine lv_iload_n hx hb dX0_requireAlterable_24 rfl (lv_at hl 0 rfl) ?_
      refine lv_iconst (v := nI 2) hx hb dX0_requireAlterable_25 (by decide) ?_
      refine lv_icmp_ne (tgt := 51) hx hb dX0_requireAlterable_26 (by decide) (fun h26 => ?_) (fun h26 => ?_)
      · skip
        rw [nI_eq (by omega) (by omega)] at h26
        refine lv_iload_n hx hb dX0_requireAlterable_51 rfl (lv_at hl 0 rfl) ?_
        refine lv_iconst (v := nI 3) hx hb dX0_requireAlterable_52 (by decide) ?_
        refine lv_icmp_ne (tgt := 76) hx hb dX0_requireAlterable_53 (by decide) (fun h53 => ?_) (fun h53 => ?_)
        · skip
          rw [nI_eq (by omega) (by omega)] at h53
          refine vx_ret ?_
          refine W.widen (k := 1) (n := 6) (by decide) (by decide) ?_
          exact W.vret hx hb hr (fun t ht hW => ⟨rfl, ⟨hh, fun e => by first | exact absurd e h6 | exact absurd e h26 | exact ⟨h11, h32, h38⟩, fun e => by first | exact absurd e h53 | exact ⟨h58, h63⟩⟩, ht⟩) hS.2.2 dX0_requireAlterable_76
        · skip
          rw [nI_eq (by omega) (by omega)] at h53
          refine lv_iload_n hx hb dX0_requireAlterable_56 rfl (lv_at hl 1 rfl) ?_
          refine lv_iconst (v := 3) hx hb dX0_requireAlterable_57 (by decide) ?_
          refine lv_icmp_lt (tgt := 66) hx hb dX0_requireAlterable_58 (by decide) (fun h58 => ?_) (fun h58 => ?_)
          · skip
            obtain ⟨sa, hsa⟩ := hz.2.2.2 143 "lifts are altered by how 3, 4 and 5 alone" (by decide)
            exact vx_throwS hx hb hst (own := RX0) (cls := "java/lang/IllegalArgumentException") (text := "lifts are altered by how 3, 4 and 5 alone") (names := zN) (ik := 55) (is := 143) (ic := 59) (sa := sa) (A := A) hown (by decide) (by decide) (hts (.classLink RX0 55 "java/lang/IllegalArgumentException") (by decide +kernel)) (hts (.initialized "java/lang/IllegalArgumentException") (by decide +kernel)) hsa (zHatIA hz (fun w h => hts w (List.mem_cons_of_mem _ (List.mem_append_right _ h)))) zGdIA hz.1 hz.2.1 hS (hl.1.trans hml.symm) dX0_requireAlterable_66 dX0_requireAlterable_69 dX0_requireAlterable_70 dX0_requireAlterable_72 dX0_requireAlterable_75 (fun y h => (hne y h).elim) (by decide) (by decide) (by decide) (by decide) hlocks (fun t hal hz9 hk9 => ⟨⟨rfl, fun h => by first | exact (h.2.2 h53).1 h58 | exact h63 (h.2.2 h53).2⟩, hz9, hk9⟩) hS.2.2 (by decide) (by decide)
          · skip
            refine lv_iload_n hx hb dX0_requireAlterable_61 rfl (lv_at hl 1 rfl) ?_
            refine lv_iconst (v := 5) hx hb dX0_requireAlterable_62 (by decide) ?_
            refine lv_icmp_le (tgt := 76) hx hb dX0_requireAlterable_63 (by decide) (fun h63 => ?_) (fun h63 => ?_)
            · skip
              refine vx_ret ?_
              refine W.widen (k := 1) (n := 6) (by decide) (by decide) ?_
              exact W.vret hx hb hr (fun t ht hW => ⟨rfl, ⟨hh, fun e => by first | exact absurd e h6 | exact absurd e h26 | exact ⟨h11, h32, h38⟩, fun e => by first | exact absurd e h53 | exact ⟨h58, h63⟩⟩, ht⟩) hS.2.2 dX0_requireAlterable_76
            · skip
              obtain ⟨sa, hsa⟩ := hz.2.2.2 143 "lifts are altered by how 3, 4 and 5 alone" (by decide)
              exact vx_throwS hx hb hst (own := RX0) (cls := "java/lang/IllegalArgumentException") (text := "lifts are altered by how 3, 4 and 5 alone") (names := zN) (ik := 55) (is := 143) (ic := 59) (sa := sa) (A := A) hown (by decide) (by decide) (hts (.classLink RX0 55 "java/lang/IllegalArgumentException") (by decide +kernel)) (hts (.initialized "java/lang/IllegalArgumentException") (by decide +kernel)) hsa (zHatIA hz (fun w h => hts w (List.mem_cons_of_mem _ (List.mem_append_right _ h)))) zGdIA hz.1 hz.2.1 hS (hl.1.trans hml.symm) dX0_requireAlterable_66 dX0_requireAlterable_69 dX0_requireAlterable_70 dX0_requireAlterable_72 dX0_requireAlterable_75 (fun y h => (hne y h).elim) (by decide) (by decide) (by decide) (by decide) hlocks (fun t hal hz9 hk9 => ⟨⟨rfl, fun h => by first | exact (h.2.2 h53).1 h58 | exact h63 (h.2.2 h53).2⟩, hz9, hk9⟩) hS.2.2 (by decide) (by decide)
      · skip
        rw [nI_eq (by omega) (by omega)] at h26
        refine lv_iload_n hx hb dX0_requireAlterable_29 rfl (lv_at hl 2 rfl) ?_
        refine lv_ldc (v := -800000) hx hb hown (hts (.constant RX0 139 (-800000)) (by decide +kernel)) dX0_requireAlterable_30 ?_
        refine lv_icmp_lt (tgt := 41) hx hb dX0_requireAlterable_32 (by decide) (fun h32 => ?_) (fun h32 => ?_)
        · skip
          obtain ⟨sa, hsa⟩ := hz.2.2.2 141 "pulls are altered by at most 800000" (by decide)
          exact vx_throwS hx hb hst (own := RX0) (cls := "java/lang/IllegalArgumentException") (text := "pulls are altered by at most 800000") (names := zN) (ik := 55) (is := 141) (ic := 59) (sa := sa) (A := A) hown (by decide) (by decide) (hts (.classLink RX0 55 "java/lang/IllegalArgumentException") (by decide +kernel)) (hts (.initialized "java/lang/IllegalArgumentException") (by decide +kernel)) hsa (zHatIA hz (fun w h => hts w (List.mem_cons_of_mem _ (List.mem_append_right _ h)))) zGdIA hz.1 hz.2.1 hS (hl.1.trans hml.symm) dX0_requireAlterable_41 dX0_requireAlterable_44 dX0_requireAlterable_45 dX0_requireAlterable_47 dX0_requireAlterable_50 (fun y h => (hne y h).elim) (by decide) (by decide) (by decide) (by decide) hlocks (fun t hal hz9 hk9 => ⟨⟨rfl, fun h => by first | exact (h.2.1 h26).2.1 h32 | exact h38 (h.2.1 h26).2.2⟩, hz9, hk9⟩) hS.2.2 (by decide) (by decide)
        · skip
          refine lv_iload_n hx hb dX0_requireAlterable_35 rfl (lv_at hl 2 rfl) ?_
          refine lv_ldc (v := 800000) hx hb hown (hts (.constant RX0 140 (800000)) (by decide +kernel)) dX0_requireAlterable_36 ?_
          refine lv_icmp_le (tgt := 51) hx hb dX0_requireAlterable_38 (by decide) (fun h38 => ?_) (fun h38 => ?_)
          · skip
            refine lv_iload_n hx hb dX0_requireAlterable_51 rfl (lv_at hl 0 rfl) ?_
            refine lv_iconst (v := nI 3) hx hb dX0_requireAlterable_52 (by decide) ?_
            refine lv_icmp_ne (tgt := 76) hx hb dX0_requireAlterable_53 (by decide) (fun h53 => ?_) (fun h53 => ?_)
            · skip
              rw [nI_eq (by omega) (by omega)] at h53
              refine vx_ret ?_
              refine W.widen (k := 1) (n := 6) (by decide) (by decide) ?_
              exact W.vret hx hb hr (fun t ht hW => ⟨rfl, ⟨hh, fun e => by first | exact absurd e h6 | exact absurd e h26 | exact ⟨h11, h32, h38⟩, fun e => by first | exact absurd e h53 | exact ⟨h58, h63⟩⟩, ht⟩) hS.2.2 dX0_requireAlterable_76
            · skip
              rw [nI_eq (by omega) (by omega)] at h53
              refine lv_iload_n hx hb dX0_requireAlterable_56 rfl (lv_at hl 1 rfl) ?_
              refine lv_iconst (v := 3) hx hb dX0_requireAlterable_57 (by decide) ?_
              refine lv_icmp_lt (tgt := 66) hx hb dX0_requireAlterable_58 (by decide) (fun h58 => ?_) (fun h58 => ?_)
              · skip
                obtain ⟨sa, hsa⟩ := hz.2.2.2 143 "lifts are altered by how 3, 4 and 5 alone" (by decide)
                exact vx_throwS hx hb hst (own := RX0) (cls := "java/lang/IllegalArgumentException") (text := "lifts are altered by how 3, 4 and 5 alone") (names := zN) (ik := 55) (is := 143) (ic := 59) (sa := sa) (A := A) hown (by decide) (by decide) (hts (.classLink RX0 55 "java/lang/IllegalArgumentException") (by decide +kernel)) (hts (.initialized "java/lang/IllegalArgumentException") (by decide +kernel)) hsa (zHatIA hz (fun w h => hts w (List.mem_cons_of_mem _ (List.mem_append_right _ h)))) zGdIA hz.1 hz.2.1 hS (hl.1.trans hml.symm) dX0_requireAlterable_66 dX0_requireAlterable_69 dX0_requireAlterable_70 dX0_requireAlterable_72 dX0_requireAlterable_75 (fun y h => (hne y h).elim) (by decide) (by decide) (by decide) (by decide) hlocks (fun t hal hz9 hk9 => ⟨⟨rfl, fun h => by first | exact (h.2.2 h53).1 h58 | exact h63 (h.2.2 h53).2⟩, hz9, hk9⟩) hS.2.2 (by decide) (by decide)
              · skip
                refine lv_iload_n hx hb dX0_requireAlterable_61 rfl (lv_at hl 1 rfl) ?_
                refine lv_iconst (v := 5) hx hb dX0_requireAlterable_62 (by decide) ?_
                refine lv_icmp_le (tgt := 76) hx hb dX0_requireAlterable_63 (by decide) (fun h63 => ?_) (fun h63 => ?_)
                · skip
                  refine vx_ret ?_
                  refine W.widen (k := 1) (n := 6) (by decide) (by decide) ?_
                  exact W.vret hx hb hr (fun t ht hW => ⟨rfl, ⟨hh, fun e => by first | exact absurd e h6 | exact absurd e h26 | exact ⟨h11, h32, h38⟩, fun e => by first | exact absurd e h53 | exact ⟨h58, h63⟩⟩, ht⟩) hS.2.2 dX0_requireAlterable_76
                · skip
                  obtain ⟨sa, hsa⟩ := hz.2.2.2 143 "lifts are altered by how 3, 4 and 5 alone" (by decide)
                  exact vx_throwS hx hb hst (own := RX0) (cls := "java/lang/IllegalArgumentException") (text := "lifts are altered by how 3, 4 and 5 alone") (names := zN) (ik := 55) (is := 143) (ic := 59) (sa := sa) (A := A) hown (by decide) (by decide) (hts (.classLink RX0 55 "java/lang/IllegalArgumentException") (by decide +kernel)) (hts (.initialized "java/lang/IllegalArgumentException") (by decide +kernel)) hsa (zHatIA hz (fun w h => hts w (List.mem_cons_of_mem _ (List.mem_append_right _ h)))) zGdIA hz.1 hz.2.1 hS (hl.1.trans hml.symm) dX0_requireAlterable_66 dX0_requireAlterable_69 dX0_requireAlterable_70 dX0_requireAlterable_72 dX0_requireAlterable_75 (fun y h => (hne y h).elim) (by decide) (by decide) (by decide) (by decide) hlocks (fun t hal hz9 hk9 => ⟨⟨rfl, fun h => by first | exact (h.2.2 h53).1 h58 | exact h63 (h.2.2 h53).2⟩, hz9, hk9⟩) hS.2.2 (by decide) (by decide)
          · skip
            obtain ⟨sa, hsa⟩ := hz.2.2.2 141 "pulls are altered by at most 800000" (by decide)
            exact vx_throwS hx hb hst (own := RX0) (cls := "java/lang/IllegalArgumentException") (text := "pulls are altered by at most 800000") (names := zN) (ik := 55) (is := 141) (ic := 59) (sa := sa) (A := A) hown (by decide) (by decide) (hts (.classLink RX0 55 "java/lang/IllegalArgumentException") (by decide +kernel)) (hts (.initialized "java/lang/IllegalArgumentException") (by decide +kernel)) hsa (zHatIA hz (fun w h => hts w (List.mem_cons_of_mem _ (List.mem_append_right _ h)))) zGdIA hz.1 hz.2.1 hS (hl.1.trans hml.symm) dX0_requireAlterable_41 dX0_requireAlterable_44 dX0_requireAlterable_45 dX0_requireAlterable_47 dX0_requireAlterable_50 (fun y h => (hne y h).elim) (by decide) (by decide) (by decide) (by decide) hlocks (fun t hal hz9 hk9 => ⟨⟨rfl, fun h => by first | exact (h.2.1 h26).2.1 h32 | exact h38 (h.2.1 h26).2.2⟩, hz9, hk9⟩) hS.2.2 (by decide) (by decide)
    · skip
      rw [nI_eq (by omega) (by omega)] at h6
      refine lv_iload_n hx hb dX0_requireAlterable_9 rfl (lv_at hl 1 rfl) ?_
      refine lv_iconst (v := 1) hx hb dX0_requireAlterable_10 (by decide) ?_
      refine lv_icmp_le (tgt := 24) hx hb dX0_requireAlterable_11 (by decide) (fun h11 => ?_) (fun h11 => ?_)
      · skip
        refine lv_iload_n hx hb dX0_requireAlterable_24 rfl (lv_at hl 0 rfl) ?_
        refine lv_iconst (v := nI 2) hx hb dX0_requireAlterable_25 (by decide) ?_
        refine lv_icmp_ne (tgt := 51) hx hb dX0_requireAlterable_26 (by decide) (fun h26 => ?_) (fun h26 => ?_)
        · skip
          rw [nI_eq (by omega) (by omega)] at h26
          refine lv_iload_n hx hb dX0_requireAlterable_51 rfl (lv_at hl 0 rfl) ?_
          refine lv_iconst (v := nI 3) hx hb dX0_requireAlterable_52 (by decide) ?_
          refine lv_icmp_ne (tgt := 76) hx hb dX0_requireAlterable_53 (by decide) (fun h53 => ?_) (fun h53 => ?_)
          · skip
            rw [nI_eq (by omega) (by omega)] at h53
            refine vx_ret ?_
            refine W.widen (k := 1) (n := 6) (by decide) (by decide) ?_
            exact W.vret hx hb hr (fun t ht hW => ⟨rfl, ⟨hh, fun e => by first | exact absurd e h6 | exact absurd e h26 | exact ⟨h11, h32, h38⟩, fun e => by first | exact absurd e h53 | exact ⟨h58, h63⟩⟩, ht⟩) hS.2.2 dX0_requireAlterable_76
          · skip
            rw [nI_eq (by omega) (by omega)] at h53
            refine lv_iload_n hx hb dX0_requireAlterable_56 rfl (lv_at hl 1 rfl) ?_
            refine lv_iconst (v := 3) hx hb dX0_requireAlterable_57 (by decide) ?_
            refine lv_icmp_lt (tgt := 66) hx hb dX0_requireAlterable_58 (by decide) (fun h58 => ?_) (fun h58 => ?_)
            · skip
              obtain ⟨sa, hsa⟩ := hz.2.2.2 143 "lifts are altered by how 3, 4 and 5 alone" (by decide)
              exact vx_throwS hx hb hst (own := RX0) (cls := "java/lang/IllegalArgumentException") (text := "lifts are altered by how 3, 4 and 5 alone") (names := zN) (ik := 55) (is := 143) (ic := 59) (sa := sa) (A := A) hown (by decide) (by decide) (hts (.classLink RX0 55 "java/lang/IllegalArgumentException") (by decide +kernel)) (hts (.initialized "java/lang/IllegalArgumentException") (by decide +kernel)) hsa (zHatIA hz (fun w h => hts w (List.mem_cons_of_mem _ (List.mem_append_right _ h)))) zGdIA hz.1 hz.2.1 hS (hl.1.trans hml.symm) dX0_requireAlterable_66 dX0_requireAlterable_69 dX0_requireAlterable_70 dX0_requireAlterable_72 dX0_requireAlterable_75 (fun y h => (hne y h).elim) (by decide) (by decide) (by decide) (by decide) hlocks (fun t hal hz9 hk9 => ⟨⟨rfl, fun h => by first | exact (h.2.2 h53).1 h58 | exact h63 (h.2.2 h53).2⟩, hz9, hk9⟩) hS.2.2 (by decide) (by decide)
            · skip
              refine lv_iload_n hx hb dX0_requireAlterable_61 rfl (lv_at hl 1 rfl) ?_
              refine lv_iconst (v := 5) hx hb dX0_requireAlterable_62 (by decide) ?_
              refine lv_icmp_le (tgt := 76) hx hb dX0_requireAlterable_63 (by decide) (fun h63 => ?_) (fun h63 => ?_)
              · skip
                refine vx_ret ?_
                refine W.widen (k := 1) (n := 6) (by decide) (by decide) ?_
                exact W.vret hx hb hr (fun t ht hW => ⟨rfl, ⟨hh, fun e => by first | exact absurd e h6 | exact absurd e h26 | exact ⟨h11, h32, h38⟩, fun e => by first | exact absurd e h53 | exact ⟨h58, h63⟩⟩, ht⟩) hS.2.2 dX0_requireAlterable_76
              · skip
                obtain ⟨sa, hsa⟩ := hz.2.2.2 143 "lifts are altered by how 3, 4 and 5 alone" (by decide)
                exact vx_throwS hx hb hst (own := RX0) (cls := "java/lang/IllegalArgumentException") (text := "lifts are altered by how 3, 4 and 5 alone") (names := zN) (ik := 55) (is := 143) (ic := 59) (sa := sa) (A := A) hown (by decide) (by decide) (hts (.classLink RX0 55 "java/lang/IllegalArgumentException") (by decide +kernel)) (hts (.initialized "java/lang/IllegalArgumentException") (by decide +kernel)) hsa (zHatIA hz (fun w h => hts w (List.mem_cons_of_mem _ (List.mem_append_right _ h)))) zGdIA hz.1 hz.2.1 hS (hl.1.trans hml.symm) dX0_requireAlterable_66 dX0_requireAlterable_69 dX0_requireAlterable_70 dX0_requireAlterable_72 dX0_requireAlterable_75 (fun y h => (hne y h).elim) (by decide) (by decide) (by decide) (by decide) hlocks (fun t hal hz9 hk9 => ⟨⟨rfl, fun h => by first | exact (h.2.2 h53).1 h58 | exact h63 (h.2.2 h53).2⟩, hz9, hk9⟩) hS.2.2 (by decide) (by decide)
        · skip
          rw [nI_eq (by omega) (by omega)] at h26
          refine lv_iload_n hx hb dX0_requireAlterable_29 rfl (lv_at hl 2 rfl) ?_
          refine lv_ldc (v := -800000) hx hb hown (hts (.constant RX0 139 (-800000)) (by decide +kernel)) dX0_requireAlterable_30 ?_
          refine lv_icmp_lt (tgt := 41) hx hb dX0_requireAlterable_32 (by decide) (fun h32 => ?_) (fun h32 => ?_)
          · skip
            obtain ⟨sa, hsa⟩ := hz.2.2.2 141 "pulls are altered by at most 800000" (by decide)
            exact vx_throwS hx hb hst (own := RX0) (cls := "java/lang/IllegalArgumentException") (text := "pulls are altered by at most 800000") (names := zN) (ik := 55) (is := 141) (ic := 59) (sa := sa) (A := A) hown (by decide) (by decide) (hts (.classLink RX0 55 "java/lang/IllegalArgumentException") (by decide +kernel)) (hts (.initialized "java/lang/IllegalArgumentException") (by decide +kernel)) hsa (zHatIA hz (fun w h => hts w (List.mem_cons_of_mem _ (List.mem_append_right _ h)))) zGdIA hz.1 hz.2.1 hS (hl.1.trans hml.symm) dX0_requireAlterable_41 dX0_requireAlterable_44 dX0_requireAlterable_45 dX0_requireAlterable_47 dX0_requireAlterable_50 (fun y h => (hne y h).elim) (by decide) (by decide) (by decide) (by decide) hlocks (fun t hal hz9 hk9 => ⟨⟨rfl, fun h => by first | exact (h.2.1 h26).2.1 h32 | exact h38 (h.2.1 h26).2.2⟩, hz9, hk9⟩) hS.2.2 (by decide) (by decide)
          · skip
            refine lv_iload_n hx hb dX0_requireAlterable_35 rfl (lv_at hl 2 rfl) ?_
            refine lv_ldc (v := 800000) hx hb hown (hts (.constant RX0 140 (800000)) (by decide +kernel)) dX0_requireAlterable_36 ?_
            refine lv_icmp_le (tgt := 51) hx hb dX0_requireAlterable_38 (by decide) (fun h38 => ?_) (fun h38 => ?_)
            · skip
              refine lv_iload_n hx hb dX0_requireAlterable_51 rfl (lv_at hl 0 rfl) ?_
              refine lv_iconst (v := nI 3) hx hb dX0_requireAlterable_52 (by decide) ?_
              refine lv_icmp_ne (tgt := 76) hx hb dX0_requireAlterable_53 (by decide) (fun h53 => ?_) (fun h53 => ?_)
              · skip
                rw [nI_eq (by omega) (by omega)] at h53
                refine vx_ret ?_
                refine W.widen (k := 1) (n := 6) (by decide) (by decide) ?_
                exact W.vret hx hb hr (fun t ht hW => ⟨rfl, ⟨hh, fun e => by first | exact absurd e h6 | exact absurd e h26 | exact ⟨h11, h32, h38⟩, fun e => by first | exact absurd e h53 | exact ⟨h58, h63⟩⟩, ht⟩) hS.2.2 dX0_requireAlterable_76
              · skip
                rw [nI_eq (by omega) (by omega)] at h53
                refine lv_iload_n hx hb dX0_requireAlterable_56 rfl (lv_at hl 1 rfl) ?_
                refine lv_iconst (v := 3) hx hb dX0_requireAlterable_57 (by decide) ?_
                refine lv_icmp_lt (tgt := 66) hx hb dX0_requireAlterable_58 (by decide) (fun h58 => ?_) (fun h58 => ?_)
                · skip
                  obtain ⟨sa, hsa⟩ := hz.2.2.2 143 "lifts are altered by how 3, 4 and 5 alone" (by decide)
                  exact vx_throwS hx hb hst (own := RX0) (cls := "java/lang/IllegalArgumentException") (text := "lifts are altered by how 3, 4 and 5 alone") (names := zN) (ik := 55) (is := 143) (ic := 59) (sa := sa) (A := A) hown (by decide) (by decide) (hts (.classLink RX0 55 "java/lang/IllegalArgumentException") (by decide +kernel)) (hts (.initialized "java/lang/IllegalArgumentException") (by decide +kernel)) hsa (zHatIA hz (fun w h => hts w (List.mem_cons_of_mem _ (List.mem_append_right _ h)))) zGdIA hz.1 hz.2.1 hS (hl.1.trans hml.symm) dX0_requireAlterable_66 dX0_requireAlterable_69 dX0_requireAlterable_70 dX0_requireAlterable_72 dX0_requireAlterable_75 (fun y h => (hne y h).elim) (by decide) (by decide) (by decide) (by decide) hlocks (fun t hal hz9 hk9 => ⟨⟨rfl, fun h => by first | exact (h.2.2 h53).1 h58 | exact h63 (h.2.2 h53).2⟩, hz9, hk9⟩) hS.2.2 (by decide) (by decide)
                · skip
                  refine lv_iload_n hx hb dX0_requireAlterable_61 rfl (lv_at hl 1 rfl) ?_
                  refine lv_iconst (v := 5) hx hb dX0_requireAlterable_62 (by decide) ?_
                  refine lv_icmp_le (tgt := 76) hx hb dX0_requireAlterable_63 (by decide) (fun h63 => ?_) (fun h63 => ?_)
                  · skip
                    refine vx_ret ?_
                    refine W.widen (k := 1) (n := 6) (by decide) (by decide) ?_
                    exact W.vret hx hb hr (fun t ht hW => ⟨rfl, ⟨hh, fun e => by first | exact absurd e h6 | exact absurd e h26 | exact ⟨h11, h32, h38⟩, fun e => by first | exact absurd e h53 | exact ⟨h58, h63⟩⟩, ht⟩) hS.2.2 dX0_requireAlterable_76
                  · skip
                    obtain ⟨sa, hsa⟩ := hz.2.2.2 143 "lifts are altered by how 3, 4 and 5 alone" (by decide)
                    exact vx_throwS hx hb hst (own := RX0) (cls := "java/lang/IllegalArgumentException") (text := "lifts are altered by how 3, 4 and 5 alone") (names := zN) (ik := 55) (is := 143) (ic := 59) (sa := sa) (A := A) hown (by decide) (by decide) (hts (.classLink RX0 55 "java/lang/IllegalArgumentException") (by decide +kernel)) (hts (.initialized "java/lang/IllegalArgumentException") (by decide +kernel)) hsa (zHatIA hz (fun w h => hts w (List.mem_cons_of_mem _ (List.mem_append_right _ h)))) zGdIA hz.1 hz.2.1 hS (hl.1.trans hml.symm) dX0_requireAlterable_66 dX0_requireAlterable_69 dX0_requireAlterable_70 dX0_requireAlterable_72 dX0_requireAlterable_75 (fun y h => (hne y h).elim) (by decide) (by decide) (by decide) (by decide) hlocks (fun t hal hz9 hk9 => ⟨⟨rfl, fun h => by first | exact (h.2.2 h53).1 h58 | exact h63 (h.2.2 h53).2⟩, hz9, hk9⟩) hS.2.2 (by decide) (by decide)
            · skip
              obtain ⟨sa, hsa⟩ := hz.2.2.2 141 "pulls are altered by at most 800000" (by decide)
              exact vx_throwS hx hb hst (own := RX0) (cls := "java/lang/IllegalArgumentException") (text := "pulls are altered by at most 800000") (names := zN) (ik := 55) (is := 141) (ic := 59) (sa := sa) (A := A) hown (by decide) (by decide) (hts (.classLink RX0 55 "java/lang/IllegalArgumentException") (by decide +kernel)) (hts (.initialized "java/lang/IllegalArgumentException") (by decide +kernel)) hsa (zHatIA hz (fun w h => hts w (List.mem_cons_of_mem _ (List.mem_append_right _ h)))) zGdIA hz.1 hz.2.1 hS (hl.1.trans hml.symm) dX0_requireAlterable_41 dX0_requireAlterable_44 dX0_requireAlterable_45 dX0_requireAlterable_47 dX0_requireAlterable_50 (fun y h => (hne y h).elim) (by decide) (by decide) (by decide) (by decide) hlocks (fun t hal hz9 hk9 => ⟨⟨rfl, fun h => by first | exact (h.2.1 h26).2.1 h32 | exact h38 (h.2.1 h26).2.2⟩, hz9, hk9⟩) hS.2.2 (by decide) (by decide)
      · skip
        obtain ⟨sa, hsa⟩ := hz.2.2.2 137 "pulls are altered by how 0 and 1 alone" (by decide)
        exact vx_throwS hx hb hst (own := RX0) (cls := "java/lang/IllegalArgumentException") (text := "pulls are altered by how 0 and 1 alone") (names := zN) (ik := 55) (is := 137) (ic := 59) (sa := sa) (A := A) hown (by decide) (by decide) (hts (.classLink RX0 55 "java/lang/IllegalArgumentException") (by decide +kernel)) (hts (.initialized "java/lang/IllegalArgumentException") (by decide +kernel)) hsa (zHatIA hz (fun w h => hts w (List.mem_cons_of_mem _ (List.mem_append_right _ h)))) zGdIA hz.1 hz.2.1 hS (hl.1.trans hml.symm) dX0_requireAlterable_14 dX0_requireAlterable_17 dX0_requireAlterable_18 dX0_requireAlterable_20 dX0_requireAlterable_23 (fun y h => (hne y h).elim) (by decide) (by decide) (by decide) (by decide) hlocks (fun t hal hz9 hk9 => ⟨⟨rfl, fun h => h11 (h.2.1 h6).1⟩, hz9, hk9⟩) hS.2.2 (by decide) (by decide)
set_option maxHeartbeats 4000000 in
set_option maxRecDepth 100000 in
theorem k_X0_requireMounted (l : Launch) (hst : l.stackTraces = false) (dC : Nat → ClassId) (dI : Nat → Nat → Nat) (cyI cyZ : ClassId) (H0 : Heap) (q0 q1 q2 q3 q4 q5 q6 : Nat) (wc wl sc sl cl ct : Nat → Int32) (rw co sk ss sq : Int32) (hP : va_P (dC, dI) vwCl (wX cyI cyZ q0 q1 q2 q3 q4 q5 q6 wc wl sc sl cl ct rw co sk ss sq) H0) (hD0 : va_D (fun _ => True) (wX cyI cyZ q0 q1 q2 q3 q4 q5 q6 wc wl sc sl cl ct rw co sk ss sq)) (so : Nat) (hso : so < 5) : vx_Met l yX0_requireMounted wsX0_requireMounted ({ frames := 6, cells := 1, slots := 6, locals := 90 }) (va_Pc [.ref q0, .int (nI so)] (pZ dC dI (tyW cyI cyZ) H0 (gx_new H0))) (gx_Qv (¬ wl so = -1) H0) (gx_X (fun E : String => E = eIS ∧ wl so = -1) H0) 1 6 (gx_new H0) := by
  refine vx_ofW (cc := cX0_requireMounted) (maxL := 2) (ret := none) (by decide) rfl ?_
  intro p e s m args below meth c s₁ B hml hne hv
  obtain ⟨rfl, rfl, hK, hz⟩ := hv
  have hx := B.exec
  have hb := B.bytes
  have hr := B.returns
  have hts := atoms_spec (ws := wsX0_requireMounted) B.pre
  have hown : s.vm.findClass RX0 = some m.cls := findClass_of_methodNamed B.named
  have hlocks := B.notSynchronized
  have hD := hD0.self (sz := s.heap.size)
  generalize hAe : (gx_new s.heap) = A at hz ⊢
  have hA : ∀ q : Nat, s.heap.size ≤ q → A q := fun q h => by rw [← hAe]; exact h
  have hS : va_S A s.heap s.heap [] := va_S.rf
  have hl := lv_entry ([.ref q0, .int (nI so)]) (n := 2) (Nat.le_of_ble_eq_true rfl)
  rw [lg_entry_eq]
  generalize (lg_sl ([.ref q0, .int (nI so)]) ++ List.replicate (2 - (lg_sl ([.ref q0, .int (nI so)])).length) Slot.unset).toArray = ls at hl ⊢
  have hl : lv_has ls 2 [(0, .ref q0), (1, .int (nI so))] := hl
  have iw : ∀ w ∈ wsX00, w ∈ wsX0_requireMounted := by decide +kernel
  refine lv_aload_n hx hb dX0_requireMounted_0 rfl (lv_at hl 0 rfl) ?_
  refine va_get (D := (dC, dI)) (ci := 0) (v := .ref q2) (C := RX0) (T := TX0) (N := 11) hx hb hts iw hown hK hP 0 rfl rfl 1 (by decide) (hts (.fieldLink RX0 13 "ReelLoom" "workingLength" "[I") (by decide +kernel)) (fun _ h9 => h9) rfl dX0_requireMounted_1 ?_
  refine lv_iload_n hx hb dX0_requireMounted_4 rfl (lv_at hl 1 rfl) ?_
  refine va_iald hx hb hK hP 2 0 rfl rfl (vp_in_nI (by omega) (by omega)) dX0_requireMounted_5 ?_
  rw [nI_clamp (show so < 2 ^ 31 by omega)]
  refine lv_iconst (v := -1) hx hb dX0_requireMounted_6 (by decide) ?_
  refine lv_icmp_ne (tgt := 20) hx hb dX0_requireMounted_7 (by decide) (fun h7 => ?_) (fun h7 => ?_)
  · skip
    refine vx_ret ?_
    refine W.widen (k := 1) (n := 6) (by decide) (by decide) ?_
    exact W.vret hx hb hr (fun t ht hW => ⟨rfl, h7, ht⟩) hS.2.2 dX0_requireMounted_20
  · skip
    obtain ⟨sa, hsa⟩ := hz.2.2.2 147 "the reel is off" (by decide)
    exact vx_throwS hx hb hst (own := RX0) (cls := "java/lang/IllegalStateException") (text := "the reel is off") (names := zN) (ik := 145) (is := 147) (ic := 149) (sa := sa) (A := A) hown (by decide) (by decide) (hts (.classLink RX0 145 "java/lang/IllegalStateException") (by decide +kernel)) (hts (.initialized "java/lang/IllegalStateException") (by decide +kernel)) hsa (zHatIS hz (fun w h => hts w (List.mem_cons_of_mem _ (List.mem_append_right _ h)))) zGdIS hz.1 hz.2.1 hS (hl.1.trans hml.symm) dX0_requireMounted_10 dX0_requireMounted_13 dX0_requireMounted_14 dX0_requireMounted_16 dX0_requireMounted_19 (fun y h => (hne y h).elim) (by decide) (by decide) (by decide) (by decide) hlocks (fun t hal hz9 hk9 => ⟨⟨rfl, h7⟩, hz9, hk9⟩) hS.2.2 (by decide) (by decide)
set_option maxHeartbeats 4000000 in
set_option maxRecDepth 100000 in
theorem k_X0_requireCell (l : Launch) (hst : l.stackTraces = false) (dC : Nat → ClassId) (dI : Nat → Nat → Nat) (cyI cyZ : ClassId) (H0 : Heap) (q0 q1 q2 q3 q4 q5 q6 : Nat) (wc wl sc sl cl ct : Nat → Int32) (rw co sk ss sq : Int32) (hP : va_P (dC, dI) vwCl (wX cyI cyZ q0 q1 q2 q3 q4 q5 q6 wc wl sc sl cl ct rw co sk ss sq) H0) (hD0 : va_D (fun _ => True) (wX cyI cyZ q0 q1 q2 q3 q4 q5 q6 wc wl sc sl cl ct rw co sk ss sq)) (so : Nat) (x : Int32) (hso : so < 5) : vx_Met l yX0_requireCell wsX0_requireCell ({ frames := 6, cells := 1, slots := 6, locals := 90 }) (va_Pc [.ref q0, .int (nI so), .int x] (pZ dC dI (tyW cyI cyZ) H0 (gx_new H0))) (gx_Qv (¬ x < 0 ∧ x < wl so) H0) (gx_X (fun E : String => E = eIO ∧ ¬ (¬ x < 0 ∧ x < wl so)) H0) 1 6 (gx_new H0) := by
  refine vx_ofW (cc := cX0_requireCell) (maxL := 3) (ret := none) (by decide) rfl ?_
  intro p e s m args below meth c s₁ B hml hne hv
  obtain ⟨rfl, rfl, hK, hz⟩ := hv
  have hx := B.exec
  have hb := B.bytes
  have hr := B.returns
  have hts := atoms_spec (ws := wsX0_requireCell) B.pre
  have hown : s.vm.findClass RX0 = some m.cls := findClass_of_methodNamed B.named
  have hlocks := B.notSynchronized
  have hD := hD0.self (sz := s.heap.size)
  generalize hAe : (gx_new s.heap) = A at hz ⊢
  have hA : ∀ q : Nat, s.heap.size ≤ q → A q := fun q h => by rw [← hAe]; exact h
  have hS : va_S A s.heap s.heap [] := va_S.rf
  have hl := lv_entry ([.ref q0, .int (nI so), .int x]) (n := 3) (Nat.le_of_ble_eq_true rfl)
  rw [lg_entry_eq]
  generalize (lg_sl ([.ref q0, .int (nI so), .int x]) ++ List.replicate (3 - (lg_sl ([.ref q0, .int (nI so), .int x])).length) Slot.unset).toArray = ls at hl ⊢
  have hl : lv_has ls 3 [(0, .ref q0), (1, .int (nI so)), (2, .int x)] := hl
  have iw : ∀ w ∈ wsX00, w ∈ wsX0_requireCell := by decide +kernel
  refine lv_iload_n hx hb dX0_requireCell_0 rfl (lv_at hl 2 rfl) ?_
  refine lv_if_lt (tgt := 14) hx hb dX0_requireCell_1 (by decide) (fun h1 => ?_) (fun h1 => ?_)
  · skip
    obtain ⟨sa, hsa⟩ := hz.2.2.2 152 "the reel has no such cell" (by decide)
    exact vx_throwS hx hb hst (own := RX0) (cls := "java/lang/IndexOutOfBoundsException") (text := "the reel has no such cell") (names := zN) (ik := 150) (is := 152) (ic := 154) (sa := sa) (A := A) hown (by decide) (by decide) (hts (.classLink RX0 150 "java/lang/IndexOutOfBoundsException") (by decide +kernel)) (hts (.initialized "java/lang/IndexOutOfBoundsException") (by decide +kernel)) hsa (zHatIO hz (fun w h => hts w (List.mem_cons_of_mem _ (List.mem_append_right _ h)))) zGdIO hz.1 hz.2.1 hS (hl.1.trans hml.symm) dX0_requireCell_14 dX0_requireCell_17 dX0_requireCell_18 dX0_requireCell_20 dX0_requireCell_23 (fun y h => (hne y h).elim) (by decide) (by decide) (by decide) (by decide) hlocks (fun t hal hz9 hk9 => ⟨by first | exact ⟨rfl, fun h => h.1 h1⟩ | exact ⟨rfl, fun h => h2 h.2⟩, hz9, hk9⟩) hS.2.2 (by decide) (by decide)
  · skip
    refine lv_iload_n hx hb dX0_requireCell_4 rfl (lv_at hl 2 rfl) ?_
    refine lv_aload_n hx hb dX0_requireCell_5 rfl (lv_at hl 0 rfl) ?_
    refine va_get (D := (dC, dI)) (ci := 0) (v := .ref q2) (C := RX0) (T := TX0) (N := 11) hx hb hts iw hown hK hP 0 rfl rfl 1 (by decide) (hts (.fieldLink RX0 13 "ReelLoom" "workingLength" "[I") (by decide +kernel)) (fun _ h9 => h9) rfl dX0_requireCell_6 ?_
    refine lv_iload_n hx hb dX0_requireCell_9 rfl (lv_at hl 1 rfl) ?_
    refine va_iald hx hb hK hP 2 0 rfl rfl (vp_in_nI (by omega) (by omega)) dX0_requireCell_10 ?_
    rw [nI_clamp (show so < 2 ^ 31 by omega)]
    refine lv_icmp_lt (tgt := 24) hx hb dX0_requireCell_11 (by decide) (fun h2 => ?_) (fun h2 => ?_)
    · skip
      refine vx_ret ?_
      refine W.widen (k := 1) (n := 6) (by decide) (by decide) ?_
      exact W.vret hx hb hr (fun t ht hW => ⟨rfl, ⟨h1, h2⟩, ht⟩) hS.2.2 dX0_requireCell_24
    · skip
      obtain ⟨sa, hsa⟩ := hz.2.2.2 152 "the reel has no such cell" (by decide)
      exact vx_throwS hx hb hst (own := RX0) (cls := "java/lang/IndexOutOfBoundsException") (text := "the reel has no such cell") (names := zN) (ik := 150) (is := 152) (ic := 154) (sa := sa) (A := A) hown (by decide) (by decide) (hts (.classLink RX0 150 "java/lang/IndexOutOfBoundsException") (by decide +kernel)) (hts (.initialized "java/lang/IndexOutOfBoundsException") (by decide +kernel)) hsa (zHatIO hz (fun w h => hts w (List.mem_cons_of_mem _ (List.mem_append_right _ h)))) zGdIO hz.1 hz.2.1 hS (hl.1.trans hml.symm) dX0_requireCell_14 dX0_requireCell_17 dX0_requireCell_18 dX0_requireCell_20 dX0_requireCell_23 (fun y h => (hne y h).elim) (by decide) (by decide) (by decide) (by decide) hlocks (fun t hal hz9 hk9 => ⟨by first | exact ⟨rfl, fun h => h.1 h1⟩ | exact ⟨rfl, fun h => h2 h.2⟩, hz9, hk9⟩) hS.2.2 (by decide) (by decide)
set_option maxHeartbeats 4000000 in
set_option maxRecDepth 100000 in
theorem k_X0_requireCloth (l : Launch) (hst : l.stackTraces = false) (dC : Nat → ClassId) (dI : Nat → Nat → Nat) (cyI cyZ : ClassId) (H0 : Heap) (q0 q1 q2 q3 q4 q5 q6 : Nat) (wc wl sc sl cl ct : Nat → Int32) (rw co sk ss sq : Int32) (hP : va_P (dC, dI) vwCl (wX cyI cyZ q0 q1 q2 q3 q4 q5 q6 wc wl sc sl cl ct rw co sk ss sq) H0) (hD0 : va_D (fun _ => True) (wX cyI cyZ q0 q1 q2 q3 q4 q5 q6 wc wl sc sl cl ct rw co sk ss sq))   : vx_Met l yX0_requireCloth wsX0_requireCloth ({ frames := 6, cells := 1, slots := 6, locals := 90 }) (va_Pc [.ref q0] (pZ dC dI (tyW cyI cyZ) H0 (gx_new H0))) (gx_Qv (¬ rw = -1) H0) (gx_X (fun E : String => E = eIS ∧ rw = -1) H0) 1 6 (gx_new H0) := by
  refine vx_ofW (cc := cX0_requireCloth) (maxL := 1) (ret := none) (by decide) rfl ?_
  intro p e s m args below meth c s₁ B hml hne hv
  obtain ⟨rfl, rfl, hK, hz⟩ := hv
  have hx := B.exec
  have hb := B.bytes
  have hr := B.returns
  have hts := atoms_spec (ws := wsX0_requireCloth) B.pre
  have hown : s.vm.findClass RX0 = some m.cls := findClass_of_methodNamed B.named
  have hlocks := B.notSynchronized
  have hD := hD0.self (sz := s.heap.size)
  generalize hAe : (gx_new s.heap) = A at hz ⊢
  have hA : ∀ q : Nat, s.heap.size ≤ q → A q := fun q h => by rw [← hAe]; exact h
  have hS : va_S A s.heap s.heap [] := va_S.rf
  have hl := lv_entry ([.ref q0]) (n := 1) (Nat.le_of_ble_eq_true rfl)
  rw [lg_entry_eq]
  generalize (lg_sl ([.ref q0]) ++ List.replicate (1 - (lg_sl ([.ref q0])).length) Slot.unset).toArray = ls at hl ⊢
  have hl : lv_has ls 1 [(0, .ref q0)] := hl
  have iw : ∀ w ∈ wsX00, w ∈ wsX0_requireCloth := by decide +kernel
  refine lv_aload_n hx hb dX0_requireCloth_0 rfl (lv_at hl 0 rfl) ?_
  refine va_get (D := (dC, dI)) (ci := 0) (v := .int rw) (C := RX0) (T := TX0) (N := 11) hx hb hts iw hown hK hP 0 rfl rfl 6 (by decide) (hts (.fieldLink RX0 35 "ReelLoom" "rows" "I") (by decide +kernel)) (fun _ h9 => h9) rfl dX0_requireCloth_1 ?_
  refine lv_iconst (v := -1) hx hb dX0_requireCloth_4 (by decide) ?_
  refine lv_icmp_ne (tgt := 18) hx hb dX0_requireCloth_5 (by decide) (fun h7 => ?_) (fun h7 => ?_)
  · skip
    refine vx_ret ?_
    refine W.widen (k := 1) (n := 6) (by decide) (by decide) ?_
    exact W.vret hx hb hr (fun t ht hW => ⟨rfl, h7, ht⟩) hS.2.2 dX0_requireCloth_18
  · skip
    obtain ⟨sa, hsa⟩ := hz.2.2.2 155 "there is no cloth" (by decide)
    exact vx_throwS hx hb hst (own := RX0) (cls := "java/lang/IllegalStateException") (text := "there is no cloth") (names := zN) (ik := 145) (is := 155) (ic := 149) (sa := sa) (A := A) hown (by decide) (by decide) (hts (.classLink RX0 145 "java/lang/IllegalStateException") (by decide +kernel)) (hts (.initialized "java/lang/IllegalStateException") (by decide +kernel)) hsa (zHatIS hz (fun w h => hts w (List.mem_cons_of_mem _ (List.mem_append_right _ h)))) zGdIS hz.1 hz.2.1 hS (hl.1.trans hml.symm) dX0_requireCloth_8 dX0_requireCloth_11 dX0_requireCloth_12 dX0_requireCloth_14 dX0_requireCloth_17 (fun y h => (hne y h).elim) (by decide) (by decide) (by decide) (by decide) hlocks (fun t hal hz9 hk9 => ⟨⟨rfl, h7⟩, hz9, hk9⟩) hS.2.2 (by decide) (by decide)
set_option maxHeartbeats 4000000 in
set_option maxRecDepth 100000 in
theorem k_X0_requireRow (l : Launch) (hst : l.stackTraces = false) (dC : Nat → ClassId) (dI : Nat → Nat → Nat) (cyI cyZ : ClassId) (H0 : Heap) (q0 q1 q2 q3 q4 q5 q6 : Nat) (wc wl sc sl cl ct : Nat → Int32) (rw co sk ss sq : Int32) (hP : va_P (dC, dI) vwCl (wX cyI cyZ q0 q1 q2 q3 q4 q5 q6 wc wl sc sl cl ct rw co sk ss sq) H0) (hD0 : va_D (fun _ => True) (wX cyI cyZ q0 q1 q2 q3 q4 q5 q6 wc wl sc sl cl ct rw co sk ss sq)) (x : Int32)  : vx_Met l yX0_requireRow wsX0_requireRow ({ frames := 6, cells := 1, slots := 6, locals := 90 }) (va_Pc [.ref q0, .int x] (pZ dC dI (tyW cyI cyZ) H0 (gx_new H0))) (gx_Qv (¬ x < 0 ∧ x < rw) H0) (gx_X (fun E : String => E = eIO ∧ ¬ (¬ x < 0 ∧ x < rw)) H0) 1 6 (gx_new H0) := by
  refine vx_ofW (cc := cX0_requireRow) (maxL := 2) (ret := none) (by decide) rfl ?_
  intro p e s m args below meth c s₁ B hml hne hv
  obtain ⟨rfl, rfl, hK, hz⟩ := hv
  have hx := B.exec
  have hb := B.bytes
  have hr := B.returns
  have hts := atoms_spec (ws := wsX0_requireRow) B.pre
  have hown : s.vm.findClass RX0 = some m.cls := findClass_of_methodNamed B.named
  have hlocks := B.notSynchronized
  have hD := hD0.self (sz := s.heap.size)
  generalize hAe : (gx_new s.heap) = A at hz ⊢
  have hA : ∀ q : Nat, s.heap.size ≤ q → A q := fun q h => by rw [← hAe]; exact h
  have hS : va_S A s.heap s.heap [] := va_S.rf
  have hl := lv_entry ([.ref q0, .int x]) (n := 2) (Nat.le_of_ble_eq_true rfl)
  rw [lg_entry_eq]
  generalize (lg_sl ([.ref q0, .int x]) ++ List.replicate (2 - (lg_sl ([.ref q0, .int x])).length) Slot.unset).toArray = ls at hl ⊢
  have hl : lv_has ls 2 [(0, .ref q0), (1, .int x)] := hl
  have iw : ∀ w ∈ wsX00, w ∈ wsX0_requireRow := by decide +kernel
  refine lv_iload_n hx hb dX0_requireRow_0 rfl (lv_at hl 1 rfl) ?_
  refine lv_if_lt (tgt := 12) hx hb dX0_requireRow_1 (by decide) (fun h1 => ?_) (fun h1 => ?_)
  · skip
    obtain ⟨sa, hsa⟩ := hz.2.2.2 157 "the cloth has no such row" (by decide)
    exact vx_throwS hx hb hst (own := RX0) (cls := "java/lang/IndexOutOfBoundsException") (text := "the cloth has no such row") (names := zN) (ik := 150) (is := 157) (ic := 154) (sa := sa) (A := A) hown (by decide) (by decide) (hts (.classLink RX0 150 "java/lang/IndexOutOfBoundsException") (by decide +kernel)) (hts (.initialized "java/lang/IndexOutOfBoundsException") (by decide +kernel)) hsa (zHatIO hz (fun w h => hts w (List.mem_cons_of_mem _ (List.mem_append_right _ h)))) zGdIO hz.1 hz.2.1 hS (hl.1.trans hml.symm) dX0_requireRow_12 dX0_requireRow_15 dX0_requireRow_16 dX0_requireRow_18 dX0_requireRow_21 (fun y h => (hne y h).elim) (by decide) (by decide) (by decide) (by decide) hlocks (fun t hal hz9 hk9 => ⟨by first | exact ⟨rfl, fun h => h.1 h1⟩ | exact ⟨rfl, fun h => h2 h.2⟩, hz9, hk9⟩) hS.2.2 (by decide) (by decide)
  · skip
    refine lv_iload_n hx hb dX0_requireRow_4 rfl (lv_at hl 1 rfl) ?_
    refine lv_aload_n hx hb dX0_requireRow_5 rfl (lv_at hl 0 rfl) ?_
    refine va_get (D := (dC, dI)) (ci := 0) (v := .int rw) (C := RX0) (T := TX0) (N := 11) hx hb hts iw hown hK hP 0 rfl rfl 6 (by decide) (hts (.fieldLink RX0 35 "ReelLoom" "rows" "I") (by decide +kernel)) (fun _ h9 => h9) rfl dX0_requireRow_6 ?_
    refine lv_icmp_lt (tgt := 22) hx hb dX0_requireRow_9 (by decide) (fun h2 => ?_) (fun h2 => ?_)
    · skip
      refine vx_ret ?_
      refine W.widen (k := 1) (n := 6) (by decide) (by decide) ?_
      exact W.vret hx hb hr (fun t ht hW => ⟨rfl, ⟨h1, h2⟩, ht⟩) hS.2.2 dX0_requireRow_22
    · skip
      obtain ⟨sa, hsa⟩ := hz.2.2.2 157 "the cloth has no such row" (by decide)
      exact vx_throwS hx hb hst (own := RX0) (cls := "java/lang/IndexOutOfBoundsException") (text := "the cloth has no such row") (names := zN) (ik := 150) (is := 157) (ic := 154) (sa := sa) (A := A) hown (by decide) (by decide) (hts (.classLink RX0 150 "java/lang/IndexOutOfBoundsException") (by decide +kernel)) (hts (.initialized "java/lang/IndexOutOfBoundsException") (by decide +kernel)) hsa (zHatIO hz (fun w h => hts w (List.mem_cons_of_mem _ (List.mem_append_right _ h)))) zGdIO hz.1 hz.2.1 hS (hl.1.trans hml.symm) dX0_requireRow_12 dX0_requireRow_15 dX0_requireRow_16 dX0_requireRow_18 dX0_requireRow_21 (fun y h => (hne y h).elim) (by decide) (by decide) (by decide) (by decide) hlocks (fun t hal hz9 hk9 => ⟨by first | exact ⟨rfl, fun h => h.1 h1⟩ | exact ⟨rfl, fun h => h2 h.2⟩, hz9, hk9⟩) hS.2.2 (by decide) (by decide)
set_option maxHeartbeats 4000000 in
set_option maxRecDepth 100000 in
theorem k_X0_requireUncut (l : Launch) (hst : l.stackTraces = false) (dC : Nat → ClassId) (dI : Nat → Nat → Nat) (cyI cyZ : ClassId) (H0 : Heap) (q0 q1 q2 q3 q4 q5 q6 : Nat) (wc wl sc sl cl ct : Nat → Int32) (rw co sk ss sq : Int32) (hP : va_P (dC, dI) vwCl (wX cyI cyZ q0 q1 q2 q3 q4 q5 q6 wc wl sc sl cl ct rw co sk ss sq) H0) (hD0 : va_D (fun _ => True) (wX cyI cyZ q0 q1 q2 q3 q4 q5 q6 wc wl sc sl cl ct rw co sk ss sq)) (ro : Nat) (hro : ro < 40) : vx_Met l yX0_requireUncut wsX0_requireUncut ({ frames := 6, cells := 1, slots := 6, locals := 90 }) (va_Pc [.ref q0, .int (nI ro)] (pZ dC dI (tyW cyI cyZ) H0 (gx_new H0))) (gx_Qv (ct ro = 0) H0) (gx_X (fun E : String => E = eIS ∧ ¬ ct ro = 0) H0) 1 6 (gx_new H0) := by
  refine vx_ofW (cc := cX0_requireUncut) (maxL := 2) (ret := none) (by decide) rfl ?_
  intro p e s m args below meth c s₁ B hml hne hv
  obtain ⟨rfl, rfl, hK, hz⟩ := hv
  have hx := B.exec
  have hb := B.bytes
  have hr := B.returns
  have hts := atoms_spec (ws := wsX0_requireUncut) B.pre
  have hown : s.vm.findClass RX0 = some m.cls := findClass_of_methodNamed B.named
  have hlocks := B.notSynchronized
  have hD := hD0.self (sz := s.heap.size)
  generalize hAe : (gx_new s.heap) = A at hz ⊢
  have hA : ∀ q : Nat, s.heap.size ≤ q → A q := fun q h => by rw [← hAe]; exact h
  have hS : va_S A s.heap s.heap [] := va_S.rf
  have hl := lv_entry ([.ref q0, .int (nI ro)]) (n := 2) (Nat.le_of_ble_eq_true rfl)
  rw [lg_entry_eq]
  generalize (lg_sl ([.ref q0, .int (nI ro)]) ++ List.replicate (2 - (lg_sl ([.ref q0, .int (nI ro)])).length) Slot.unset).toArray = ls at hl ⊢
  have hl : lv_has ls 2 [(0, .ref q0), (1, .int (nI ro))] := hl
  have iw : ∀ w ∈ wsX00, w ∈ wsX0_requireUncut := by decide +kernel
  refine lv_aload_n hx hb dX0_requireUncut_0 rfl (lv_at hl 0 rfl) ?_
  refine va_get (D := (dC, dI)) (ci := 0) (v := .ref q6) (C := RX0) (T := TX0) (N := 11) hx hb hts iw hown hK hP 0 rfl rfl 5 (by decide) (hts (.fieldLink RX0 31 "ReelLoom" "rowIsCut" "[Z") (by decide +kernel)) (fun _ h9 => h9) rfl dX0_requireUncut_1 ?_
  refine lv_iload_n hx hb dX0_requireUncut_4 rfl (lv_at hl 1 rfl) ?_
  refine va_zald hx hb hK hP 6 1 rfl rfl (vp_in_nI (by omega) (by omega)) dX0_requireUncut_5 ?_
  rw [nI_clamp (show ro < 2 ^ 31 by omega)]
  refine lv_if_eq (tgt := 19) hx hb dX0_requireUncut_6 (by decide) (fun h6 => ?_) (fun h6 => ?_)
  · skip
    refine vx_ret ?_
    refine W.widen (k := 1) (n := 6) (by decide) (by decide) ?_
    exact W.vret hx hb hr (fun t ht hW => ⟨rfl, h6, ht⟩) hS.2.2 dX0_requireUncut_19
  · skip
    obtain ⟨sa, hsa⟩ := hz.2.2.2 159 "the row is cut" (by decide)
    exact vx_throwS hx hb hst (own := RX0) (cls := "java/lang/IllegalStateException") (text := "the row is cut") (names := zN) (ik := 145) (is := 159) (ic := 149) (sa := sa) (A := A) hown (by decide) (by decide) (hts (.classLink RX0 145 "java/lang/IllegalStateException") (by decide +kernel)) (hts (.initialized "java/lang/IllegalStateException") (by decide +kernel)) hsa (zHatIS hz (fun w h => hts w (List.mem_cons_of_mem _ (List.mem_append_right _ h)))) zGdIS hz.1 hz.2.1 hS (hl.1.trans hml.symm) dX0_requireUncut_9 dX0_requireUncut_12 dX0_requireUncut_13 dX0_requireUncut_15 dX0_requireUncut_18 (fun y h => (hne y h).elim) (by decide) (by decide) (by decide) (by decide) hlocks (fun t hal hz9 hk9 => ⟨⟨rfl, h6⟩, hz9, hk9⟩) hS.2.2 (by decide) (by decide)
set_option maxHeartbeats 4000000 in
set_option maxRecDepth 100000 in
theorem k_X0_requireClothCell (l : Launch) (hst : l.stackTraces = false) (dC : Nat → ClassId) (dI : Nat → Nat → Nat) (cyI cyZ : ClassId) (H0 : Heap) (q0 q1 q2 q3 q4 q5 q6 : Nat) (wc wl sc sl cl ct : Nat → Int32) (rw co sk ss sq : Int32) (hP : va_P (dC, dI) vwCl (wX cyI cyZ q0 q1 q2 q3 q4 q5 q6 wc wl sc sl cl ct rw co sk ss sq) H0) (hD0 : va_D (fun _ => True) (wX cyI cyZ q0 q1 q2 q3 q4 q5 q6 wc wl sc sl cl ct rw co sk ss sq)) (x : Int32) (y : Int32) (hrw : rw ≤ nI 40) : vx_Met l yX0_requireClothCell wsX0_requireClothCell ({ frames := 7, cells := 1, slots := 6, locals := 111 }) (va_Pc [.ref q0, .int x, .int y] (pZ dC dI (tyW cyI cyZ) H0 (gx_new H0))) (gx_Qv (lkC rw co ct x y = 0) H0) (gx_X (fun E : String => (E = eIS ∧ lkC rw co ct x y = 1) ∨ (E = eIO ∧ lkC rw co ct x y = 2)) H0) 1 6 (gx_new H0) := by
  refine vx_ofW (cc := cX0_requireClothCell) (maxL := 3) (ret := none) (by decide) rfl ?_
  intro p e s m args below meth c s₁ B hml hne hv
  obtain ⟨rfl, rfl, hK, hz⟩ := hv
  have hx := B.exec
  have hb := B.bytes
  have hr := B.returns
  have hts := atoms_spec (ws := wsX0_requireClothCell) B.pre
  have hown : s.vm.findClass RX0 = some m.cls := findClass_of_methodNamed B.named
  have hlocks := B.notSynchronized
  have hD := hD0.self (sz := s.heap.size)
  generalize hAe : (gx_new s.heap) = A at hz ⊢
  have hA : ∀ q : Nat, s.heap.size ≤ q → A q := fun q h => by rw [← hAe]; exact h
  have hS : va_S A s.heap s.heap [] := va_S.rf
  have hl := lv_entry ([.ref q0, .int x, .int y]) (n := 3) (Nat.le_of_ble_eq_true rfl)
  rw [lg_entry_eq]
  generalize (lg_sl ([.ref q0, .int x, .int y]) ++ List.replicate (3 - (lg_sl ([.ref q0, .int x, .int y])).length) Slot.unset).toArray = ls at hl ⊢
  have hl : lv_has ls 3 [(0, .ref q0), (1, .int x), (2, .int y)] := hl
  have iw : ∀ w ∈ wsX00, w ∈ wsX0_requireClothCell := by decide +kernel
  refine lv_aload_n hx hb dX0_requireClothCell_0 rfl (lv_at hl 0 rfl) ?_
  refine gx_callv (vx_runV (As := []) (rest := []) ⟨hx, hb, hml, hown, hts⟩ (k_X0_requireCloth l hst dC dI cyI cyZ _ q0 q1 q2 q3 q4 q5 q6 wc wl sc sl cl ct rw co sk ss sq hP (hD.weaken (fun _ _ _ _ => trivial))  ) (cwV 0 hts gX0_requireClothCell_X0_requireCloth rfl rfl rfl (by decide +kernel) ⟨Nat.le_of_ble_eq_true rfl, Nat.le_of_ble_eq_true rfl⟩) (pZ_V hK hz hS (fun q h => hA q (Nat.le_trans hS.1 h)) (va_recv hK hP (ci := 0) (q0 := 0) rfl rfl)) rfl rfl hl.1 rfl (lv_room (Nat.le_of_ble_eq_true rfl)) dX0_requireClothCell_1 ⟨Nat.le_of_ble_eq_true rfl, Nat.le_of_ble_eq_true rfl⟩) hS (fun q h => hA q (Nat.le_trans hS.1 h)) (fun E ce q9 H1 locs1 hbad hz9 hk9 hS9 hce hcv hcl => ?_) (fun hok => ?_)
  · skip
    exact vx_out (fun y h => (hne y h).elim) hlocks hce hcv hcl (fun t ht _ => ⟨Or.inl ⟨hbad.1, by unfold lkC; rw [if_pos hbad.2]⟩, by rw [ht]; exact hz9, fun q hq => by rw [ht]; exact hk9 q hq⟩) hS9.2.2 (by decide) (by decide)
  · skip
    have k1 := hok
    refine lv_aload_n hx hb dX0_requireClothCell_4 rfl (lv_at hl 0 rfl) ?_
    refine lv_iload_n hx hb dX0_requireClothCell_5 rfl (lv_at hl 1 rfl) ?_
    refine gx_callv (vx_runV (As := [.int x]) (rest := []) ⟨hx, hb, hml, hown, hts⟩ (k_X0_requireRow l hst dC dI cyI cyZ _ q0 q1 q2 q3 q4 q5 q6 wc wl sc sl cl ct rw co sk ss sq hP (hD.weaken (fun _ _ _ _ => trivial)) x ) (cwV 1 hts gX0_requireClothCell_X0_requireRow rfl rfl rfl (by decide +kernel) ⟨Nat.le_of_ble_eq_true rfl, Nat.le_of_ble_eq_true rfl⟩) (pZ_V hK hz hS (fun q h => hA q (Nat.le_trans hS.1 h)) (va_recv hK hP (ci := 0) (q0 := 0) rfl rfl)) rfl rfl hl.1 rfl (lv_room (Nat.le_of_ble_eq_true rfl)) dX0_requireClothCell_6 ⟨Nat.le_of_ble_eq_true rfl, Nat.le_of_ble_eq_true rfl⟩) hS (fun q h => hA q (Nat.le_trans hS.1 h)) (fun E ce q9 H1 locs1 hbad hz9 hk9 hS9 hce hcv hcl => ?_) (fun hok => ?_)
    · skip
      exact vx_out (fun y h => (hne y h).elim) hlocks hce hcv hcl (fun t ht _ => ⟨Or.inr ⟨hbad.1, by unfold lkC; rw [if_neg k1, if_pos hbad.2]⟩, by rw [ht]; exact hz9, fun q hq => by rw [ht]; exact hk9 q hq⟩) hS9.2.2 (by decide) (by decide)
    · skip
      have k2 := hok
      obtain ⟨ro, hro, rfl⟩ := in_of (n := 40) (by decide) hok.1 (i_lt hok.2 hrw)
      have e9 : (nI ro).toNatClampNeg = ro := nI_clamp (by omega)
      refine lv_aload_n hx hb dX0_requireClothCell_9 rfl (lv_at hl 0 rfl) ?_
      refine lv_iload_n hx hb dX0_requireClothCell_10 rfl (lv_at hl 1 rfl) ?_
      refine gx_callv (vx_runV (As := [.int (nI ro)]) (rest := []) ⟨hx, hb, hml, hown, hts⟩ (k_X0_requireUncut l hst dC dI cyI cyZ _ q0 q1 q2 q3 q4 q5 q6 wc wl sc sl cl ct rw co sk ss sq hP (hD.weaken (fun _ _ _ _ => trivial)) ro (by omega)) (cwV 1 hts gX0_requireClothCell_X0_requireUncut rfl rfl rfl (by decide +kernel) ⟨Nat.le_of_ble_eq_true rfl, Nat.le_of_ble_eq_true rfl⟩) (pZ_V hK hz hS (fun q h => hA q (Nat.le_trans hS.1 h)) (va_recv hK hP (ci := 0) (q0 := 0) rfl rfl)) rfl rfl hl.1 rfl (lv_room (Nat.le_of_ble_eq_true rfl)) dX0_requireClothCell_11 ⟨Nat.le_of_ble_eq_true rfl, Nat.le_of_ble_eq_true rfl⟩) hS (fun q h => hA q (Nat.le_trans hS.1 h)) (fun E ce q9 H1 locs1 hbad hz9 hk9 hS9 hce hcv hcl => ?_) (fun hok => ?_)
      · skip
        exact vx_out (fun y h => (hne y h).elim) hlocks hce hcv hcl (fun t ht _ => ⟨Or.inl ⟨hbad.1, by unfold lkC; rw [if_neg k1, if_neg (not_not_intro k2), e9, if_pos hbad.2]⟩, by rw [ht]; exact hz9, fun q hq => by rw [ht]; exact hk9 q hq⟩) hS9.2.2 (by decide) (by decide)
      · skip
        have k3 := hok
        refine lv_iload_n hx hb dX0_requireClothCell_14 rfl (lv_at hl 2 rfl) ?_
        refine lv_if_lt (tgt := 26) hx hb dX0_requireClothCell_15 (by decide) (fun h15 => ?_) (fun h15 => ?_)
        · skip
          obtain ⟨sa, hsa⟩ := hz.2.2.2 161 "the cloth has no such column" (by decide)
          exact vx_throwS hx hb hst (own := RX0) (cls := "java/lang/IndexOutOfBoundsException") (text := "the cloth has no such column") (names := zN) (ik := 150) (is := 161) (ic := 154) (sa := sa) (A := A) hown (by decide) (by decide) (hts (.classLink RX0 150 "java/lang/IndexOutOfBoundsException") (by decide +kernel)) (hts (.initialized "java/lang/IndexOutOfBoundsException") (by decide +kernel)) hsa (zHatIO hz (fun w h => hts w (List.mem_cons_of_mem _ (List.mem_append_left _ (List.mem_append_right _ h))))) zGdIO hz.1 hz.2.1 hS (hl.1.trans hml.symm) dX0_requireClothCell_26 dX0_requireClothCell_29 dX0_requireClothCell_30 dX0_requireClothCell_32 dX0_requireClothCell_35 (fun y h => (hne y h).elim) (by decide) (by decide) (by decide) (by decide) hlocks (fun t hal hz9 hk9 => ⟨Or.inr ⟨rfl, by unfold lkC; rw [if_neg k1, if_neg (not_not_intro k2), e9, if_neg (not_not_intro k3), if_pos (by first | exact fun h => h.1 h15 | exact fun h => h23 h.2)]⟩, hz9, hk9⟩) hS.2.2 (by decide) (by decide)
        · skip
          refine lv_iload_n hx hb dX0_requireClothCell_18 rfl (lv_at hl 2 rfl) ?_
          refine lv_aload_n hx hb dX0_requireClothCell_19 rfl (lv_at hl 0 rfl) ?_
          refine va_get (D := (dC, dI)) (ci := 0) (v := .int co) (C := RX0) (T := TX0) (N := 11) hx hb hts iw hown hK hP 0 rfl rfl 7 (by decide) (hts (.fieldLink RX0 39 "ReelLoom" "columns" "I") (by decide +kernel)) (fun _ h9 => h9) rfl dX0_requireClothCell_20 ?_
          refine lv_icmp_lt (tgt := 36) hx hb dX0_requireClothCell_23 (by decide) (fun h23 => ?_) (fun h23 => ?_)
          · skip
            refine vx_ret ?_
            refine W.widen (k := 1) (n := 6) (by decide) (by decide) ?_
            exact W.vret hx hb hr (fun t ht hW => ⟨rfl, by unfold lkC; rw [if_neg k1, if_neg (not_not_intro k2), e9, if_neg (not_not_intro k3), if_neg (not_not_intro ⟨h15, h23⟩)], ht⟩) hS.2.2 dX0_requireClothCell_36
          · skip
            obtain ⟨sa, hsa⟩ := hz.2.2.2 161 "the cloth has no such column" (by decide)
            exact vx_throwS hx hb hst (own := RX0) (cls := "java/lang/IndexOutOfBoundsException") (text := "the cloth has no such column") (names := zN) (ik := 150) (is := 161) (ic := 154) (sa := sa) (A := A) hown (by decide) (by decide) (hts (.classLink RX0 150 "java/lang/IndexOutOfBoundsException") (by decide +kernel)) (hts (.initialized "java/lang/IndexOutOfBoundsException") (by decide +kernel)) hsa (zHatIO hz (fun w h => hts w (List.mem_cons_of_mem _ (List.mem_append_left _ (List.mem_append_right _ h))))) zGdIO hz.1 hz.2.1 hS (hl.1.trans hml.symm) dX0_requireClothCell_26 dX0_requireClothCell_29 dX0_requireClothCell_30 dX0_requireClothCell_32 dX0_requireClothCell_35 (fun y h => (hne y h).elim) (by decide) (by decide) (by decide) (by decide) hlocks (fun t hal hz9 hk9 => ⟨Or.inr ⟨rfl, by unfold lkC; rw [if_neg k1, if_neg (not_not_intro k2), e9, if_neg (not_not_intro k3), if_pos (by first | exact fun h => h.1 h15 | exact fun h => h23 h.2)]⟩, hz9, hk9⟩) hS.2.2 (by decide) (by decide)
