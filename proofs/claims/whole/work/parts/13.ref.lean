abbrev okS (x : Int32) : Prop := ¬ x < 0 ∧ x < nI 5
abbrev okH (x : Int32) : Prop := ¬ x < 0 ∧ x ≤ nI 8
/-! the reference's own words for what a cell holds, and for the shifts: the same numbers -/
theorem hd_mm (v : Int32) : (if v < -800000 then -800000 else if 800000 < v then 800000 else v) = mm v := by
  unfold mm
  have e1 : (-800000 : Int32).toInt = -800000 := by decide
  have e2 : (800000 : Int32).toInt = 800000 := by decide
  by_cases h1 : v < -800000
  · rw [if_pos h1]
    have h2 : v < 800000 := by
      rw [Int32.lt_iff_toInt_lt] at h1 ⊢
      omega
    rw [if_pos h2, if_neg (Int32.not_lt.mpr (Int32.le_of_lt h1))]
  · rw [if_neg h1]
    by_cases h3 : 800000 < v
    · have h2 : ¬ v < 800000 := by
        rw [Int32.lt_iff_toInt_lt] at h3 ⊢
        omega
      rw [if_pos h3, if_neg h2]
      decide
    · rw [if_neg h3]
      by_cases h2 : v < 800000
      · rw [if_pos h2]
        by_cases h4 : -800000 < v
        · rw [if_pos h4]
        · rw [if_neg h4]
          apply Int32.toInt_inj.mp
          rw [Int32.lt_iff_toInt_lt] at h1 h4
          omega
      · rw [if_neg h2]
        have : v = 800000 := by
          apply Int32.toInt_inj.mp
          rw [Int32.lt_iff_toInt_lt] at h2 h3
          omega
        subst this
        decide
theorem m16 (v : Int32) : ∃ k : Nat, k < 65536 ∧ v &&& 65535 = nI k ∧ v.toInt16.toInt32.toInt = if k < 32768 then (k : Int) else (k : Int) - 65536 := by
  refine ⟨v.toBitVec.toNat % 65536, Nat.mod_lt _ (by decide), pk_and v 16 (by decide), ?_⟩
  have h1 : v.toInt16.toInt32.toInt = v.toInt16.toInt := by simp
  have h2 : v.toInt16.toInt = v.toInt.bmod 65536 := Int32.toInt_toInt16 v
  have h3 : v.toInt = if 2 * v.toBitVec.toNat < 4294967296 then (v.toBitVec.toNat : Int) else (v.toBitVec.toNat : Int) - 4294967296 := BitVec.toInt_eq_toNat_cond v.toBitVec
  have h4 : v.toBitVec.toNat < 4294967296 := v.toBitVec.isLt
  rw [h1, h2, Int.bmod_def, h3]
  split <;> split <;> split <;> omega
theorem m8 (v : Int32) : ∃ k : Nat, k < 256 ∧ v &&& 255 = nI k ∧ v.toInt8.toInt32.toInt = if k < 128 then (k : Int) else (k : Int) - 256 := by
  refine ⟨v.toBitVec.toNat % 256, Nat.mod_lt _ (by decide), pk_and v 8 (by decide), ?_⟩
  have h1 : v.toInt8.toInt32.toInt = v.toInt8.toInt := by simp
  have h2 : v.toInt8.toInt = v.toInt.bmod 256 := Int32.toInt_toInt8 v
  have h3 : v.toInt = if 2 * v.toBitVec.toNat < 4294967296 then (v.toBitVec.toNat : Int) else (v.toBitVec.toNat : Int) - 4294967296 := BitVec.toInt_eq_toNat_cond v.toBitVec
  have h4 : v.toBitVec.toNat < 4294967296 := v.toBitVec.isLt
  rw [h1, h2, Int.bmod_def, h3]
  split <;> split <;> split <;> omega
theorem hd16a {v : Int32} (h : ¬ (32768 : Int32) ≤ v &&& 65535) : v &&& 65535 = v.toInt16.toInt32 := by
  obtain ⟨k, hk, e1, e2⟩ := m16 v
  apply Int32.toInt_inj.mp
  rw [e1, nI_toInt (by omega), e2]
  rw [e1, show (32768 : Int32) = nI 32768 by decide, nI_leI (by decide) (by omega)] at h
  rw [if_pos (by omega)]
theorem hd16b {v : Int32} (h : (32768 : Int32) ≤ v &&& 65535) : (v &&& 65535) - 65536 = v.toInt16.toInt32 := by
  obtain ⟨k, hk, e1, e2⟩ := m16 v
  apply Int32.toInt_inj.mp
  rw [e1, show (32768 : Int32) = nI 32768 by decide, nI_leI (by decide) (by omega)] at h
  rw [e1, show (65536 : Int32) = nI 65536 by decide, pk_sub_toInt (by omega) (by decide), e2, if_neg (by omega)]
  omega
theorem hd8a {v : Int32} (h : ¬ (128 : Int32) ≤ v &&& 255) : v &&& 255 = v.toInt8.toInt32 := by
  obtain ⟨k, hk, e1, e2⟩ := m8 v
  apply Int32.toInt_inj.mp
  rw [e1, nI_toInt (by omega), e2]
  rw [e1, show (128 : Int32) = nI 128 by decide, nI_leI (by decide) (by omega)] at h
  rw [if_pos (by omega)]
theorem hd8b {v : Int32} (h : (128 : Int32) ≤ v &&& 255) : (v &&& 255) - 256 = v.toInt8.toInt32 := by
  obtain ⟨k, hk, e1, e2⟩ := m8 v
  apply Int32.toInt_inj.mp
  rw [e1, show (128 : Int32) = nI 128 by decide, nI_leI (by decide) (by omega)] at h
  rw [e1, show (256 : Int32) = nI 256 by decide, pk_sub_toInt (by omega) (by decide), e2, if_neg (by omega)]
  omega
theorem a31 (v : Int32) : (v &&& 31) &&& 31 = v &&& 31 := by
  rw [Int32.and_assoc]
  rfl
theorem a31u (v : Int32) : (v &&& 31).toUInt32 &&& Int32.toUInt32 31 = v.toUInt32 &&& Int32.toUInt32 31 := by
  have : (v &&& 31).toUInt32 = v.toUInt32 &&& Int32.toUInt32 31 := rfl
  rw [this, UInt32.and_assoc]
  rfl
/-- what a place of a reel lacks, in the reference's numbers -/
def lkI (w y : Int32) : Int32 := if w = -1 then 1 else if ¬ (¬ y < 0 ∧ y < w) then 2 else 0
def rfz (b z : Int32) : Int32 := if ¬ b = 0 then 1 else if z = 1 then 2 else if z = 2 then 3 else 0
def swm (f : Nat → Int32) (b : Nat) : Nat → (Nat → Int32)
  | 0 => f
  | n + 1 => upd (upd (swm f b n) (b + n) (swm f b n (b + (64 + n)))) (b + (64 + n)) (swm f b n (b + n))
def cpm (f : Nat → Int32) (b : Nat) : Nat → (Nat → Int32)
  | 0 => f
  | n + 1 => upd (cpm f b n) (b + (64 + n)) (cpm f b n (b + n))
set_option maxHeartbeats 4000000 in
set_option maxRecDepth 100000 in
theorem k_X1_thrown (l : Launch) (dC : Nat → ClassId) (dI : Nat → Nat → Nat) (cyI cyZ : ClassId) (H0 : Heap) (p0 p1 p2 p3 p4 : Nat) (mn me ml mt : Nat → Int32) (th wo mr mo mk mz mq : Int32) (hP : va_P (dC, dI) vwCl (wM cyI cyZ p0 p1 p2 p3 p4 mn me ml mt th wo mr mo mk mz mq) H0) (hD0 : va_D (fun _ => True) (wM cyI cyZ p0 p1 p2 p3 p4 mn me ml mt th wo mr mo mk mz mq))   : Met l yX1_thrown wsX1_thrown ({ frames := 0, cells := 0, slots := 0, locals := 0 }) (va_Pc [.ref p0] (pK dC dI (tyW cyI cyZ) H0)) (gx_Qi (fun r : Int32 => r = th) H0) 0 0 (gx_new H0) := by
  refine Met.ofW (cc := cX1_thrown) (maxL := 1) (ret := (some .int)) (by decide) rfl ?_
  intro p e s m args below meth c s₁ B hml hv
  obtain ⟨rfl, rfl, hK⟩ := hv
  have hx := B.exec
  have hb := B.bytes
  have hr := B.returns
  have hts := atoms_spec (ws := wsX1_thrown) B.pre
  have hown : s.vm.findClass RX1 = some m.cls := findClass_of_methodNamed B.named
  have hlocks := B.notSynchronized
  have hD := hD0.self (sz := s.heap.size)
  generalize hAe : (gx_new s.heap) = A at ⊢
  have hA : ∀ q : Nat, s.heap.size ≤ q → A q := fun q h => by rw [← hAe]; exact h
  have hS : va_S A s.heap s.heap [] := va_S.rf
  have hl := lv_entry ([.ref p0]) (n := 1) (Nat.le_of_ble_eq_true rfl)
  rw [lg_entry_eq]
  generalize (lg_sl ([.ref p0]) ++ List.replicate (1 - (lg_sl ([.ref p0])).length) Slot.unset).toArray = ls at hl ⊢
  have hl : lv_has ls 1 [(0, .ref p0)] := hl
  have iw : ∀ w ∈ wsX10, w ∈ wsX1_thrown := by decide +kernel
  refine lv_aload_n hx hb dX1_thrown_0 rfl (lv_at hl 0 rfl) ?_
  refine va_get (D := (dC, dI)) (ci := 1) (v := .int th) (C := RX1) (T := TX1) (N := 11) hx hb hts iw hown hK hP 0 rfl rfl 0 (by decide) (hts (.fieldLink RX1 23 "ReelLoomModel" "thrown" "I") (by decide +kernel)) (fun _ h9 => h9) rfl dX1_thrown_1 ?_
  exact W.iret (v := th) hx hb hr (fun t ht hW => ⟨th, rfl, rfl, ht⟩) hS.2.2 dX1_thrown_4
set_option maxHeartbeats 4000000 in
set_option maxRecDepth 100000 in
theorem k_X1_isSort (l : Launch) (dC : Nat → ClassId) (dI : Nat → Nat → Nat)  (H0 : Heap)   (x : Int32)  : Met l yX1_isSort wsX1_isSort ({ frames := 0, cells := 0, slots := 0, locals := 0 }) (va_Pc [.int x] (pK dC dI ([]) H0)) (gx_Qi (fun r : Int32 => (r = 1 ∧ okS x) ∨ (r = 0 ∧ ¬ okS x)) H0) 0 0 (gx_new H0) := by
  refine Met.ofW (cc := cX1_isSort) (maxL := 1) (ret := (some .boolean)) (by decide) rfl ?_
  intro p e s m args below meth c s₁ B hml hv
  obtain ⟨rfl, rfl, hK⟩ := hv
  have hx := B.exec
  have hb := B.bytes
  have hr := B.returns
  have hts := atoms_spec (ws := wsX1_isSort) B.pre
  have hown : s.vm.findClass RX1 = some m.cls := findClass_of_methodNamed B.named
  have hlocks := B.notSynchronized
  generalize hAe : (gx_new s.heap) = A at ⊢
  have hA : ∀ q : Nat, s.heap.size ≤ q → A q := fun q h => by rw [← hAe]; exact h
  have hS : va_S A s.heap s.heap [] := va_S.rf
  have hl := lv_entry ([.int x]) (n := 1) (Nat.le_of_ble_eq_true rfl)
  rw [lg_entry_eq]
  generalize (lg_sl ([.int x]) ++ List.replicate (1 - (lg_sl ([.int x])).length) Slot.unset).toArray = ls at hl ⊢
  have hl : lv_has ls 1 [(0, .int x)] := hl
  refine lv_iload_n hx hb dX1_isSort_0 rfl (lv_at hl 0 rfl) ?_
  refine lv_if_lt (tgt := 13) hx hb dX1_isSort_1 (by decide) (fun h1 => ?_) (fun h1 => ?_)
  · skip
    refine lv_iconst (v := 0) hx hb dX1_isSort_13 (by decide) ?_
    exact W.zret (v := 0) (ty := .boolean) hx hb hr rfl (fun t ht hW => ⟨0, rfl, Or.inr ⟨rfl, fun h => by first | exact h.1 h1 | exact Int32.not_lt.mpr h6 h.2⟩, ht⟩) hS.2.2 dX1_isSort_14
  · skip
    refine lv_iload_n hx hb dX1_isSort_4 rfl (lv_at hl 0 rfl) ?_
    refine lv_iconst (v := nI 5) hx hb dX1_isSort_5 (by decide) ?_
    refine lv_icmp_ge (tgt := 13) hx hb dX1_isSort_6 (by decide) (fun h6 => ?_) (fun h6 => ?_)
    · skip
      refine lv_iconst (v := 0) hx hb dX1_isSort_13 (by decide) ?_
      exact W.zret (v := 0) (ty := .boolean) hx hb hr rfl (fun t ht hW => ⟨0, rfl, Or.inr ⟨rfl, fun h => by first | exact h.1 h1 | exact Int32.not_lt.mpr h6 h.2⟩, ht⟩) hS.2.2 dX1_isSort_14
    · skip
      refine lv_iconst (v := 1) hx hb dX1_isSort_9 (by decide) ?_
      refine lv_goto (tgt := 14) hx hb dX1_isSort_10 (by decide) ?_
      exact W.zret (v := 1) (ty := .boolean) hx hb hr rfl (fun t ht hW => ⟨1, rfl, Or.inl ⟨rfl, h1, Int32.not_le.mp h6⟩, ht⟩) hS.2.2 dX1_isSort_14
set_option maxHeartbeats 4000000 in
set_option maxRecDepth 100000 in
theorem k_X1_isHow (l : Launch) (dC : Nat → ClassId) (dI : Nat → Nat → Nat)  (H0 : Heap)   (x : Int32)  : Met l yX1_isHow wsX1_isHow ({ frames := 0, cells := 0, slots := 0, locals := 0 }) (va_Pc [.int x] (pK dC dI ([]) H0)) (gx_Qi (fun r : Int32 => (r = 1 ∧ okH x) ∨ (r = 0 ∧ ¬ okH x)) H0) 0 0 (gx_new H0) := by
  refine Met.ofW (cc := cX1_isHow) (maxL := 1) (ret := (some .boolean)) (by decide) rfl ?_
  intro p e s m args below meth c s₁ B hml hv
  obtain ⟨rfl, rfl, hK⟩ := hv
  have hx := B.exec
  have hb := B.bytes
  have hr := B.returns
  have hts := atoms_spec (ws := wsX1_isHow) B.pre
  have hown : s.vm.findClass RX1 = some m.cls := findClass_of_methodNamed B.named
  have hlocks := B.notSynchronized
  generalize hAe : (gx_new s.heap) = A at ⊢
  have hA : ∀ q : Nat, s.heap.size ≤ q → A q := fun q h => by rw [← hAe]; exact h
  have hS : va_S A s.heap s.heap [] := va_S.rf
  have hl := lv_entry ([.int x]) (n := 1) (Nat.le_of_ble_eq_true rfl)
  rw [lg_entry_eq]
  generalize (lg_sl ([.int x]) ++ List.replicate (1 - (lg_sl ([.int x])).length) Slot.unset).toArray = ls at hl ⊢
  have hl : lv_has ls 1 [(0, .int x)] := hl
  refine lv_iload_n hx hb dX1_isHow_0 rfl (lv_at hl 0 rfl) ?_
  refine lv_if_lt (tgt := 14) hx hb dX1_isHow_1 (by decide) (fun h1 => ?_) (fun h1 => ?_)
  · skip
    refine lv_iconst (v := 0) hx hb dX1_isHow_14 (by decide) ?_
    exact W.zret (v := 0) (ty := .boolean) hx hb hr rfl (fun t ht hW => ⟨0, rfl, Or.inr ⟨rfl, fun h => by first | exact h.1 h1 | exact Int32.not_le.mpr h6 h.2⟩, ht⟩) hS.2.2 dX1_isHow_15
  · skip
    refine lv_iload_n hx hb dX1_isHow_4 rfl (lv_at hl 0 rfl) ?_
    refine lv_bipush (v := nI 8) hx hb dX1_isHow_5 (by decide) ?_
    refine lv_icmp_gt (tgt := 14) hx hb dX1_isHow_7 (by decide) (fun h6 => ?_) (fun h6 => ?_)
    · skip
      refine lv_iconst (v := 0) hx hb dX1_isHow_14 (by decide) ?_
      exact W.zret (v := 0) (ty := .boolean) hx hb hr rfl (fun t ht hW => ⟨0, rfl, Or.inr ⟨rfl, fun h => by first | exact h.1 h1 | exact Int32.not_le.mpr h6 h.2⟩, ht⟩) hS.2.2 dX1_isHow_15
    · skip
      refine lv_iconst (v := 1) hx hb dX1_isHow_10 (by decide) ?_
      refine lv_goto (tgt := 15) hx hb dX1_isHow_11 (by decide) ?_
      exact W.zret (v := 1) (ty := .boolean) hx hb hr rfl (fun t ht hW => ⟨1, rfl, Or.inl ⟨rfl, h1, Int32.not_lt.mp h6⟩, ht⟩) hS.2.2 dX1_isHow_15
set_option maxHeartbeats 4000000 in
set_option maxRecDepth 100000 in
theorem k_X1_within (l : Launch) (dC : Nat → ClassId) (dI : Nat → Nat → Nat)  (H0 : Heap)   (a : Int32) (b : Int32) (c9 : Int32)  : Met l yX1_within wsX1_within ({ frames := 0, cells := 0, slots := 0, locals := 0 }) (va_Pc [.int a, .int b, .int c9] (pK dC dI ([]) H0)) (gx_Qi (fun r : Int32 => r = (if a < b then b else if c9 < a then c9 else a)) H0) 0 0 (gx_new H0) := by
  refine Met.ofW (cc := cX1_within) (maxL := 3) (ret := (some .int)) (by decide) rfl ?_
  intro p e s m args below meth c s₁ B hml hv
  obtain ⟨rfl, rfl, hK⟩ := hv
  have hx := B.exec
  have hb := B.bytes
  have hr := B.returns
  have hts := atoms_spec (ws := wsX1_within) B.pre
  have hown : s.vm.findClass RX1 = some m.cls := findClass_of_methodNamed B.named
  have hlocks := B.notSynchronized
  generalize hAe : (gx_new s.heap) = A at ⊢
  have hA : ∀ q : Nat, s.heap.size ≤ q → A q := fun q h => by rw [← hAe]; exact h
  have hS : va_S A s.heap s.heap [] := va_S.rf
  have hl := lv_entry ([.int a, .int b, .int c9]) (n := 3) (Nat.le_of_ble_eq_true rfl)
  rw [lg_entry_eq]
  generalize (lg_sl ([.int a, .int b, .int c9]) ++ List.replicate (3 - (lg_sl ([.int a, .int b, .int c9])).length) Slot.unset).toArray = ls at hl ⊢
  have hl : lv_has ls 3 [(0, .int a), (1, .int b), (2, .int c9)] := hl
  refine lv_iload_n hx hb dX1_within_0 rfl (lv_at hl 0 rfl) ?_
  refine lv_iload_n hx hb dX1_within_1 rfl (lv_at hl 1 rfl) ?_
  refine lv_icmp_ge (tgt := 9) hx hb dX1_within_2 (by decide) (fun h2 => ?_) (fun h2 => ?_)
  · skip
    refine lv_iload_n hx hb dX1_within_9 rfl (lv_at hl 0 rfl) ?_
    refine lv_iload_n hx hb dX1_within_10 rfl (lv_at hl 2 rfl) ?_
    refine lv_icmp_le (tgt := 18) hx hb dX1_within_11 (by decide) (fun h11 => ?_) (fun h11 => ?_)
    · skip
      refine lv_iload_n hx hb dX1_within_18 rfl (lv_at hl 0 rfl) ?_
      exact W.iret (v := a) hx hb hr (fun t ht hW => ⟨a, rfl, by rw [if_neg (Int32.not_lt.mpr h2), if_neg (Int32.not_lt.mpr h11)], ht⟩) hS.2.2 dX1_within_19
    · skip
      refine lv_iload_n hx hb dX1_within_14 rfl (lv_at hl 2 rfl) ?_
      refine lv_goto (tgt := 19) hx hb dX1_within_15 (by decide) ?_
      exact W.iret (v := c9) hx hb hr (fun t ht hW => ⟨c9, rfl, by rw [if_neg (Int32.not_lt.mpr h2), if_pos (Int32.not_le.mp h11)], ht⟩) hS.2.2 dX1_within_19
  · skip
    refine lv_iload_n hx hb dX1_within_5 rfl (lv_at hl 1 rfl) ?_
    refine lv_goto (tgt := 19) hx hb dX1_within_6 (by decide) ?_
    exact W.iret (v := b) hx hb hr (fun t ht hW => ⟨b, rfl, by rw [if_pos (Int32.not_le.mp h2)], ht⟩) hS.2.2 dX1_within_19
set_option maxHeartbeats 4000000 in
set_option maxRecDepth 100000 in
theorem k_X1_held (l : Launch) (dC : Nat → ClassId) (dI : Nat → Nat → Nat)  (H0 : Heap)   (so : Nat) (v : Int32) (hso : so < 5) : Met l yX1_held wsX1_held ({ frames := 1, cells := 0, slots := 0, locals := 22 }) (va_Pc [.int (nI so), .int v] (pK dC dI ([]) H0)) (gx_Qi (fun r : Int32 => r = ft so v) H0) 0 0 (gx_new H0) := by
  refine Met.ofW (cc := cX1_held) (maxL := 2) (ret := (some .int)) (by decide) rfl ?_
  intro p e s m args below meth c s₁ B hml hv
  obtain ⟨rfl, rfl, hK⟩ := hv
  have hx := B.exec
  have hb := B.bytes
  have hr := B.returns
  have hts := atoms_spec (ws := wsX1_held) B.pre
  have hown : s.vm.findClass RX1 = some m.cls := findClass_of_methodNamed B.named
  have hlocks := B.notSynchronized
  generalize hAe : (gx_new s.heap) = A at ⊢
  have hA : ∀ q : Nat, s.heap.size ≤ q → A q := fun q h => by rw [← hAe]; exact h
  have hS : va_S A s.heap s.heap [] := va_S.rf
  have hl := lv_entry ([.int (nI so), .int v]) (n := 2) (Nat.le_of_ble_eq_true rfl)
  rw [lg_entry_eq]
  generalize (lg_sl ([.int (nI so), .int v]) ++ List.replicate (2 - (lg_sl ([.int (nI so), .int v])).length) Slot.unset).toArray = ls at hl ⊢
  have hl : lv_has ls 2 [(0, .int (nI so)), (1, .int v)] := hl
  refine lv_iload_n hx hb dX1_held_0 rfl (lv_at hl 0 rfl) ?_
  rcases (show so = 0 ∨ so = 1 ∨ so = 2 ∨ so = 3 ∨ so = 4 by omega) with rfl | rfl | rfl | rfl | rfl
  · skip
    refine lv_tableIn (off := 35) (tgt := 36) hx hb dX1_held_1 (by decide +kernel) (by decide +kernel) (by decide +kernel) (by decide) ?_
    refine lv_iload_n hx hb dX1_held_36 rfl (lv_at hl 1 rfl) ?_
    refine lv_ldc (v := 65535) hx hb hown (hts (.constant RX1 27 (65535)) (by decide +kernel)) dX1_held_37 ?_
    refine lv_iand hx hb dX1_held_39 ?_
    exact W.iret (v := (v &&& 65535)) hx hb hr (fun t ht hW => ⟨(v &&& 65535), rfl, rfl, ht⟩) hS.2.2 dX1_held_40
  · skip
    refine lv_tableIn (off := 40) (tgt := 41) hx hb dX1_held_1 (by decide +kernel) (by decide +kernel) (by decide +kernel) (by decide) ?_
    refine lv_iload_n hx hb dX1_held_41 rfl (lv_at hl 1 rfl) ?_
    refine lv_ldc (v := 65535) hx hb hown (hts (.constant RX1 27 (65535)) (by decide +kernel)) dX1_held_42 ?_
    refine lv_iand hx hb dX1_held_44 ?_
    refine lv_ldc (v := 32768) hx hb hown (hts (.constant RX1 28 (32768)) (by decide +kernel)) dX1_held_45 ?_
    refine lv_icmp_ge (tgt := 57) hx hb dX1_held_47 (by decide) (fun h47 => ?_) (fun h47 => ?_)
    · skip
      refine lv_iload_n hx hb dX1_held_57 rfl (lv_at hl 1 rfl) ?_
      refine lv_ldc (v := 65535) hx hb hown (hts (.constant RX1 27 (65535)) (by decide +kernel)) dX1_held_58 ?_
      refine lv_iand hx hb dX1_held_60 ?_
      refine lv_ldc (v := 65536) hx hb hown (hts (.constant RX1 29 (65536)) (by decide +kernel)) dX1_held_61 ?_
      refine lv_isub hx hb dX1_held_63 ?_
      exact W.iret (v := ((v &&& 65535) - 65536)) hx hb hr (fun t ht hW => ⟨((v &&& 65535) - 65536), rfl, by first | exact hd16b h47 | exact hd16a h47, ht⟩) hS.2.2 dX1_held_64
    · skip
      refine lv_iload_n hx hb dX1_held_50 rfl (lv_at hl 1 rfl) ?_
      refine lv_ldc (v := 65535) hx hb hown (hts (.constant RX1 27 (65535)) (by decide +kernel)) dX1_held_51 ?_
      refine lv_iand hx hb dX1_held_53 ?_
      refine lv_goto (tgt := 64) hx hb dX1_held_54 (by decide) ?_
      exact W.iret (v := (v &&& 65535)) hx hb hr (fun t ht hW => ⟨(v &&& 65535), rfl, by first | exact hd16b h47 | exact hd16a h47, ht⟩) hS.2.2 dX1_held_64
  · skip
    refine lv_tableIn (off := 64) (tgt := 65) hx hb dX1_held_1 (by decide +kernel) (by decide +kernel) (by decide +kernel) (by decide) ?_
    refine lv_iload_n hx hb dX1_held_65 rfl (lv_at hl 1 rfl) ?_
    refine lv_ldc (v := -800000) hx hb hown (hts (.constant RX1 30 (-800000)) (by decide +kernel)) dX1_held_66 ?_
    refine lv_ldc (v := 800000) hx hb hown (hts (.constant RX1 31 (800000)) (by decide +kernel)) dX1_held_68 ?_
    refine gx_calli (va_runS (As := [.int v, .int (-800000), .int 800000]) (rest := []) ⟨hx, hb, hml, hown, hts⟩ (k_X1_within l dC dI  _   v (-800000) 800000 ) (va_cwS 3 hts gX1_held_X1_within rfl rfl rfl (by decide +kernel) ⟨Nat.le_of_ble_eq_true rfl, Nat.le_of_ble_eq_true rfl⟩) (pK_S hK) rfl rfl hl.1 rfl (lv_room (Nat.le_of_ble_eq_true rfl)) dX1_held_70 ⟨Nat.le_of_ble_eq_true rfl, Nat.le_of_ble_eq_true rfl⟩) (fun r_2 hr_2 => ?_)
    subst hr_2
    exact W.iret (v := (if v < ((-800000)) then ((-800000)) else if 800000 < v then 800000 else v)) hx hb hr (fun t ht hW => ⟨(if v < ((-800000)) then ((-800000)) else if 800000 < v then 800000 else v), rfl, hd_mm v, ht⟩) hS.2.2 dX1_held_73
  · skip
    refine lv_tableIn (off := 73) (tgt := 74) hx hb dX1_held_1 (by decide +kernel) (by decide +kernel) (by decide +kernel) (by decide) ?_
    refine lv_iload_n hx hb dX1_held_74 rfl (lv_at hl 1 rfl) ?_
    refine lv_if_ne (tgt := 82) hx hb dX1_held_75 (by decide) (fun h75 => ?_) (fun h75 => ?_)
    · skip
      refine lv_iconst (v := 1) hx hb dX1_held_82 (by decide) ?_
      exact W.iret (v := 1) hx hb hr (fun t ht hW => ⟨1, rfl, by simp_all [ft], ht⟩) hS.2.2 dX1_held_83
    · skip
      refine lv_iconst (v := 0) hx hb dX1_held_78 (by decide) ?_
      refine lv_goto (tgt := 83) hx hb dX1_held_79 (by decide) ?_
      exact W.iret (v := 0) hx hb hr (fun t ht hW => ⟨0, rfl, by simp_all [ft], ht⟩) hS.2.2 dX1_held_83
  · skip
    refine lv_tableIn (off := 83) (tgt := 84) hx hb dX1_held_1 (by decide +kernel) (by decide +kernel) (by decide +kernel) (by decide) ?_
    refine lv_iload_n hx hb dX1_held_84 rfl (lv_at hl 1 rfl) ?_
    refine lv_sipush (v := 255) hx hb dX1_held_85 (by decide) ?_
    refine lv_iand hx hb dX1_held_88 ?_
    refine lv_sipush (v := 128) hx hb dX1_held_89 (by decide) ?_
    refine lv_icmp_ge (tgt := 103) hx hb dX1_held_92 (by decide) (fun h92 => ?_) (fun h92 => ?_)
    · skip
      refine lv_iload_n hx hb dX1_held_103 rfl (lv_at hl 1 rfl) ?_
      refine lv_sipush (v := 255) hx hb dX1_held_104 (by decide) ?_
      refine lv_iand hx hb dX1_held_107 ?_
      refine lv_sipush (v := 256) hx hb dX1_held_108 (by decide) ?_
      refine lv_isub hx hb dX1_held_111 ?_
      exact W.iret (v := ((v &&& 255) - 256)) hx hb hr (fun t ht hW => ⟨((v &&& 255) - 256), rfl, by first | exact hd8b h92 | exact hd8a h92, ht⟩) hS.2.2 dX1_held_112
    · skip
      refine lv_iload_n hx hb dX1_held_95 rfl (lv_at hl 1 rfl) ?_
      refine lv_sipush (v := 255) hx hb dX1_held_96 (by decide) ?_
      refine lv_iand hx hb dX1_held_99 ?_
      refine lv_goto (tgt := 112) hx hb dX1_held_100 (by decide) ?_
      exact W.iret (v := (v &&& 255)) hx hb hr (fun t ht hW => ⟨(v &&& 255), rfl, by first | exact hd8b h92 | exact hd8a h92, ht⟩) hS.2.2 dX1_held_112
set_option maxHeartbeats 4000000 in
set_option maxRecDepth 100000 in
theorem k_X1_altered (l : Launch) (dC : Nat → ClassId) (dI : Nat → Nat → Nat)  (H0 : Heap)   (a : Int32) (h : Int32) (v : Int32)  : Met l yX1_altered wsX1_altered ({ frames := 0, cells := 0, slots := 0, locals := 0 }) (va_Pc [.int a, .int h, .int v] (pK dC dI ([]) H0)) (gx_Qi (fun r : Int32 => r = cb a h v) H0) 0 0 (gx_new H0) := by
  refine Met.ofW (cc := cX1_altered) (maxL := 4) (ret := (some .int)) (by decide) rfl ?_
  intro p e s m args below meth c s₁ B hml hv
  obtain ⟨rfl, rfl, hK⟩ := hv
  have hx := B.exec
  have hb := B.bytes
  have hr := B.returns
  have hts := atoms_spec (ws := wsX1_altered) B.pre
  have hown : s.vm.findClass RX1 = some m.cls := findClass_of_methodNamed B.named
  have hlocks := B.notSynchronized
  generalize hAe : (gx_new s.heap) = A at ⊢
  have hA : ∀ q : Nat, s.heap.size ≤ q → A q := fun q h => by rw [← hAe]; exact h
  have hS : va_S A s.heap s.heap [] := va_S.rf
  have hl := lv_entry ([.int a, .int h, .int v]) (n := 4) (Nat.le_of_ble_eq_true rfl)
  rw [lg_entry_eq]
  generalize (lg_sl ([.int a, .int h, .int v]) ++ List.replicate (4 - (lg_sl ([.int a, .int h, .int v])).length) Slot.unset).toArray = ls at hl ⊢
  have hl : lv_has ls 4 [(0, .int a), (1, .int h), (2, .int v)] := hl
  refine lv_iload_n hx hb dX1_altered_0 rfl (lv_at hl 2 rfl) ?_
  refine lv_bipush (v := 31) hx hb dX1_altered_1 (by decide) ?_
  refine lv_iand hx hb dX1_altered_3 ?_
  refine lv_istore_n (lv' := [(3, .int (v &&& 31)), (0, .int a), (1, .int h), (2, .int v)]) hx hb dX1_altered_4 rfl hl (by decide) rfl (fun ls hl => ?_)
  refine lv_iload_n hx hb dX1_altered_5 rfl (lv_at hl 2 rfl) ?_
  rcases sw8 h with rfl | rfl | rfl | rfl | rfl | rfl | rfl | rfl | hout
  · skip
    refine lv_tableIn (off := 46) (tgt := 52) hx hb dX1_altered_6 (by decide +kernel) (by decide +kernel) (by decide +kernel) (by decide) ?_
    refine lv_iload_n hx hb dX1_altered_52 rfl (lv_at hl 1 rfl) ?_
    refine lv_iload_n hx hb dX1_altered_53 rfl (lv_at hl 3 rfl) ?_
    refine lv_iadd hx hb dX1_altered_54 ?_
    exact W.iret (v := (a + v)) hx hb hr (fun t ht hW => ⟨(a + v), rfl, by rfl, ht⟩) hS.2.2 dX1_altered_55
  · skip
    refine lv_tableIn (off := 50) (tgt := 56) hx hb dX1_altered_6 (by decide +kernel) (by decide +kernel) (by decide +kernel) (by decide) ?_
    refine lv_iload_n hx hb dX1_altered_56 rfl (lv_at hl 1 rfl) ?_
    refine lv_iload_n hx hb dX1_altered_57 rfl (lv_at hl 3 rfl) ?_
    refine lv_isub hx hb dX1_altered_58 ?_
    exact W.iret (v := (a - v)) hx hb hr (fun t ht hW => ⟨(a - v), rfl, by rfl, ht⟩) hS.2.2 dX1_altered_59
  · skip
    refine lv_tableIn (off := 54) (tgt := 60) hx hb dX1_altered_6 (by decide +kernel) (by decide +kernel) (by decide +kernel) (by decide) ?_
    refine lv_iload_n hx hb dX1_altered_60 rfl (lv_at hl 1 rfl) ?_
    refine lv_iload_n hx hb dX1_altered_61 rfl (lv_at hl 3 rfl) ?_
    refine lv_imul hx hb dX1_altered_62 ?_
    exact W.iret (v := (a * v)) hx hb hr (fun t ht hW => ⟨(a * v), rfl, by rfl, ht⟩) hS.2.2 dX1_altered_63
  · skip
    refine lv_tableIn (off := 58) (tgt := 64) hx hb dX1_altered_6 (by decide +kernel) (by decide +kernel) (by decide +kernel) (by decide) ?_
    refine lv_iload_n hx hb dX1_altered_64 rfl (lv_at hl 1 rfl) ?_
    refine lv_iload_n hx hb dX1_altered_65 rfl (lv_at hl 3 rfl) ?_
    refine lv_iand hx hb dX1_altered_66 ?_
    exact W.iret (v := (a &&& v)) hx hb hr (fun t ht hW => ⟨(a &&& v), rfl, by rfl, ht⟩) hS.2.2 dX1_altered_67
  · skip
    refine lv_tableIn (off := 62) (tgt := 68) hx hb dX1_altered_6 (by decide +kernel) (by decide +kernel) (by decide +kernel) (by decide) ?_
    refine lv_iload_n hx hb dX1_altered_68 rfl (lv_at hl 1 rfl) ?_
    refine lv_iload_n hx hb dX1_altered_69 rfl (lv_at hl 3 rfl) ?_
    refine lv_ior hx hb dX1_altered_70 ?_
    exact W.iret (v := (a ||| v)) hx hb hr (fun t ht hW => ⟨(a ||| v), rfl, by rfl, ht⟩) hS.2.2 dX1_altered_71
  · skip
    refine lv_tableIn (off := 66) (tgt := 72) hx hb dX1_altered_6 (by decide +kernel) (by decide +kernel) (by decide +kernel) (by decide) ?_
    refine lv_iload_n hx hb dX1_altered_72 rfl (lv_at hl 1 rfl) ?_
    refine lv_iload_n hx hb dX1_altered_73 rfl (lv_at hl 3 rfl) ?_
    refine lv_ixor hx hb dX1_altered_74 ?_
    exact W.iret (v := (a ^^^ v)) hx hb hr (fun t ht hW => ⟨(a ^^^ v), rfl, by rfl, ht⟩) hS.2.2 dX1_altered_75
  · skip
    refine lv_tableIn (off := 70) (tgt := 76) hx hb dX1_altered_6 (by decide +kernel) (by decide +kernel) (by decide +kernel) (by decide) ?_
    refine lv_iload_n hx hb dX1_altered_76 rfl (lv_at hl 1 rfl) ?_
    refine lv_iload_n hx hb dX1_altered_77 rfl (lv_at hl 0 rfl) ?_
    refine lv_ishl hx hb dX1_altered_78 ?_
    exact W.iret (v := (a <<< ((v &&& 31) &&& 31))) hx hb hr (fun t ht hW => ⟨(a <<< ((v &&& 31) &&& 31)), rfl, by rw [a31]; rfl, ht⟩) hS.2.2 dX1_altered_79
  · skip
    refine lv_tableIn (off := 74) (tgt := 80) hx hb dX1_altered_6 (by decide +kernel) (by decide +kernel) (by decide +kernel) (by decide) ?_
    refine lv_iload_n hx hb dX1_altered_80 rfl (lv_at hl 1 rfl) ?_
    refine lv_iload_n hx hb dX1_altered_81 rfl (lv_at hl 0 rfl) ?_
    refine lv_ishr hx hb dX1_altered_82 ?_
    exact W.iret (v := (a >>> ((v &&& 31) &&& 31))) hx hb hr (fun t ht hW => ⟨(a >>> ((v &&& 31) &&& 31)), rfl, by rw [a31]; rfl, ht⟩) hS.2.2 dX1_altered_83
  · skip
    refine lv_tableOut (tgt := 84) hx hb dX1_altered_6 hout (by decide) ?_
    refine lv_iload_n hx hb dX1_altered_84 rfl (lv_at hl 1 rfl) ?_
    refine lv_iload_n hx hb dX1_altered_85 rfl (lv_at hl 0 rfl) ?_
    refine lv_iushr hx hb dX1_altered_86 rfl ?_
    exact W.iret (v := ((a.toUInt32 >>> ((v &&& 31).toUInt32 &&& Int32.toUInt32 31)).toInt32)) hx hb hr (fun t ht hW => ⟨((a.toUInt32 >>> ((v &&& 31).toUInt32 &&& Int32.toUInt32 31)).toInt32), rfl, by rw [a31u]; exact cb_out hout, ht⟩) hS.2.2 dX1_altered_87
set_option maxHeartbeats 4000000 in
set_option maxRecDepth 100000 in
theorem k_X1_at (l : Launch) (dC : Nat → ClassId) (dI : Nat → Nat → Nat)  (H0 : Heap)   (a : Nat) (b : Nat)  : Met l yX1_at wsX1_at ({ frames := 0, cells := 0, slots := 0, locals := 0 }) (va_Pc [.int (nI a), .int (nI b)] (pK dC dI ([]) H0)) (gx_Qi (fun r : Int32 => r = nI (64 * (2 * a) + b)) H0) 0 0 (gx_new H0) := by
  refine Met.ofW (cc := cX1_at) (maxL := 2) (ret := (some .int)) (by decide) rfl ?_
  intro p e s m args below meth c s₁ B hml hv
  obtain ⟨rfl, rfl, hK⟩ := hv
  have hx := B.exec
  have hb := B.bytes
  have hr := B.returns
  have hts := atoms_spec (ws := wsX1_at) B.pre
  have hown : s.vm.findClass RX1 = some m.cls := findClass_of_methodNamed B.named
  have hlocks := B.notSynchronized
  generalize hAe : (gx_new s.heap) = A at ⊢
  have hA : ∀ q : Nat, s.heap.size ≤ q → A q := fun q h => by rw [← hAe]; exact h
  have hS : va_S A s.heap s.heap [] := va_S.rf
  have hl := lv_entry ([.int (nI a), .int (nI b)]) (n := 2) (Nat.le_of_ble_eq_true rfl)
  rw [lg_entry_eq]
  generalize (lg_sl ([.int (nI a), .int (nI b)]) ++ List.replicate (2 - (lg_sl ([.int (nI a), .int (nI b)])).length) Slot.unset).toArray = ls at hl ⊢
  have hl : lv_has ls 2 [(0, .int (nI a)), (1, .int (nI b))] := hl
  refine lv_bipush (v := nI 64) hx hb dX1_at_0 (by decide) ?_
  refine lv_iconst (v := nI 2) hx hb dX1_at_2 (by decide) ?_
  refine lv_iload_n hx hb dX1_at_3 rfl (lv_at hl 0 rfl) ?_
  refine lv_imul hx hb dX1_at_4 ?_
  rw [pk_mul]
  refine lv_imul hx hb dX1_at_5 ?_
  rw [pk_mul]
  refine lv_iload_n hx hb dX1_at_6 rfl (lv_at hl 1 rfl) ?_
  refine lv_iadd hx hb dX1_at_7 ?_
  rw [nI_add]
  exact W.iret (v := (nI ((64 * (2 * a)) + b))) hx hb hr (fun t ht hW => ⟨(nI ((64 * (2 * a)) + b)), rfl, rfl, ht⟩) hS.2.2 dX1_at_8
theorem lt2 {h : Int32} (a : ¬ 2 ≤ h) : h ≤ 1 := by
  rw [Int32.le_iff_toInt_le] at a ⊢
  have e1 : (2 : Int32).toInt = 2 := by decide
  have e2 : (1 : Int32).toInt = 1 := by decide
  omega
theorem lt2n {h : Int32} (a : 2 ≤ h) : ¬ h ≤ 1 := by
  rw [Int32.le_iff_toInt_le] at a ⊢
  have e1 : (2 : Int32).toInt = 2 := by decide
  have e2 : (1 : Int32).toInt = 1 := by decide
  omega
set_option maxHeartbeats 4000000 in
set_option maxRecDepth 100000 in
theorem k_X1_mayAlter (l : Launch) (dC : Nat → ClassId) (dI : Nat → Nat → Nat)  (H0 : Heap)   (x : Int32) (h : Int32) (v : Int32)  : Met l yX1_mayAlter wsX1_mayAlter ({ frames := 1, cells := 0, slots := 0, locals := 20 }) (va_Pc [.int x, .int h, .int v] (pK dC dI ([]) H0)) (gx_Qi (fun r : Int32 => (r = 1 ∧ ∃ so : Nat, so < 5 ∧ x = nI so ∧ okA so h v) ∨ (r = 0 ∧ ¬ ∃ so : Nat, so < 5 ∧ x = nI so ∧ okA so h v)) H0) 0 0 (gx_new H0) := by
  refine Met.ofW (cc := cX1_mayAlter) (maxL := 3) (ret := (some .boolean)) (by decide) rfl ?_
  intro p e s m args below meth c s₁ B hml hv
  obtain ⟨rfl, rfl, hK⟩ := hv
  have hx := B.exec
  have hb := B.bytes
  have hr := B.returns
  have hts := atoms_spec (ws := wsX1_mayAlter) B.pre
  have hown : s.vm.findClass RX1 = some m.cls := findClass_of_methodNamed B.named
  have hlocks := B.notSynchronized
  generalize hAe : (gx_new s.heap) = A at ⊢
  have hA : ∀ q : Nat, s.heap.size ≤ q → A q := fun q h => by rw [← hAe]; exact h
  have hS : va_S A s.heap s.heap [] := va_S.rf
  have hl := lv_entry ([.int x, .int h, .int v]) (n := 3) (Nat.le_of_ble_eq_true rfl)
  rw [lg_entry_eq]
  generalize (lg_sl ([.int x, .int h, .int v]) ++ List.replicate (3 - (lg_sl ([.int x, .int h, .int v])).length) Slot.unset).toArray = ls at hl ⊢
  have hl : lv_has ls 3 [(0, .int x), (1, .int h), (2, .int v)] := hl
  refine lv_iload_n hx hb dX1_mayAlter_0 rfl (lv_at hl 0 rfl) ?_
  refine gx_calli (va_runS (As := [.int x]) (rest := []) ⟨hx, hb, hml, hown, hts⟩ (k_X1_isSort l dC dI  _   x ) (va_cwS 1 hts gX1_mayAlter_X1_isSort rfl rfl rfl (by decide +kernel) ⟨Nat.le_of_ble_eq_true rfl, Nat.le_of_ble_eq_true rfl⟩) (pK_S hK) rfl rfl hl.1 rfl (lv_room (Nat.le_of_ble_eq_true rfl)) dX1_mayAlter_1 ⟨Nat.le_of_ble_eq_true rfl, Nat.le_of_ble_eq_true rfl⟩) (fun r1 hr1 => ?_)
  refine lv_if_eq (tgt := 14) hx hb dX1_mayAlter_4 (by decide) (fun h4 => ?_) (fun h4 => ?_)
  · skip
    have hs := (hr1.resolve_left (fun a => absurd (a.1.symm.trans h4) (by decide))).2
    refine lv_iconst (v := 0) hx hb dX1_mayAlter_14 (by decide) ?_
    exact W.zret (v := 0) (ty := .boolean) hx hb hr rfl (fun t ht hW => ⟨0, rfl, Or.inr ⟨rfl, fun ⟨so, a, b, _⟩ => hs (by rw [b]; exact ⟨nI_pos (by omega), nI_lt a (by decide)⟩)⟩, ht⟩) hS.2.2 dX1_mayAlter_15
  · skip
    have hs := (hr1.resolve_right (fun a => h4 a.1)).2
    obtain ⟨so, hso, rfl⟩ := in_of (n := 5) (by decide) hs.1 hs.2
    refine lv_iload_n hx hb dX1_mayAlter_7 rfl (lv_at hl 1 rfl) ?_
    refine gx_calli (va_runS (As := [.int h]) (rest := []) ⟨hx, hb, hml, hown, hts⟩ (k_X1_isHow l dC dI  _   h ) (va_cwS 1 hts gX1_mayAlter_X1_isHow rfl rfl rfl (by decide +kernel) ⟨Nat.le_of_ble_eq_true rfl, Nat.le_of_ble_eq_true rfl⟩) (pK_S hK) rfl rfl hl.1 rfl (lv_room (Nat.le_of_ble_eq_true rfl)) dX1_mayAlter_8 ⟨Nat.le_of_ble_eq_true rfl, Nat.le_of_ble_eq_true rfl⟩) (fun r8 hr8 => ?_)
    refine lv_if_ne (tgt := 16) hx hb dX1_mayAlter_11 (by decide) (fun h11 => ?_) (fun h11 => ?_)
    · skip
      have hh := (hr8.resolve_right (fun a => h11 a.1)).2
      refine lv_iload_n hx hb dX1_mayAlter_16 rfl (lv_at hl 0 rfl) ?_
      refine lv_iconst (v := nI 2) hx hb dX1_mayAlter_17 (by decide) ?_
      refine lv_icmp_ne (tgt := 44) hx hb dX1_mayAlter_18 (by decide) (fun h18 => ?_) (fun h18 => ?_)
      · skip
        rw [nI_eq (by omega) (by omega)] at h18
        refine lv_iload_n hx hb dX1_mayAlter_44 rfl (lv_at hl 0 rfl) ?_
        refine lv_iconst (v := nI 3) hx hb dX1_mayAlter_45 (by decide) ?_
        refine lv_icmp_ne (tgt := 59) hx hb dX1_mayAlter_46 (by decide) (fun h46 => ?_) (fun h46 => ?_)
        · skip
          rw [nI_eq (by omega) (by omega)] at h46
          refine lv_iconst (v := 1) hx hb dX1_mayAlter_59 (by decide) ?_
          refine lv_goto (tgt := 64) hx hb dX1_mayAlter_60 (by decide) ?_
          exact W.zret (v := 1) (ty := .boolean) hx hb hr rfl (fun t ht hW => ⟨1, rfl, Or.inl ⟨rfl, so, hso, rfl, hh, fun e => by first | exact absurd e h18 | exact ⟨lt2 h23, h29, Int32.not_lt.mp h35⟩, fun e => by first | exact absurd (h18.symm.trans e) (by decide) | exact absurd e h46 | exact ⟨h51, Int32.not_lt.mp h56⟩⟩, ht⟩) hS.2.2 dX1_mayAlter_64
        · skip
          rw [nI_eq (by omega) (by omega)] at h46
          refine lv_iload_n hx hb dX1_mayAlter_49 rfl (lv_at hl 1 rfl) ?_
          refine lv_iconst (v := 3) hx hb dX1_mayAlter_50 (by decide) ?_
          refine lv_icmp_lt (tgt := 63) hx hb dX1_mayAlter_51 (by decide) (fun h51 => ?_) (fun h51 => ?_)
          · skip
            refine lv_iconst (v := 0) hx hb dX1_mayAlter_63 (by decide) ?_
            exact W.zret (v := 0) (ty := .boolean) hx hb hr rfl (fun t ht hW => ⟨0, rfl, Or.inr ⟨rfl, fun ⟨s9, a, b, c9⟩ => by have e9 : so = s9 := (nI_eq (by omega) (by omega)).mp b; subst e9; first | exact lt2n h23 (c9.2.1 h18).1 | exact (c9.2.1 h18).2.1 h29 | exact Int32.not_le.mpr h35 (c9.2.1 h18).2.2 | exact (c9.2.2 h46).1 h51 | exact Int32.not_le.mpr h56 (c9.2.2 h46).2⟩, ht⟩) hS.2.2 dX1_mayAlter_64
          · skip
            refine lv_iload_n hx hb dX1_mayAlter_54 rfl (lv_at hl 1 rfl) ?_
            refine lv_iconst (v := 5) hx hb dX1_mayAlter_55 (by decide) ?_
            refine lv_icmp_gt (tgt := 63) hx hb dX1_mayAlter_56 (by decide) (fun h56 => ?_) (fun h56 => ?_)
            · skip
              refine lv_iconst (v := 0) hx hb dX1_mayAlter_63 (by decide) ?_
              exact W.zret (v := 0) (ty := .boolean) hx hb hr rfl (fun t ht hW => ⟨0, rfl, Or.inr ⟨rfl, fun ⟨s9, a, b, c9⟩ => by have e9 : so = s9 := (nI_eq (by omega) (by omega)).mp b; subst e9; first | exact lt2n h23 (c9.2.1 h18).1 | exact (c9.2.1 h18).2.1 h29 | exact Int32.not_le.mpr h35 (c9.2.1 h18).2.2 | exact (c9.2.2 h46).1 h51 | exact Int32.not_le.mpr h56 (c9.2.2 h46).2⟩, ht⟩) hS.2.2 dX1_mayAlter_64
            · skip
              refine lv_iconst (v := 1) hx hb dX1_mayAlter_59 (by decide) ?_
              refine lv_goto (tgt := 64) hx hb dX1_mayAlter_60 (by decide) ?_
              exact W.zret (v := 1) (ty := .boolean) hx hb hr rfl (fun t ht hW => ⟨1, rfl, Or.inl ⟨rfl, so, hso, rfl, hh, fun e => by first | exact absurd e h18 | exact ⟨lt2 h23, h29, Int32.not_lt.mp h35⟩, fun e => by first | exact absurd (h18.symm.trans e) (by decide) | exact absurd e h46 | exact ⟨h51, Int32.not_lt.mp h56⟩⟩, ht⟩) hS.2.2 dX1_mayAlter_64
      · skip
        rw [nI_eq (by omega) (by omega)] at h18
        refine lv_iload_n hx hb dX1_mayAlter_21 rfl (lv_at hl 1 rfl) ?_
        refine lv_iconst (v := 2) hx hb dX1_mayAlter_22 (by decide) ?_
        refine lv_icmp_ge (tgt := 42) hx hb dX1_mayAlter_23 (by decide) (fun h23 => ?_) (fun h23 => ?_)
        · skip
          refine lv_iconst (v := 0) hx hb dX1_mayAlter_42 (by decide) ?_
          exact W.zret (v := 0) (ty := .boolean) hx hb hr rfl (fun t ht hW => ⟨0, rfl, Or.inr ⟨rfl, fun ⟨s9, a, b, c9⟩ => by have e9 : so = s9 := (nI_eq (by omega) (by omega)).mp b; subst e9; first | exact lt2n h23 (c9.2.1 h18).1 | exact (c9.2.1 h18).2.1 h29 | exact Int32.not_le.mpr h35 (c9.2.1 h18).2.2 | exact (c9.2.2 h46).1 h51 | exact Int32.not_le.mpr h56 (c9.2.2 h46).2⟩, ht⟩) hS.2.2 dX1_mayAlter_43
        · skip
          refine lv_iload_n hx hb dX1_mayAlter_26 rfl (lv_at hl 2 rfl) ?_
          refine lv_ldc (v := -800000) hx hb hown (hts (.constant RX1 30 (-800000)) (by decide +kernel)) dX1_mayAlter_27 ?_
          refine lv_icmp_lt (tgt := 42) hx hb dX1_mayAlter_29 (by decide) (fun h29 => ?_) (fun h29 => ?_)
          · skip
            refine lv_iconst (v := 0) hx hb dX1_mayAlter_42 (by decide) ?_
            exact W.zret (v := 0) (ty := .boolean) hx hb hr rfl (fun t ht hW => ⟨0, rfl, Or.inr ⟨rfl, fun ⟨s9, a, b, c9⟩ => by have e9 : so = s9 := (nI_eq (by omega) (by omega)).mp b; subst e9; first | exact lt2n h23 (c9.2.1 h18).1 | exact (c9.2.1 h18).2.1 h29 | exact Int32.not_le.mpr h35 (c9.2.1 h18).2.2 | exact (c9.2.2 h46).1 h51 | exact Int32.not_le.mpr h56 (c9.2.2 h46).2⟩, ht⟩) hS.2.2 dX1_mayAlter_43
          · skip
            refine lv_iload_n hx hb dX1_mayAlter_32 rfl (lv_at hl 2 rfl) ?_
            refine lv_ldc (v := 800000) hx hb hown (hts (.constant RX1 31 (800000)) (by decide +kernel)) dX1_mayAlter_33 ?_
            refine lv_icmp_gt (tgt := 42) hx hb dX1_mayAlter_35 (by decide) (fun h35 => ?_) (fun h35 => ?_)
            · skip
              refine lv_iconst (v := 0) hx hb dX1_mayAlter_42 (by decide) ?_
              exact W.zret (v := 0) (ty := .boolean) hx hb hr rfl (fun t ht hW => ⟨0, rfl, Or.inr ⟨rfl, fun ⟨s9, a, b, c9⟩ => by have e9 : so = s9 := (nI_eq (by omega) (by omega)).mp b; subst e9; first | exact lt2n h23 (c9.2.1 h18).1 | exact (c9.2.1 h18).2.1 h29 | exact Int32.not_le.mpr h35 (c9.2.1 h18).2.2 | exact (c9.2.2 h46).1 h51 | exact Int32.not_le.mpr h56 (c9.2.2 h46).2⟩, ht⟩) hS.2.2 dX1_mayAlter_43
            · skip
              refine lv_iconst (v := 1) hx hb dX1_mayAlter_38 (by decide) ?_
              refine lv_goto (tgt := 43) hx hb dX1_mayAlter_39 (by decide) ?_
              exact W.zret (v := 1) (ty := .boolean) hx hb hr rfl (fun t ht hW => ⟨1, rfl, Or.inl ⟨rfl, so, hso, rfl, hh, fun e => by first | exact absurd e h18 | exact ⟨lt2 h23, h29, Int32.not_lt.mp h35⟩, fun e => by first | exact absurd (h18.symm.trans e) (by decide) | exact absurd e h46 | exact ⟨h51, Int32.not_lt.mp h56⟩⟩, ht⟩) hS.2.2 dX1_mayAlter_43
    · skip
      have hh := (hr8.resolve_left (fun a => absurd (a.1.symm.trans h11) (by decide))).2
      refine lv_iconst (v := 0) hx hb dX1_mayAlter_14 (by decide) ?_
      exact W.zret (v := 0) (ty := .boolean) hx hb hr rfl (fun t ht hW => ⟨0, rfl, Or.inr ⟨rfl, fun ⟨_, _, _, a⟩ => hh a.1⟩, ht⟩) hS.2.2 dX1_mayAlter_15
set_option maxHeartbeats 4000000 in
set_option maxRecDepth 100000 in
theorem k_X1_lacks (l : Launch) (dC : Nat → ClassId) (dI : Nat → Nat → Nat) (cyI cyZ : ClassId) (H0 : Heap) (p0 p1 p2 p3 p4 : Nat) (mn me ml mt : Nat → Int32) (th wo mr mo mk mz mq : Int32) (hP : va_P (dC, dI) vwCl (wM cyI cyZ p0 p1 p2 p3 p4 mn me ml mt th wo mr mo mk mz mq) H0) (hD0 : va_D (fun _ => True) (wM cyI cyZ p0 p1 p2 p3 p4 mn me ml mt th wo mr mo mk mz mq)) (so : Nat) (y : Int32) (hso : so < 5) : Met l yX1_lacks wsX1_lacks ({ frames := 0, cells := 0, slots := 0, locals := 0 }) (va_Pc [.ref p0, .int (nI so), .int y] (pK dC dI (tyW cyI cyZ) H0)) (gx_Qi (fun r : Int32 => r = lkI (mn (2 * so)) y) H0) 0 0 (gx_new H0) := by
  refine Met.ofW (cc := cX1_lacks) (maxL := 4) (ret := (some .int)) (by decide) rfl ?_
  intro p e s m args below meth c s₁ B hml hv
  obtain ⟨rfl, rfl, hK⟩ := hv
  have hx := B.exec
  have hb := B.bytes
  have hr := B.returns
  have hts := atoms_spec (ws := wsX1_lacks) B.pre
  have hown : s.vm.findClass RX1 = some m.cls := findClass_of_methodNamed B.named
  have hlocks := B.notSynchronized
  have hD := hD0.self (sz := s.heap.size)
  generalize hAe : (gx_new s.heap) = A at ⊢
  have hA : ∀ q : Nat, s.heap.size ≤ q → A q := fun q h => by rw [← hAe]; exact h
  have hS : va_S A s.heap s.heap [] := va_S.rf
  have hl := lv_entry ([.ref p0, .int (nI so), .int y]) (n := 4) (Nat.le_of_ble_eq_true rfl)
  rw [lg_entry_eq]
  generalize (lg_sl ([.ref p0, .int (nI so), .int y]) ++ List.replicate (4 - (lg_sl ([.ref p0, .int (nI so), .int y])).length) Slot.unset).toArray = ls at hl ⊢
  have hl : lv_has ls 4 [(0, .ref p0), (1, .int (nI so)), (2, .int y)] := hl
  have iw : ∀ w ∈ wsX10, w ∈ wsX1_lacks := by decide +kernel
  refine lv_aload_n hx hb dX1_lacks_0 rfl (lv_at hl 0 rfl) ?_
  refine va_get (D := (dC, dI)) (ci := 1) (v := .ref p1) (C := RX1) (T := TX1) (N := 11) hx hb hts iw hown hK hP 0 rfl rfl 1 (by decide) (hts (.fieldLink RX1 7 "ReelLoomModel" "many" "[I") (by decide +kernel)) (fun _ h9 => h9) rfl dX1_lacks_1 ?_
  refine lv_iconst (v := nI 2) hx hb dX1_lacks_4 (by decide) ?_
  refine lv_iload_n hx hb dX1_lacks_5 rfl (lv_at hl 1 rfl) ?_
  refine lv_imul hx hb dX1_lacks_6 ?_
  rw [pk_mul]
  refine va_iald hx hb hK hP 1 0 rfl rfl (vp_in_nI (by omega) (by omega)) dX1_lacks_7 ?_
  rw [nI_clamp (show (2 * so) < 2 ^ 31 by omega)]
  refine lv_istore_n (lv' := [(3, .int (mn ((2 * so)))), (0, .ref p0), (1, .int (nI so)), (2, .int y)]) hx hb dX1_lacks_8 rfl hl (by decide) rfl (fun ls hl => ?_)
  refine lv_iload_n hx hb dX1_lacks_9 rfl (lv_at hl 0 rfl) ?_
  refine lv_iconst (v := -1) hx hb dX1_lacks_10 (by decide) ?_
  refine lv_icmp_ne (tgt := 18) hx hb dX1_lacks_11 (by decide) (fun h11 => ?_) (fun h11 => ?_)
  · skip
    refine lv_iload_n hx hb dX1_lacks_18 rfl (lv_at hl 3 rfl) ?_
    refine lv_if_lt (tgt := 27) hx hb dX1_lacks_19 (by decide) (fun h19 => ?_) (fun h19 => ?_)
    · skip
      refine lv_iconst (v := 2) hx hb dX1_lacks_27 (by decide) ?_
      refine lv_goto (tgt := 32) hx hb dX1_lacks_28 (by decide) ?_
      exact W.iret (v := 2) hx hb hr (fun t ht hW => ⟨2, rfl, by unfold lkI; rw [if_neg h11, if_pos (by first | exact fun h => h.1 h19 | exact fun h => h24 h.2)], ht⟩) hS.2.2 dX1_lacks_32
    · skip
      refine lv_iload_n hx hb dX1_lacks_22 rfl (lv_at hl 3 rfl) ?_
      refine lv_iload_n hx hb dX1_lacks_23 rfl (lv_at hl 0 rfl) ?_
      refine lv_icmp_lt (tgt := 31) hx hb dX1_lacks_24 (by decide) (fun h24 => ?_) (fun h24 => ?_)
      · skip
        refine lv_iconst (v := 0) hx hb dX1_lacks_31 (by decide) ?_
        exact W.iret (v := 0) hx hb hr (fun t ht hW => ⟨0, rfl, by unfold lkI; rw [if_neg h11, if_neg (not_not_intro ⟨h19, h24⟩)], ht⟩) hS.2.2 dX1_lacks_32
      · skip
        refine lv_iconst (v := 2) hx hb dX1_lacks_27 (by decide) ?_
        refine lv_goto (tgt := 32) hx hb dX1_lacks_28 (by decide) ?_
        exact W.iret (v := 2) hx hb hr (fun t ht hW => ⟨2, rfl, by unfold lkI; rw [if_neg h11, if_pos (by first | exact fun h => h.1 h19 | exact fun h => h24 h.2)], ht⟩) hS.2.2 dX1_lacks_32
  · skip
    refine lv_iconst (v := 1) hx hb dX1_lacks_14 (by decide) ?_
    refine lv_goto (tgt := 32) hx hb dX1_lacks_15 (by decide) ?_
    exact W.iret (v := 1) hx hb hr (fun t ht hW => ⟨1, rfl, by unfold lkI; rw [if_pos h11], ht⟩) hS.2.2 dX1_lacks_32
set_option maxHeartbeats 4000000 in
set_option maxRecDepth 100000 in
theorem k_X1_put (l : Launch) (dC : Nat → ClassId) (dI : Nat → Nat → Nat) (cyI cyZ : ClassId) (H0 : Heap) (p0 p1 p2 p3 p4 : Nat) (mn me ml mt : Nat → Int32) (th wo mr mo mk mz mq : Int32) (hP : va_P (dC, dI) vwCl (wM cyI cyZ p0 p1 p2 p3 p4 mn me ml mt th wo mr mo mk mz mq) H0) (hD0 : va_D (fun _ => True) (wM cyI cyZ p0 p1 p2 p3 p4 mn me ml mt th wo mr mo mk mz mq)) (so : Nat) (i : Nat) (v : Int32) (hso : so < 5) (hi : i < 64) : Met l yX1_put wsX1_put ({ frames := 2, cells := 0, slots := 0, locals := 43 }) (va_Pc [.ref p0, .int (nI so), .int (nI i), .int v] (pK dC dI (tyW cyI cyZ) H0)) (va_Qi (fun (r : Int32) (_ : Unit) => r = ft so v) (fun (_ : Unit) (t : State) => va_P (dC, dI) vwCl (wM cyI cyZ p0 p1 p2 p3 p4 mn (upd me (64 * (2 * so) + i) (ft so v)) ml mt th wo mr mo mk mz mq) t.heap) (va_A (wM cyI cyZ p0 p1 p2 p3 p4 mn me ml mt th wo mr mo mk mz mq) H0.size)) 0 0 (va_A (wM cyI cyZ p0 p1 p2 p3 p4 mn me ml mt th wo mr mo mk mz mq) H0.size) := by
  refine Met.ofW (cc := cX1_put) (maxL := 4) (ret := (some .int)) (by decide) rfl ?_
  intro p e s m args below meth c s₁ B hml hv
  obtain ⟨rfl, rfl, hK⟩ := hv
  have hx := B.exec
  have hb := B.bytes
  have hr := B.returns
  have hts := atoms_spec (ws := wsX1_put) B.pre
  have hown : s.vm.findClass RX1 = some m.cls := findClass_of_methodNamed B.named
  have hlocks := B.notSynchronized
  have hD := hD0.self (sz := s.heap.size)
  generalize hAe : (va_A (wM cyI cyZ p0 p1 p2 p3 p4 mn me ml mt th wo mr mo mk mz mq) s.heap.size) = A at hD ⊢
  have hA : ∀ q : Nat, s.heap.size ≤ q → A q := fun q h => by rw [← hAe]; exact Or.inr h
  have hS : va_S A s.heap s.heap [] := va_S.rf
  have hl := lv_entry ([.ref p0, .int (nI so), .int (nI i), .int v]) (n := 4) (Nat.le_of_ble_eq_true rfl)
  rw [lg_entry_eq]
  generalize (lg_sl ([.ref p0, .int (nI so), .int (nI i), .int v]) ++ List.replicate (4 - (lg_sl ([.ref p0, .int (nI so), .int (nI i), .int v])).length) Slot.unset).toArray = ls at hl ⊢
  have hl : lv_has ls 4 [(0, .ref p0), (1, .int (nI so)), (2, .int (nI i)), (3, .int v)] := hl
  have iw : ∀ w ∈ wsX10, w ∈ wsX1_put := by decide +kernel
  refine lv_aload_n hx hb dX1_put_0 rfl (lv_at hl 0 rfl) ?_
  refine va_get (D := (dC, dI)) (ci := 1) (v := .ref p2) (C := RX1) (T := TX1) (N := 11) hx hb hts iw hown hK hP 0 rfl rfl 2 (by decide) (hts (.fieldLink RX1 13 "ReelLoomModel" "cells" "[I") (by decide +kernel)) (fun _ h9 => h9) rfl dX1_put_1 ?_
  refine lv_iload_n hx hb dX1_put_4 rfl (lv_at hl 1 rfl) ?_
  refine lv_iload_n hx hb dX1_put_5 rfl (lv_at hl 2 rfl) ?_
  refine gx_calli (va_runS (As := [.int (nI so), .int (nI i)]) (rest := [.ref p2]) ⟨hx, hb, hml, hown, hts⟩ (k_X1_at l dC dI  _   so i ) (va_cwS 2 hts gX1_put_X1_at rfl rfl rfl (by decide +kernel) ⟨Nat.le_of_ble_eq_true rfl, Nat.le_of_ble_eq_true rfl⟩) (pK_S (hK.sub (tys' := []) [] rfl)) rfl rfl hl.1 rfl (lv_room (Nat.le_of_ble_eq_true rfl)) dX1_put_6 ⟨Nat.le_of_ble_eq_true rfl, Nat.le_of_ble_eq_true rfl⟩) (fun r_1 hr_1 => ?_)
  subst hr_1
  refine lv_iload_n hx hb dX1_put_9 rfl (lv_at hl 1 rfl) ?_
  refine lv_iload_n hx hb dX1_put_10 rfl (lv_at hl 3 rfl) ?_
  refine gx_calli (va_runS (As := [.int (nI so), .int v]) (rest := [.int (nI (64 * (2 * so) + i)), .ref p2]) ⟨hx, hb, hml, hown, hts⟩ (k_X1_held l dC dI  _   so v (by omega)) (va_cwS 2 hts gX1_put_X1_held rfl rfl rfl (by decide +kernel) ⟨Nat.le_of_ble_eq_true rfl, Nat.le_of_ble_eq_true rfl⟩) (pK_S (hK.sub (tys' := []) [] rfl)) rfl rfl hl.1 rfl (lv_room (Nat.le_of_ble_eq_true rfl)) dX1_put_11 ⟨Nat.le_of_ble_eq_true rfl, Nat.le_of_ble_eq_true rfl⟩) (fun r_2 hr_2 => ?_)
  subst hr_2
  refine va_iast hx hb hK hP hD hS 2 0 rfl rfl (vp_in_nI (by omega) (by omega)) dX1_put_14 (fun H locs hP hD hS => ?_)
  rw [nI_clamp (show (64 * (2 * so) + i) < 2 ^ 31 by omega)] at hP hD
  have hP : va_P (dC, dI) vwCl (wM cyI cyZ p0 p1 p2 p3 p4 mn (upd me ((64 * (2 * so) + i)) (ft so v)) ml mt th wo mr mo mk mz mq) H := hP
  have hD : va_D A (wM cyI cyZ p0 p1 p2 p3 p4 mn (upd me ((64 * (2 * so) + i)) (ft so v)) ml mt th wo mr mo mk mz mq) := hD
  refine lv_aload_n hx hb dX1_put_15 rfl (lv_at hl 0 rfl) ?_
  refine va_get (D := (dC, dI)) (ci := 1) (v := .ref p2) (C := RX1) (T := TX1) (N := 11) hx hb hts iw hown hK hP 0 rfl rfl 2 (by decide) (hts (.fieldLink RX1 13 "ReelLoomModel" "cells" "[I") (by decide +kernel)) (fun _ h9 => h9) rfl dX1_put_16 ?_
  refine lv_iload_n hx hb dX1_put_19 rfl (lv_at hl 1 rfl) ?_
  refine lv_iload_n hx hb dX1_put_20 rfl (lv_at hl 2 rfl) ?_
  refine gx_calli (va_runS (As := [.int (nI so), .int (nI i)]) (rest := [.ref p2]) ⟨hx, hb, hml, hown, hts⟩ (k_X1_at l dC dI  _   so i ) (va_cwS 2 hts gX1_put_X1_at rfl rfl rfl (by decide +kernel) ⟨Nat.le_of_ble_eq_true rfl, Nat.le_of_ble_eq_true rfl⟩) (pK_S (hK.sub (tys' := []) [] rfl)) rfl rfl hl.1 rfl (lv_room (Nat.le_of_ble_eq_true rfl)) dX1_put_21 ⟨Nat.le_of_ble_eq_true rfl, Nat.le_of_ble_eq_true rfl⟩) (fun r_3 hr_3 => ?_)
  subst hr_3
  refine va_iald hx hb hK hP 2 0 rfl rfl (vp_in_nI (by omega) (by omega)) dX1_put_24 ?_
  rw [nI_clamp (show (64 * (2 * so) + i) < 2 ^ 31 by omega)]
  exact W.iret (v := ((upd me ((64 * (2 * so) + i)) (ft so v)) ((64 * (2 * so) + i)))) hx hb hr (fun t ht hW => ⟨⟨((upd me ((64 * (2 * so) + i)) (ft so v)) ((64 * (2 * so) + i))), (), rfl, pk_us, by show va_P (dC, dI) vwCl (wM cyI cyZ p0 p1 p2 p3 p4 mn (upd me ((64 * (2 * so) + i)) (ft so v)) ml mt th wo mr mo mk mz mq) t.heap; rw [ht]; exact hP⟩, hS.F ht⟩) hS.2.2 dX1_put_25
set_option maxHeartbeats 4000000 in
set_option maxRecDepth 100000 in
theorem k_X1_refuses (l : Launch) (dC : Nat → ClassId) (dI : Nat → Nat → Nat) (cyI cyZ : ClassId) (H0 : Heap) (p0 p1 p2 p3 p4 : Nat) (mn me ml mt : Nat → Int32) (th wo mr mo mk mz mq : Int32) (hP : va_P (dC, dI) vwCl (wM cyI cyZ p0 p1 p2 p3 p4 mn me ml mt th wo mr mo mk mz mq) H0) (hD0 : va_D (fun _ => True) (wM cyI cyZ p0 p1 p2 p3 p4 mn me ml mt th wo mr mo mk mz mq)) (b : Int32) (z : Int32)  : Met l yX1_refuses wsX1_refuses ({ frames := 0, cells := 0, slots := 0, locals := 0 }) (va_Pc [.ref p0, .int b, .int z] (pK dC dI (tyW cyI cyZ) H0)) (va_Qi (fun (r : Int32) (u : Int32) => match u with | th2 => th2 = rfz b z ∧ r = (if th2 = 0 then 0 else 1)) (fun (u : Int32) (t : State) => match u with | th2 => va_P (dC, dI) vwCl (wM cyI cyZ p0 p1 p2 p3 p4 mn me ml mt th2 wo mr mo mk mz mq) t.heap) (va_A (wM cyI cyZ p0 p1 p2 p3 p4 mn me ml mt th wo mr mo mk mz mq) H0.size)) 0 0 (va_A (wM cyI cyZ p0 p1 p2 p3 p4 mn me ml mt th wo mr mo mk mz mq) H0.size) := by
  refine Met.ofW (cc := cX1_refuses) (maxL := 3) (ret := (some .boolean)) (by decide) rfl ?_
  intro p e s m args below meth c s₁ B hml hv
  obtain ⟨rfl, rfl, hK⟩ := hv
  have hx := B.exec
  have hb := B.bytes
  have hr := B.returns
  have hts := atoms_spec (ws := wsX1_refuses) B.pre
  have hown : s.vm.findClass RX1 = some m.cls := findClass_of_methodNamed B.named
  have hlocks := B.notSynchronized
  have hD := hD0.self (sz := s.heap.size)
  generalize hAe : (va_A (wM cyI cyZ p0 p1 p2 p3 p4 mn me ml mt th wo mr mo mk mz mq) s.heap.size) = A at hD ⊢
  have hA : ∀ q : Nat, s.heap.size ≤ q → A q := fun q h => by rw [← hAe]; exact Or.inr h
  have hS : va_S A s.heap s.heap [] := va_S.rf
  have hl := lv_entry ([.ref p0, .int b, .int z]) (n := 3) (Nat.le_of_ble_eq_true rfl)
  rw [lg_entry_eq]
  generalize (lg_sl ([.ref p0, .int b, .int z]) ++ List.replicate (3 - (lg_sl ([.ref p0, .int b, .int z])).length) Slot.unset).toArray = ls at hl ⊢
  have hl : lv_has ls 3 [(0, .ref p0), (1, .int b), (2, .int z)] := hl
  have iw : ∀ w ∈ wsX10, w ∈ wsX1_refuses := by decide +kernel
  refine lv_aload_n hx hb dX1_refuses_0 rfl (lv_at hl 0 rfl) ?_
  refine lv_iload_n hx hb dX1_refuses_1 rfl (lv_at hl 1 rfl) ?_
  refine lv_if_eq (tgt := 9) hx hb dX1_refuses_2 (by decide) (fun h2 => ?_) (fun h2 => ?_)
  · skip
    refine lv_iload_n hx hb dX1_refuses_9 rfl (lv_at hl 2 rfl) ?_
    refine lv_iconst (v := 1) hx hb dX1_refuses_10 (by decide) ?_
    refine lv_icmp_ne (tgt := 18) hx hb dX1_refuses_11 (by decide) (fun h11 => ?_) (fun h11 => ?_)
    · skip
      refine lv_iload_n hx hb dX1_refuses_18 rfl (lv_at hl 2 rfl) ?_
      refine lv_iconst (v := 2) hx hb dX1_refuses_19 (by decide) ?_
      refine lv_icmp_ne (tgt := 27) hx hb dX1_refuses_20 (by decide) (fun h20 => ?_) (fun h20 => ?_)
      · skip
        refine lv_iconst (v := 0) hx hb dX1_refuses_27 (by decide) ?_
        refine va_put (D := (dC, dI)) (ci := 1) (v := .int 0) (ty := .int) (C := RX1) (T := TX1) (N := 11) hx hb hts iw tyX1 tyX1_ok nmX1 hown hK hP hD hS 0 rfl rfl 0 (by decide) (hts (.fieldLink RX1 23 "ReelLoomModel" "thrown" "I") (by decide +kernel)) (fun _ h9 => h9) rfl (by decide +kernel) rfl rfl (Nat.le_of_ble_eq_true rfl) dX1_refuses_28 (fun H locs hP hD hS => ?_)
        have hP : va_P (dC, dI) vwCl (wM cyI cyZ p0 p1 p2 p3 p4 mn me ml mt 0 wo mr mo mk mz mq) H := hP
        have hD : va_D A (wM cyI cyZ p0 p1 p2 p3 p4 mn me ml mt 0 wo mr mo mk mz mq) := hD
        refine lv_aload_n hx hb dX1_refuses_31 rfl (lv_at hl 0 rfl) ?_
        refine va_get (D := (dC, dI)) (ci := 1) (v := .int 0) (C := RX1) (T := TX1) (N := 11) hx hb hts iw hown hK hP 0 rfl rfl 0 (by decide) (hts (.fieldLink RX1 23 "ReelLoomModel" "thrown" "I") (by decide +kernel)) (fun _ h9 => h9) rfl dX1_refuses_32 ?_
        refine lv_if_eq (tgt := 42) hx hb dX1_refuses_35 (by decide) (fun c_4 => ?_) (fun c_4 => ?_)
        · skip
          refine lv_iconst (v := 0) hx hb dX1_refuses_42 (by decide) ?_
          exact W.zret (v := 0) (ty := .boolean) hx hb hr rfl (fun t ht hW => ⟨⟨0, 0, rfl, ⟨by unfold rfz; first | rw [if_pos h2] | rw [if_neg (not_not_intro h2), if_pos h11] | rw [if_neg (not_not_intro h2), if_neg h11, if_pos h20] | rw [if_neg (not_not_intro h2), if_neg h11, if_neg h20], by decide⟩, by show va_P (dC, dI) vwCl (wM cyI cyZ p0 p1 p2 p3 p4 mn me ml mt 0 wo mr mo mk mz mq) t.heap; rw [ht]; exact hP⟩, hS.F ht⟩) hS.2.2 dX1_refuses_43
        · skip
          exact absurd (by decide) c_4
      · skip
        refine lv_iconst (v := 3) hx hb dX1_refuses_23 (by decide) ?_
        refine lv_goto (tgt := 28) hx hb dX1_refuses_24 (by decide) ?_
        refine va_put (D := (dC, dI)) (ci := 1) (v := .int 3) (ty := .int) (C := RX1) (T := TX1) (N := 11) hx hb hts iw tyX1 tyX1_ok nmX1 hown hK hP hD hS 0 rfl rfl 0 (by decide) (hts (.fieldLink RX1 23 "ReelLoomModel" "thrown" "I") (by decide +kernel)) (fun _ h9 => h9) rfl (by decide +kernel) rfl rfl (Nat.le_of_ble_eq_true rfl) dX1_refuses_28 (fun H locs hP hD hS => ?_)
        have hP : va_P (dC, dI) vwCl (wM cyI cyZ p0 p1 p2 p3 p4 mn me ml mt 3 wo mr mo mk mz mq) H := hP
        have hD : va_D A (wM cyI cyZ p0 p1 p2 p3 p4 mn me ml mt 3 wo mr mo mk mz mq) := hD
        refine lv_aload_n hx hb dX1_refuses_31 rfl (lv_at hl 0 rfl) ?_
        refine va_get (D := (dC, dI)) (ci := 1) (v := .int 3) (C := RX1) (T := TX1) (N := 11) hx hb hts iw hown hK hP 0 rfl rfl 0 (by decide) (hts (.fieldLink RX1 23 "ReelLoomModel" "thrown" "I") (by decide +kernel)) (fun _ h9 => h9) rfl dX1_refuses_32 ?_
        refine lv_if_eq (tgt := 42) hx hb dX1_refuses_35 (by decide) (fun c_5 => ?_) (fun c_5 => ?_)
        · skip
          exact absurd c_5 (by decide)
        · skip
          refine lv_iconst (v := 1) hx hb dX1_refuses_38 (by decide) ?_
          refine lv_goto (tgt := 43) hx hb dX1_refuses_39 (by decide) ?_
          exact W.zret (v := 1) (ty := .boolean) hx hb hr rfl (fun t ht hW => ⟨⟨1, 3, rfl, ⟨by unfold rfz; first | rw [if_pos h2] | rw [if_neg (not_not_intro h2), if_pos h11] | rw [if_neg (not_not_intro h2), if_neg h11, if_pos h20] | rw [if_neg (not_not_intro h2), if_neg h11, if_neg h20], by decide⟩, by show va_P (dC, dI) vwCl (wM cyI cyZ p0 p1 p2 p3 p4 mn me ml mt 3 wo mr mo mk mz mq) t.heap; rw [ht]; exact hP⟩, hS.F ht⟩) hS.2.2 dX1_refuses_43
    · skip
      refine lv_iconst (v := 2) hx hb dX1_refuses_14 (by decide) ?_
      refine lv_goto (tgt := 28) hx hb dX1_refuses_15 (by decide) ?_
      refine va_put (D := (dC, dI)) (ci := 1) (v := .int 2) (ty := .int) (C := RX1) (T := TX1) (N := 11) hx hb hts iw tyX1 tyX1_ok nmX1 hown hK hP hD hS 0 rfl rfl 0 (by decide) (hts (.fieldLink RX1 23 "ReelLoomModel" "thrown" "I") (by decide +kernel)) (fun _ h9 => h9) rfl (by decide +kernel) rfl rfl (Nat.le_of_ble_eq_true rfl) dX1_refuses_28 (fun H locs hP hD hS => ?_)
      have hP : va_P (dC, dI) vwCl (wM cyI cyZ p0 p1 p2 p3 p4 mn me ml mt 2 wo mr mo mk mz mq) H := hP
      have hD : va_D A (wM cyI cyZ p0 p1 p2 p3 p4 mn me ml mt 2 wo mr mo mk mz mq) := hD
      refine lv_aload_n hx hb dX1_refuses_31 rfl (lv_at hl 0 rfl) ?_
      refine va_get (D := (dC, dI)) (ci := 1) (v := .int 2) (C := RX1) (T := TX1) (N := 11) hx hb hts iw hown hK hP 0 rfl rfl 0 (by decide) (hts (.fieldLink RX1 23 "ReelLoomModel" "thrown" "I") (by decide +kernel)) (fun _ h9 => h9) rfl dX1_refuses_32 ?_
      refine lv_if_eq (tgt := 42) hx hb dX1_refuses_35 (by decide) (fun c_6 => ?_) (fun c_6 => ?_)
      · skip
        exact absurd c_6 (by decide)
      · skip
        refine lv_iconst (v := 1) hx hb dX1_refuses_38 (by decide) ?_
        refine lv_goto (tgt := 43) hx hb dX1_refuses_39 (by decide) ?_
        exact W.zret (v := 1) (ty := .boolean) hx hb hr rfl (fun t ht hW => ⟨⟨1, 2, rfl, ⟨by unfold rfz; first | rw [if_pos h2] | rw [if_neg (not_not_intro h2), if_pos h11] | rw [if_neg (not_not_intro h2), if_neg h11, if_pos h20] | rw [if_neg (not_not_intro h2), if_neg h11, if_neg h20], by decide⟩, by show va_P (dC, dI) vwCl (wM cyI cyZ p0 p1 p2 p3 p4 mn me ml mt 2 wo mr mo mk mz mq) t.heap; rw [ht]; exact hP⟩, hS.F ht⟩) hS.2.2 dX1_refuses_43
  · skip
    refine lv_iconst (v := 1) hx hb dX1_refuses_5 (by decide) ?_
    refine lv_goto (tgt := 28) hx hb dX1_refuses_6 (by decide) ?_
    refine va_put (D := (dC, dI)) (ci := 1) (v := .int 1) (ty := .int) (C := RX1) (T := TX1) (N := 11) hx hb hts iw tyX1 tyX1_ok nmX1 hown hK hP hD hS 0 rfl rfl 0 (by decide) (hts (.fieldLink RX1 23 "ReelLoomModel" "thrown" "I") (by decide +kernel)) (fun _ h9 => h9) rfl (by decide +kernel) rfl rfl (Nat.le_of_ble_eq_true rfl) dX1_refuses_28 (fun H locs hP hD hS => ?_)
    have hP : va_P (dC, dI) vwCl (wM cyI cyZ p0 p1 p2 p3 p4 mn me ml mt 1 wo mr mo mk mz mq) H := hP
    have hD : va_D A (wM cyI cyZ p0 p1 p2 p3 p4 mn me ml mt 1 wo mr mo mk mz mq) := hD
    refine lv_aload_n hx hb dX1_refuses_31 rfl (lv_at hl 0 rfl) ?_
    refine va_get (D := (dC, dI)) (ci := 1) (v := .int 1) (C := RX1) (T := TX1) (N := 11) hx hb hts iw hown hK hP 0 rfl rfl 0 (by decide) (hts (.fieldLink RX1 23 "ReelLoomModel" "thrown" "I") (by decide +kernel)) (fun _ h9 => h9) rfl dX1_refuses_32 ?_
    refine lv_if_eq (tgt := 42) hx hb dX1_refuses_35 (by decide) (fun c_7 => ?_) (fun c_7 => ?_)
    · skip
      exact absurd c_7 (by decide)
    · skip
      refine lv_iconst (v := 1) hx hb dX1_refuses_38 (by decide) ?_
      refine lv_goto (tgt := 43) hx hb dX1_refuses_39 (by decide) ?_
      exact W.zret (v := 1) (ty := .boolean) hx hb hr rfl (fun t ht hW => ⟨⟨1, 1, rfl, ⟨by unfold rfz; first | rw [if_pos h2] | rw [if_neg (not_not_intro h2), if_pos h11] | rw [if_neg (not_not_intro h2), if_neg h11, if_pos h20] | rw [if_neg (not_not_intro h2), if_neg h11, if_neg h20], by decide⟩, by show va_P (dC, dI) vwCl (wM cyI cyZ p0 p1 p2 p3 p4 mn me ml mt 1 wo mr mo mk mz mq) t.heap; rw [ht]; exact hP⟩, hS.F ht⟩) hS.2.2 dX1_refuses_43
