def im1 : Int32 := -1
abbrev stM (mn : Nat → Int32) (so : Nat) : Int32 := stK (fun k => mn (2 * k)) so
theorem lkI_j {w : Int32} {j : Nat} (hj : j < 2 ^ 31) : (nI j < w ∧ lkI w (nI j) = 0) ∨ (¬ nI j < w ∧ ¬ lkI w (nI j) = 0 ∧ lkI w (nI j) = (if w = -1 then 1 else 2)) := by
  by_cases h : nI j < w
  · left
    refine ⟨h, ?_⟩
    have h1 : ¬ w = -1 := by
      intro e
      rw [e, Int32.lt_iff_toInt_lt, nI_toInt hj] at h
      have : (-1 : Int32).toInt = -1 := by decide
      omega
    unfold lkI
    rw [if_neg h1, if_neg (not_not_intro ⟨nI_pos hj, h⟩)]
  · right
    refine ⟨h, ?_⟩
    unfold lkI
    by_cases h1 : w = -1
    · rw [if_pos h1, if_pos h1]; exact ⟨by decide, rfl⟩
    · rw [if_neg h1, if_neg h1, if_pos (fun a => h a.2)]; exact ⟨by decide, rfl⟩
def mcol (me mn ml mt : Nat → Int32) (mk mz mq : Int32) (ro j : Nat) (v : Int32) : Bool × (Nat → Int32) × (Nat → Int32) × Int32 × Int32 × Int32 :=
  if ¬ nI j < mn (2 * 3) then (false, me, ml, stM mn 3, nI 3, nI j) else
  if me (64 * (2 * 3) + j) = 1 ∧ ¬ nI j < mn (2 * 0) then (false, me, ml, stM mn 0, nI 0, nI j) else
  if ¬ mt ro = 0 then (false, me, ml, 1, 5, nI j) else
  if ¬ nI j < mn (2 * 1) then (false, me, upd ml (40 * ro + j) (if me (64 * (2 * 3) + j) = 1 then me (64 * (2 * 0) + j) else v), stM mn 1, nI 1, nI j) else
  if ¬ nI j < mn (2 * 2) then (false, upd me (64 * (2 * 1) + j) (ft 1 (me (64 * (2 * 1) + j) + 1)), upd ml (40 * ro + j) (if me (64 * (2 * 3) + j) = 1 then me (64 * (2 * 0) + j) else v), stM mn 2, nI 2, nI j) else
  if me (64 * (2 * 3) + j) = 1 ∧ ¬ nI j < mn (2 * 4) then (false, upd (upd me (64 * (2 * 1) + j) (ft 1 (me (64 * (2 * 1) + j) + 1))) (64 * (2 * 2) + j) (ft 2 (upd me (64 * (2 * 1) + j) (ft 1 (me (64 * (2 * 1) + j) + 1)) (64 * (2 * 2) + j) + 2)), upd ml (40 * ro + j) (me (64 * (2 * 0) + j)), stM mn 4, nI 4, nI j) else
  if me (64 * (2 * 3) + j) = 1 then (true, upd (upd (upd me (64 * (2 * 1) + j) (ft 1 (me (64 * (2 * 1) + j) + 1))) (64 * (2 * 2) + j) (ft 2 (upd me (64 * (2 * 1) + j) (ft 1 (me (64 * (2 * 1) + j) + 1)) (64 * (2 * 2) + j) + 2))) (64 * (2 * 4) + j) (ft 4 (upd (upd me (64 * (2 * 1) + j) (ft 1 (me (64 * (2 * 1) + j) + 1))) (64 * (2 * 2) + j) (ft 2 (upd me (64 * (2 * 1) + j) (ft 1 (me (64 * (2 * 1) + j) + 1)) (64 * (2 * 2) + j) + 2)) (64 * (2 * 4) + j) + 1)), upd ml (40 * ro + j) (me (64 * (2 * 0) + j)), mk, mz, mq) else
  (true, upd (upd me (64 * (2 * 1) + j) (ft 1 (me (64 * (2 * 1) + j) + 1))) (64 * (2 * 2) + j) (ft 2 (upd me (64 * (2 * 1) + j) (ft 1 (me (64 * (2 * 1) + j) + 1)) (64 * (2 * 2) + j) + im1)), upd ml (40 * ro + j) v, mk, mz, mq)
def mrun (mn mt : Nat → Int32) (ro : Nat) (v : Int32) : Nat → Nat → (Nat → Int32) → (Nat → Int32) → Int32 → Int32 → Int32 → Nat × (Nat → Int32) × (Nat → Int32) × Int32 × Int32 × Int32
  | 0, j, me, ml, a, b, d => (j, me, ml, a, b, d)
  | n + 1, j, me, ml, a, b, d => match mcol me mn ml mt a b d ro j v with
    | (true, me2, ml2, mk2, mz2, mq2) => mrun mn mt ro v n (j + 1) me2 ml2 mk2 mz2 mq2
    | (false, me2, ml2, mk2, mz2, mq2) => (j, me2, ml2, mk2, mz2, mq2)
def lkM (wo mr mo : Int32) (mt : Nat → Int32) (x y : Int32) : Nat := if wo = 0 then 1 else if ¬ (¬ x < 0 ∧ x < mr) then 2 else if ¬ mt x.toNatClampNeg = 0 then 1 else if ¬ (¬ y < 0 ∧ y < mo) then 2 else 0
def lkSM (wo mr : Int32) (mt : Nat → Int32) (x y : Int32) : Nat := if wo = 0 then 1 else if ¬ rlk mr mt x = 0 then rlk mr mt x else rlk mr mt y
def wIm (me : Nat → Int32) (so : Nat) (a : Int32) : Nat → Int32
  | 0 => a
  | n + 1 => wIm me so a n + (nI so + 1) * me (64 * (2 * so) + n)
def wOm (me mn : Nat → Int32) : Nat → Int32
  | 0 => 0
  | n + 1 => wIm me n (wOm me mn n) (mn (2 * n)).toNatClampNeg
def nOffM (mn : Nat → Int32) : Nat → Int32
  | 0 => 0
  | n + 1 => nOffM mn n + (if mn (2 * n) = -1 then 1 else 0)
def nCutM (mt : Nat → Int32) : Nat → Int32
  | 0 => 0
  | n + 1 => nCutM mt n + (if mt n = 0 then 0 else 1)
def nSameM (ml : Nat → Int32) (ra rb : Nat) : Nat → Int32
  | 0 => 0
  | n + 1 => nSameM ml ra rb n + (if ml (40 * ra + n) = ml (40 * rb + n) then 1 else 0)
theorem i_out {x : Int32} {n : Nat} (hn : n < 2 ^ 31) (h : x < 0 ∨ ¬ x ≤ nI n) : x.toInt < 0 ∨ (n : Int) < x.toInt := by
  have e0 : (0 : Int32).toInt = 0 := by decide
  rw [Int32.lt_iff_toInt_lt, Int32.le_iff_toInt_le, nI_toInt hn, e0] at h
  omega
theorem i_in {x : Int32} {n : Nat} (hn : n < 2 ^ 31) (h0 : ¬ x < 0) (h1 : x ≤ nI n) : ¬ (x.toInt < 0 ∨ (n : Int) < x.toInt) := by
  have e0 : (0 : Int32).toInt = 0 := by decide
  rw [Int32.lt_iff_toInt_lt, e0] at h0
  rw [Int32.le_iff_toInt_le, nI_toInt hn] at h1
  omega
theorem i_2 {x : Int32} (h0 : ¬ x < 0) (h2 : x ≤ nI 2) (n0 : ¬ x = 0) (n1 : ¬ x = 1) : x = 2 := by
  rcases sw3 x with e | e | e | e
  · exact absurd e n0
  · exact absurd e n1
  · exact e
  · exact absurd e (i_in (by decide) h0 h2)
theorem nI_z {n : Nat} (h : n < 2 ^ 31) (e : nI n = 0) : n = 0 := (nI_eq h (by decide)).mp e
theorem rlk_lt (rw : Int32) (ct : Nat → Int32) (x : Int32) : rlk rw ct x < 3 := by
  unfold rlk
  split
  · decide
  · split <;> decide
theorem lkM_lt (wo mr mo : Int32) (mt : Nat → Int32) (x y : Int32) : lkM wo mr mo mt x y < 3 := by
  unfold lkM
  repeat' split
  all_goals decide
theorem rlk_0 {rw : Int32} {ct : Nat → Int32} {x : Int32} (h : rlk rw ct x = 0) : (¬ x < 0 ∧ x < rw) ∧ ct x.toNatClampNeg = 0 := by
  unfold rlk at h
  by_cases h2 : ¬ (¬ x < 0 ∧ x < rw)
  · rw [if_pos h2] at h; cases h
  · rw [if_neg h2] at h
    by_cases h3 : ¬ ct x.toNatClampNeg = 0
    · rw [if_pos h3] at h; cases h
    · exact ⟨Decidable.not_not.mp h2, Decidable.not_not.mp h3⟩
theorem lkM_0 {wo mr mo : Int32} {mt : Nat → Int32} {x y : Int32} (h : lkM wo mr mo mt x y = 0) : ¬ wo = 0 ∧ (¬ x < 0 ∧ x < mr) ∧ mt x.toNatClampNeg = 0 ∧ (¬ y < 0 ∧ y < mo) := by
  unfold lkM at h
  by_cases h1 : wo = 0
  · rw [if_pos h1] at h; cases h
  · rw [if_neg h1] at h
    by_cases h2 : ¬ (¬ x < 0 ∧ x < mr)
    · rw [if_pos h2] at h; cases h
    · rw [if_neg h2] at h
      by_cases h3 : ¬ mt x.toNatClampNeg = 0
      · rw [if_pos h3] at h; cases h
      · rw [if_neg h3] at h
        by_cases h4 : ¬ (¬ y < 0 ∧ y < mo)
        · rw [if_pos h4] at h; cases h
        · exact ⟨h1, Decidable.not_not.mp h2, Decidable.not_not.mp h3, Decidable.not_not.mp h4⟩
theorem rfz_t {k : Nat} {t r : Int32} (h : t = rfz 0 (nI k) ∧ r = (if t = 0 then 0 else 1)) (hk : k < 3) (h0 : r = 0) : t = 0 ∧ k = 0 := by
  rcases (show k = 0 ∨ k = 1 ∨ k = 2 by omega) with rfl | rfl | rfl
  · exact ⟨h.1.trans (by decide), rfl⟩
  · have := h.2; rw [h.1, h0] at this; exact absurd this (by decide)
  · have := h.2; rw [h.1, h0] at this; exact absurd this (by decide)
theorem rfz_f {k : Nat} {t r : Int32} (h : t = rfz 0 (nI k) ∧ r = (if t = 0 then 0 else 1)) (hk : k < 3) (h0 : ¬ r = 0) : (k = 1 ∧ t = 2) ∨ (k = 2 ∧ t = 3) := by
  rcases (show k = 0 ∨ k = 1 ∨ k = 2 by omega) with rfl | rfl | rfl
  · have := h.2; rw [h.1] at this; exact absurd this h0
  · exact Or.inl ⟨rfl, h.1.trans (by decide)⟩
  · exact Or.inr ⟨rfl, h.1.trans (by decide)⟩
set_option maxHeartbeats 4000000 in
set_option maxRecDepth 100000 in
theorem k_X1_isRow (l : Launch) (dC : Nat → ClassId) (dI : Nat → Nat → Nat) (cyI cyZ : ClassId) (H0 : Heap) (p0 p1 p2 p3 p4 : Nat) (mn me ml mt : Nat → Int32) (th wo mr mo mk mz mq : Int32) (hP : va_P (dC, dI) vwCl (wM cyI cyZ p0 p1 p2 p3 p4 mn me ml mt th wo mr mo mk mz mq) H0) (hD0 : va_D (fun _ => True) (wM cyI cyZ p0 p1 p2 p3 p4 mn me ml mt th wo mr mo mk mz mq)) (x : Int32)  : Met l yX1_isRow wsX1_isRow ({ frames := 0, cells := 0, slots := 0, locals := 0 }) (va_Pc [.ref p0, .int x] (pK dC dI (tyW cyI cyZ) H0)) (gx_Qi (fun r : Int32 => (r = 1 ∧ (¬ x < 0 ∧ x < mr)) ∨ (r = 0 ∧ ¬ (¬ x < 0 ∧ x < mr))) H0) 0 0 (gx_new H0) := by
  refine Met.ofW (cc := cX1_isRow) (maxL := 2) (ret := (some .boolean)) (by decide) rfl ?_
  intro p e s m args below meth c s₁ B hml hv
  obtain ⟨rfl, rfl, hK⟩ := hv
  have hx := B.exec
  have hb := B.bytes
  have hr := B.returns
  have hts := atoms_spec (ws := wsX1_isRow) B.pre
  have hown : s.vm.findClass RX1 = some m.cls := findClass_of_methodNamed B.named
  have hlocks := B.notSynchronized
  have hD := hD0.self (sz := s.heap.size)
  generalize hAe : (gx_new s.heap) = A at ⊢
  have hA : ∀ q : Nat, s.heap.size ≤ q → A q := fun q h => by rw [← hAe]; exact h
  have hS : va_S A s.heap s.heap [] := va_S.rf
  have hl := lv_entry ([.ref p0, .int x]) (n := 2) (Nat.le_of_ble_eq_true rfl)
  rw [lg_entry_eq]
  generalize (lg_sl ([.ref p0, .int x]) ++ List.replicate (2 - (lg_sl ([.ref p0, .int x])).length) Slot.unset).toArray = ls at hl ⊢
  have hl : lv_has ls 2 [(0, .ref p0), (1, .int x)] := hl
  have iw : ∀ w ∈ wsX10, w ∈ wsX1_isRow := by decide +kernel
  refine lv_iload_n hx hb dX1_isRow_0 rfl (lv_at hl 1 rfl) ?_
  refine lv_if_lt (tgt := 16) hx hb dX1_isRow_1 (by decide) (fun h1 => ?_) (fun h1 => ?_)
  · skip
    refine lv_iconst (v := 0) hx hb dX1_isRow_16 (by decide) ?_
    exact W.zret (v := 0) (ty := .boolean) hx hb hr rfl (fun t ht hW => ⟨0, rfl, Or.inr ⟨rfl, fun h => by first | exact h.1 h1 | exact Int32.not_lt.mpr h9 h.2⟩, ht⟩) hS.2.2 dX1_isRow_17
  · skip
    refine lv_iload_n hx hb dX1_isRow_4 rfl (lv_at hl 1 rfl) ?_
    refine lv_aload_n hx hb dX1_isRow_5 rfl (lv_at hl 0 rfl) ?_
    refine va_get (D := (dC, dI)) (ci := 1) (v := .int mr) (C := RX1) (T := TX1) (N := 11) hx hb hts iw hown hK hP 0 rfl rfl 4 (by decide) (hts (.fieldLink RX1 67 "ReelLoomModel" "rows" "I") (by decide +kernel)) (fun _ h9 => h9) rfl dX1_isRow_6 ?_
    refine lv_icmp_ge (tgt := 16) hx hb dX1_isRow_9 (by decide) (fun h9 => ?_) (fun h9 => ?_)
    · skip
      refine lv_iconst (v := 0) hx hb dX1_isRow_16 (by decide) ?_
      exact W.zret (v := 0) (ty := .boolean) hx hb hr rfl (fun t ht hW => ⟨0, rfl, Or.inr ⟨rfl, fun h => by first | exact h.1 h1 | exact Int32.not_lt.mpr h9 h.2⟩, ht⟩) hS.2.2 dX1_isRow_17
    · skip
      refine lv_iconst (v := 1) hx hb dX1_isRow_12 (by decide) ?_
      refine lv_goto (tgt := 17) hx hb dX1_isRow_13 (by decide) ?_
      exact W.zret (v := 1) (ty := .boolean) hx hb hr rfl (fun t ht hW => ⟨1, rfl, Or.inl ⟨rfl, h1, Int32.not_le.mp h9⟩, ht⟩) hS.2.2 dX1_isRow_17
set_option maxHeartbeats 4000000 in
set_option maxRecDepth 100000 in
theorem k_X1_isColumn (l : Launch) (dC : Nat → ClassId) (dI : Nat → Nat → Nat) (cyI cyZ : ClassId) (H0 : Heap) (p0 p1 p2 p3 p4 : Nat) (mn me ml mt : Nat → Int32) (th wo mr mo mk mz mq : Int32) (hP : va_P (dC, dI) vwCl (wM cyI cyZ p0 p1 p2 p3 p4 mn me ml mt th wo mr mo mk mz mq) H0) (hD0 : va_D (fun _ => True) (wM cyI cyZ p0 p1 p2 p3 p4 mn me ml mt th wo mr mo mk mz mq)) (x : Int32)  : Met l yX1_isColumn wsX1_isColumn ({ frames := 0, cells := 0, slots := 0, locals := 0 }) (va_Pc [.ref p0, .int x] (pK dC dI (tyW cyI cyZ) H0)) (gx_Qi (fun r : Int32 => (r = 1 ∧ (¬ x < 0 ∧ x < mo)) ∨ (r = 0 ∧ ¬ (¬ x < 0 ∧ x < mo))) H0) 0 0 (gx_new H0) := by
  refine Met.ofW (cc := cX1_isColumn) (maxL := 2) (ret := (some .boolean)) (by decide) rfl ?_
  intro p e s m args below meth c s₁ B hml hv
  obtain ⟨rfl, rfl, hK⟩ := hv
  have hx := B.exec
  have hb := B.bytes
  have hr := B.returns
  have hts := atoms_spec (ws := wsX1_isColumn) B.pre
  have hown : s.vm.findClass RX1 = some m.cls := findClass_of_methodNamed B.named
  have hlocks := B.notSynchronized
  have hD := hD0.self (sz := s.heap.size)
  generalize hAe : (gx_new s.heap) = A at ⊢
  have hA : ∀ q : Nat, s.heap.size ≤ q → A q := fun q h => by rw [← hAe]; exact h
  have hS : va_S A s.heap s.heap [] := va_S.rf
  have hl := lv_entry ([.ref p0, .int x]) (n := 2) (Nat.le_of_ble_eq_true rfl)
  rw [lg_entry_eq]
  generalize (lg_sl ([.ref p0, .int x]) ++ List.replicate (2 - (lg_sl ([.ref p0, .int x])).length) Slot.unset).toArray = ls at hl ⊢
  have hl : lv_has ls 2 [(0, .ref p0), (1, .int x)] := hl
  have iw : ∀ w ∈ wsX10, w ∈ wsX1_isColumn := by decide +kernel
  refine lv_iload_n hx hb dX1_isColumn_0 rfl (lv_at hl 1 rfl) ?_
  refine lv_if_lt (tgt := 16) hx hb dX1_isColumn_1 (by decide) (fun h1 => ?_) (fun h1 => ?_)
  · skip
    refine lv_iconst (v := 0) hx hb dX1_isColumn_16 (by decide) ?_
    exact W.zret (v := 0) (ty := .boolean) hx hb hr rfl (fun t ht hW => ⟨0, rfl, Or.inr ⟨rfl, fun h => by first | exact h.1 h1 | exact Int32.not_lt.mpr h9 h.2⟩, ht⟩) hS.2.2 dX1_isColumn_17
  · skip
    refine lv_iload_n hx hb dX1_isColumn_4 rfl (lv_at hl 1 rfl) ?_
    refine lv_aload_n hx hb dX1_isColumn_5 rfl (lv_at hl 0 rfl) ?_
    refine va_get (D := (dC, dI)) (ci := 1) (v := .int mo) (C := RX1) (T := TX1) (N := 11) hx hb hts iw hown hK hP 0 rfl rfl 5 (by decide) (hts (.fieldLink RX1 70 "ReelLoomModel" "columns" "I") (by decide +kernel)) (fun _ h9 => h9) rfl dX1_isColumn_6 ?_
    refine lv_icmp_ge (tgt := 16) hx hb dX1_isColumn_9 (by decide) (fun h9 => ?_) (fun h9 => ?_)
    · skip
      refine lv_iconst (v := 0) hx hb dX1_isColumn_16 (by decide) ?_
      exact W.zret (v := 0) (ty := .boolean) hx hb hr rfl (fun t ht hW => ⟨0, rfl, Or.inr ⟨rfl, fun h => by first | exact h.1 h1 | exact Int32.not_lt.mpr h9 h.2⟩, ht⟩) hS.2.2 dX1_isColumn_17
    · skip
      refine lv_iconst (v := 1) hx hb dX1_isColumn_12 (by decide) ?_
      refine lv_goto (tgt := 17) hx hb dX1_isColumn_13 (by decide) ?_
      exact W.zret (v := 1) (ty := .boolean) hx hb hr rfl (fun t ht hW => ⟨1, rfl, Or.inl ⟨rfl, h1, Int32.not_le.mp h9⟩, ht⟩) hS.2.2 dX1_isColumn_17
set_option maxHeartbeats 4000000 in
set_option maxRecDepth 100000 in
theorem k_X1_weave (l : Launch) (dC : Nat → ClassId) (dI : Nat → Nat → Nat) (cyI cyZ : ClassId) (H0 : Heap) (p0 p1 p2 p3 p4 : Nat) (mn me ml mt : Nat → Int32) (th wo mr mo mk mz mq : Int32) (hP : va_P (dC, dI) vwCl (wM cyI cyZ p0 p1 p2 p3 p4 mn me ml mt th wo mr mo mk mz mq) H0) (hD0 : va_D (fun _ => True) (wM cyI cyZ p0 p1 p2 p3 p4 mn me ml mt th wo mr mo mk mz mq)) (x : Int32) (y : Int32)  : Met l yX1_weave wsX1_weave ({ frames := 0, cells := 0, slots := 0, locals := 0 }) (va_Pc [.ref p0, .int x, .int y] (pK dC dI (tyW cyI cyZ) H0)) (va_Qi (fun (r : Int32) (u : Int32 × Int32 × Int32 × Int32 × (Nat → Int32) × (Nat → Int32)) => match u with | (th2, wo2, mr2, mo2, ml2, mt2) => ((nI 40 < x ∨ nI 40 < y) ∧ th2 = 1 ∧ wo2 = wo ∧ mr2 = mr ∧ mo2 = mo ∧ ml2 = ml ∧ mt2 = mt) ∨ (¬ (nI 40 < x ∨ nI 40 < y) ∧ (x < 0 ∨ y < 0) ∧ th2 = 2 ∧ wo2 = wo ∧ mr2 = mr ∧ mo2 = mo ∧ ml2 = ml ∧ mt2 = mt) ∨ (th2 = 0 ∧ ∃ m n : Nat, m ≤ 40 ∧ x = nI m ∧ n ≤ 40 ∧ y = nI n ∧ r = nI (m * n) ∧ wo2 = 1 ∧ mr2 = nI m ∧ mo2 = nI n ∧ ml2 = fa ml 0 1600 ∧ mt2 = fa mt 0 40)) (fun (u : Int32 × Int32 × Int32 × Int32 × (Nat → Int32) × (Nat → Int32)) (t : State) => match u with | (th2, wo2, mr2, mo2, ml2, mt2) => va_P (dC, dI) vwCl (wM cyI cyZ p0 p1 p2 p3 p4 mn me ml2 mt2 th2 wo2 mr2 mo2 mk mz mq) t.heap) (va_A (wM cyI cyZ p0 p1 p2 p3 p4 mn me ml mt th wo mr mo mk mz mq) H0.size)) 0 0 (va_A (wM cyI cyZ p0 p1 p2 p3 p4 mn me ml mt th wo mr mo mk mz mq) H0.size) := by
  refine Met.ofW (cc := cX1_weave) (maxL := 4) (ret := (some .int)) (by decide) rfl ?_
  intro p e s m args below meth c s₁ B hml hv
  obtain ⟨rfl, rfl, hK⟩ := hv
  have hx := B.exec
  have hb := B.bytes
  have hr := B.returns
  have hts := atoms_spec (ws := wsX1_weave) B.pre
  have hown : s.vm.findClass RX1 = some m.cls := findClass_of_methodNamed B.named
  have hlocks := B.notSynchronized
  have hD := hD0.self (sz := s.heap.size)
  generalize hAe : (va_A (wM cyI cyZ p0 p1 p2 p3 p4 mn me ml mt th wo mr mo mk mz mq) s.heap.size) = A at hD ⊢
  have hA : ∀ q : Nat, s.heap.size ≤ q → A q := fun q h => by rw [← hAe]; exact Or.inr h
  have hS : va_S A s.heap s.heap [] := va_S.rf
  have hl := lv_entry ([.ref p0, .int x, .int y]) (n := 4) (Nat.le_of_ble_eq_true rfl)
  rw [lg_entry_eq]
  generalize (lg_sl ([.ref p0, .int x, .int y]) ++ List.replicate (4 - (lg_sl ([.ref p0, .int x, .int y])).length) Slot.unset).toArray = ls at hl ⊢
  have hl : lv_has ls 4 [(0, .ref p0), (1, .int x), (2, .int y)] := hl
  have iw : ∀ w ∈ wsX10, w ∈ wsX1_weave := by decide +kernel
  refine lv_aload_n hx hb dX1_weave_0 rfl (lv_at hl 0 rfl) ?_
  refine lv_iload_n hx hb dX1_weave_1 rfl (lv_at hl 1 rfl) ?_
  refine lv_bipush (v := nI 40) hx hb dX1_weave_2 (by decide) ?_
  refine lv_icmp_gt (tgt := 13) hx hb dX1_weave_4 (by decide) (fun h4 => ?_) (fun h4 => ?_)
  · skip
    refine lv_iconst (v := 1) hx hb dX1_weave_13 (by decide) ?_
    refine lv_goto (tgt := 30) hx hb dX1_weave_14 (by decide) ?_
    refine va_put (D := (dC, dI)) (ci := 1) (v := .int 1) (ty := .int) (C := RX1) (T := TX1) (N := 11) hx hb hts iw tyX1 tyX1_ok nmX1 hown hK hP hD hS 0 rfl rfl 0 (by decide) (hts (.fieldLink RX1 23 "ReelLoomModel" "thrown" "I") (by decide +kernel)) (fun _ h9 => h9) rfl (by decide +kernel) rfl rfl (Nat.le_of_ble_eq_true rfl) dX1_weave_30 (fun H locs hP hD hS => ?_)
    have hP : va_P (dC, dI) vwCl (wM cyI cyZ p0 p1 p2 p3 p4 mn me ml mt 1 wo mr mo mk mz mq) H := hP
    have hD : va_D A (wM cyI cyZ p0 p1 p2 p3 p4 mn me ml mt 1 wo mr mo mk mz mq) := hD
    refine lv_aload_n hx hb dX1_weave_33 rfl (lv_at hl 0 rfl) ?_
    refine va_get (D := (dC, dI)) (ci := 1) (v := .int 1) (C := RX1) (T := TX1) (N := 11) hx hb hts iw hown hK hP 0 rfl rfl 0 (by decide) (hts (.fieldLink RX1 23 "ReelLoomModel" "thrown" "I") (by decide +kernel)) (fun _ h9 => h9) rfl dX1_weave_34 ?_
    refine lv_if_eq (tgt := 42) hx hb dX1_weave_37 (by decide) (fun c_2 => ?_) (fun c_2 => ?_)
    · skip
      exact absurd c_2 (by decide)
    · skip
      refine lv_iconst (v := 0) hx hb dX1_weave_40 (by decide) ?_
      exact W.iret (v := 0) hx hb hr (fun t ht hW => ⟨⟨0, (1, wo, mr, mo, ml, mt), rfl, Or.inl ⟨by first | exact Or.inl h4 | exact Or.inr (Int32.not_le.mp h10), rfl, rfl, rfl, rfl, rfl, rfl⟩, by show va_P (dC, dI) vwCl (wM cyI cyZ p0 p1 p2 p3 p4 mn me ml mt 1 wo mr mo mk mz mq) t.heap; rw [ht]; exact hP⟩, hS.F ht⟩) hS.2.2 dX1_weave_41
  · skip
    refine lv_iload_n hx hb dX1_weave_7 rfl (lv_at hl 2 rfl) ?_
    refine lv_bipush (v := nI 40) hx hb dX1_weave_8 (by decide) ?_
    refine lv_icmp_le (tgt := 17) hx hb dX1_weave_10 (by decide) (fun h10 => ?_) (fun h10 => ?_)
    · skip
      refine lv_iload_n hx hb dX1_weave_17 rfl (lv_at hl 1 rfl) ?_
      refine lv_if_lt (tgt := 25) hx hb dX1_weave_18 (by decide) (fun h18 => ?_) (fun h18 => ?_)
      · skip
        refine lv_iconst (v := 2) hx hb dX1_weave_25 (by decide) ?_
        refine lv_goto (tgt := 30) hx hb dX1_weave_26 (by decide) ?_
        refine va_put (D := (dC, dI)) (ci := 1) (v := .int 2) (ty := .int) (C := RX1) (T := TX1) (N := 11) hx hb hts iw tyX1 tyX1_ok nmX1 hown hK hP hD hS 0 rfl rfl 0 (by decide) (hts (.fieldLink RX1 23 "ReelLoomModel" "thrown" "I") (by decide +kernel)) (fun _ h9 => h9) rfl (by decide +kernel) rfl rfl (Nat.le_of_ble_eq_true rfl) dX1_weave_30 (fun H locs hP hD hS => ?_)
        have hP : va_P (dC, dI) vwCl (wM cyI cyZ p0 p1 p2 p3 p4 mn me ml mt 2 wo mr mo mk mz mq) H := hP
        have hD : va_D A (wM cyI cyZ p0 p1 p2 p3 p4 mn me ml mt 2 wo mr mo mk mz mq) := hD
        refine lv_aload_n hx hb dX1_weave_33 rfl (lv_at hl 0 rfl) ?_
        refine va_get (D := (dC, dI)) (ci := 1) (v := .int 2) (C := RX1) (T := TX1) (N := 11) hx hb hts iw hown hK hP 0 rfl rfl 0 (by decide) (hts (.fieldLink RX1 23 "ReelLoomModel" "thrown" "I") (by decide +kernel)) (fun _ h9 => h9) rfl dX1_weave_34 ?_
        refine lv_if_eq (tgt := 42) hx hb dX1_weave_37 (by decide) (fun c_5 => ?_) (fun c_5 => ?_)
        · skip
          exact absurd c_5 (by decide)
        · skip
          refine lv_iconst (v := 0) hx hb dX1_weave_40 (by decide) ?_
          exact W.iret (v := 0) hx hb hr (fun t ht hW => ⟨⟨0, (2, wo, mr, mo, ml, mt), rfl, Or.inr (Or.inl ⟨fun h => h.elim h4 (fun h => absurd h10 (Int32.not_le.mpr h)), by first | exact Or.inl h18 | exact Or.inr (Int32.not_le.mp h22), rfl, rfl, rfl, rfl, rfl, rfl⟩), by show va_P (dC, dI) vwCl (wM cyI cyZ p0 p1 p2 p3 p4 mn me ml mt 2 wo mr mo mk mz mq) t.heap; rw [ht]; exact hP⟩, hS.F ht⟩) hS.2.2 dX1_weave_41
      · skip
        refine lv_iload_n hx hb dX1_weave_21 rfl (lv_at hl 2 rfl) ?_
        refine lv_if_ge (tgt := 29) hx hb dX1_weave_22 (by decide) (fun h22 => ?_) (fun h22 => ?_)
        · skip
          refine lv_iconst (v := 0) hx hb dX1_weave_29 (by decide) ?_
          refine va_put (D := (dC, dI)) (ci := 1) (v := .int 0) (ty := .int) (C := RX1) (T := TX1) (N := 11) hx hb hts iw tyX1 tyX1_ok nmX1 hown hK hP hD hS 0 rfl rfl 0 (by decide) (hts (.fieldLink RX1 23 "ReelLoomModel" "thrown" "I") (by decide +kernel)) (fun _ h9 => h9) rfl (by decide +kernel) rfl rfl (Nat.le_of_ble_eq_true rfl) dX1_weave_30 (fun H locs hP hD hS => ?_)
          have hP : va_P (dC, dI) vwCl (wM cyI cyZ p0 p1 p2 p3 p4 mn me ml mt 0 wo mr mo mk mz mq) H := hP
          have hD : va_D A (wM cyI cyZ p0 p1 p2 p3 p4 mn me ml mt 0 wo mr mo mk mz mq) := hD
          refine lv_aload_n hx hb dX1_weave_33 rfl (lv_at hl 0 rfl) ?_
          refine va_get (D := (dC, dI)) (ci := 1) (v := .int 0) (C := RX1) (T := TX1) (N := 11) hx hb hts iw hown hK hP 0 rfl rfl 0 (by decide) (hts (.fieldLink RX1 23 "ReelLoomModel" "thrown" "I") (by decide +kernel)) (fun _ h9 => h9) rfl dX1_weave_34 ?_
          refine lv_if_eq (tgt := 42) hx hb dX1_weave_37 (by decide) (fun c_7 => ?_) (fun c_7 => ?_)
          · skip
            obtain ⟨m9, hm9, rfl⟩ := in_le (n := 40) (by decide) h18 (Int32.not_lt.mp h4)
            obtain ⟨n9, hn9, rfl⟩ := in_le (n := 40) (by decide) (Int32.not_lt.mpr h22) h10
            refine lv_aload_n hx hb dX1_weave_42 rfl (lv_at hl 0 rfl) ?_
            refine lv_iconst (v := 1) hx hb dX1_weave_43 (by decide) ?_
            refine va_put (D := (dC, dI)) (ci := 1) (v := .int 1) (ty := .boolean) (C := RX1) (T := TX1) (N := 11) hx hb hts iw tyX1 tyX1_ok nmX1 hown hK hP hD hS 0 rfl rfl 3 (by decide) (hts (.fieldLink RX1 73 "ReelLoomModel" "isWoven" "Z") (by decide +kernel)) (fun _ h9 => h9) rfl (by decide +kernel) rfl rfl (Nat.le_of_ble_eq_true rfl) dX1_weave_44 (fun H locs hP hD hS => ?_)
            have hP : va_P (dC, dI) vwCl (wM cyI cyZ p0 p1 p2 p3 p4 mn me ml mt 0 1 mr mo mk mz mq) H := hP
            have hD : va_D A (wM cyI cyZ p0 p1 p2 p3 p4 mn me ml mt 0 1 mr mo mk mz mq) := hD
            refine lv_aload_n hx hb dX1_weave_47 rfl (lv_at hl 0 rfl) ?_
            refine lv_iload_n hx hb dX1_weave_48 rfl (lv_at hl 1 rfl) ?_
            refine va_put (D := (dC, dI)) (ci := 1) (v := .int (nI m9)) (ty := .int) (C := RX1) (T := TX1) (N := 11) hx hb hts iw tyX1 tyX1_ok nmX1 hown hK hP hD hS 0 rfl rfl 4 (by decide) (hts (.fieldLink RX1 67 "ReelLoomModel" "rows" "I") (by decide +kernel)) (fun _ h9 => h9) rfl (by decide +kernel) rfl rfl (Nat.le_of_ble_eq_true rfl) dX1_weave_49 (fun H locs hP hD hS => ?_)
            have hP : va_P (dC, dI) vwCl (wM cyI cyZ p0 p1 p2 p3 p4 mn me ml mt 0 1 (nI m9) mo mk mz mq) H := hP
            have hD : va_D A (wM cyI cyZ p0 p1 p2 p3 p4 mn me ml mt 0 1 (nI m9) mo mk mz mq) := hD
            refine lv_aload_n hx hb dX1_weave_52 rfl (lv_at hl 0 rfl) ?_
            refine lv_iload_n hx hb dX1_weave_53 rfl (lv_at hl 2 rfl) ?_
            refine va_put (D := (dC, dI)) (ci := 1) (v := .int (nI n9)) (ty := .int) (C := RX1) (T := TX1) (N := 11) hx hb hts iw tyX1 tyX1_ok nmX1 hown hK hP hD hS 0 rfl rfl 5 (by decide) (hts (.fieldLink RX1 70 "ReelLoomModel" "columns" "I") (by decide +kernel)) (fun _ h9 => h9) rfl (by decide +kernel) rfl rfl (Nat.le_of_ble_eq_true rfl) dX1_weave_54 (fun H locs hP hD hS => ?_)
            have hP : va_P (dC, dI) vwCl (wM cyI cyZ p0 p1 p2 p3 p4 mn me ml mt 0 1 (nI m9) (nI n9) mk mz mq) H := hP
            have hD : va_D A (wM cyI cyZ p0 p1 p2 p3 p4 mn me ml mt 0 1 (nI m9) (nI n9) mk mz mq) := hD
            refine lv_iconst (v := nI 0) hx hb dX1_weave_57 (by decide) ?_
            refine lv_istore_n (lv' := [(3, .int (nI 0)), (0, .ref p0), (1, .int (nI m9)), (2, .int (nI n9))]) hx hb dX1_weave_58 rfl hl (by decide) rfl (fun ls hl => ?_)
            refine lpW (N := 1600) (I := fun i H locs ls => va_P (dC, dI) vwCl (wM cyI cyZ p0 p1 p2 p3 p4 mn me (fa ml 0 i) mt 0 1 (nI m9) (nI n9) mk mz mq) H ∧ va_D A (wM cyI cyZ p0 p1 p2 p3 p4 mn me (fa ml 0 i) mt 0 1 (nI m9) (nI n9) mk mz mq) ∧ va_S A s.heap H locs ∧ lv_has ls 4 [(3, .int (nI i)), (0, .ref p0), (1, .int (nI m9)), (2, .int (nI n9))]) (fun i hi H locs ls hI ih => ?_) (fun H locs ls hI => ?_) 0 (Nat.zero_le _) ⟨hP, hD, hS, lv_sub hl [0, 1, 2, 3] rfl⟩
            · skip
              obtain ⟨hP, hD, hS, hl⟩ := hI
              refine lv_iload_n hx hb dX1_weave_59 rfl (lv_at hl 0 rfl) ?_
              refine lv_sipush (v := nI 1600) hx hb dX1_weave_60 (by decide) ?_
              refine lv_icmp_ge (tgt := 79) hx hb dX1_weave_63 (by decide) (fun c_8 => ?_) (fun c_8 => ?_)
              · skip
                exact absurd c_8 (nI_ge (by omega) (by omega))
              · skip
                refine lv_aload_n hx hb dX1_weave_66 rfl (lv_at hl 1 rfl) ?_
                refine va_get (D := (dC, dI)) (ci := 1) (v := .ref p3) (C := RX1) (T := TX1) (N := 11) hx hb hts iw hown hK hP 0 rfl rfl 6 (by decide) (hts (.fieldLink RX1 16 "ReelLoomModel" "cloth" "[I") (by decide +kernel)) (fun _ h9 => h9) rfl dX1_weave_67 ?_
                refine lv_iload_n hx hb dX1_weave_70 rfl (lv_at hl 0 rfl) ?_
                refine lv_iconst (v := 0) hx hb dX1_weave_71 (by decide) ?_
                refine va_iast hx hb hK hP hD hS 3 0 rfl rfl (vp_in_nI (by omega) (by omega)) dX1_weave_72 (fun H locs hP hD hS => ?_)
                rw [nI_clamp (show i < 2 ^ 31 by omega)] at hP hD
                have hP : va_P (dC, dI) vwCl (wM cyI cyZ p0 p1 p2 p3 p4 mn me (fa ml 0 (i + 1)) mt 0 1 (nI m9) (nI n9) mk mz mq) H := hP
                have hD : va_D A (wM cyI cyZ p0 p1 p2 p3 p4 mn me (fa ml 0 (i + 1)) mt 0 1 (nI m9) (nI n9) mk mz mq) := hD
                refine lv_iinc (v := nI (i + 1)) (lv' := [(3, .int (nI (i + 1))), (0, .ref p0), (1, .int (nI m9)), (2, .int (nI n9))]) hx hb dX1_weave_73 hl (k := 0) rfl (nI_1 _) (by decide) rfl (fun ls hl => ?_)
                refine lv_goto (tgt := 59) hx hb dX1_weave_76 (by decide) ?_
                exact ih _ _ _ ⟨hP, hD, hS, lv_sub hl [0, 1, 2, 3] rfl⟩
            · skip
              obtain ⟨hP, hD, hS, hl⟩ := hI
              refine lv_iload_n hx hb dX1_weave_59 rfl (lv_at hl 0 rfl) ?_
              refine lv_sipush (v := nI 1600) hx hb dX1_weave_60 (by decide) ?_
              refine lv_icmp_ge (tgt := 79) hx hb dX1_weave_63 (by decide) (fun c_9 => ?_) (fun c_9 => ?_)
              · skip
                refine lv_iconst (v := nI 0) hx hb dX1_weave_79 (by decide) ?_
                refine lv_istore_n (lv' := [(3, .int (nI 0)), (0, .ref p0), (1, .int (nI m9)), (2, .int (nI n9))]) hx hb dX1_weave_80 rfl hl (by decide) rfl (fun ls hl => ?_)
                refine lpW (N := 40) (I := fun i H locs ls => va_P (dC, dI) vwCl (wM cyI cyZ p0 p1 p2 p3 p4 mn me (fa ml 0 1600) (fa mt 0 i) 0 1 (nI m9) (nI n9) mk mz mq) H ∧ va_D A (wM cyI cyZ p0 p1 p2 p3 p4 mn me (fa ml 0 1600) (fa mt 0 i) 0 1 (nI m9) (nI n9) mk mz mq) ∧ va_S A s.heap H locs ∧ lv_has ls 4 [(3, .int (nI i)), (0, .ref p0), (1, .int (nI m9)), (2, .int (nI n9))]) (fun i hi H locs ls hI ih => ?_) (fun H locs ls hI => ?_) 0 (Nat.zero_le _) ⟨hP, hD, hS, lv_sub hl [0, 1, 2, 3] rfl⟩
                · skip
                  obtain ⟨hP, hD, hS, hl⟩ := hI
                  refine lv_iload_n hx hb dX1_weave_81 rfl (lv_at hl 0 rfl) ?_
                  refine lv_bipush (v := nI 40) hx hb dX1_weave_82 (by decide) ?_
                  refine lv_icmp_ge (tgt := 100) hx hb dX1_weave_84 (by decide) (fun c_10 => ?_) (fun c_10 => ?_)
                  · skip
                    exact absurd c_10 (nI_ge (by omega) (by omega))
                  · skip
                    refine lv_aload_n hx hb dX1_weave_87 rfl (lv_at hl 1 rfl) ?_
                    refine va_get (D := (dC, dI)) (ci := 1) (v := .ref p4) (C := RX1) (T := TX1) (N := 11) hx hb hts iw hown hK hP 0 rfl rfl 7 (by decide) (hts (.fieldLink RX1 19 "ReelLoomModel" "isCut" "[Z") (by decide +kernel)) (fun _ h9 => h9) rfl dX1_weave_88 ?_
                    refine lv_iload_n hx hb dX1_weave_91 rfl (lv_at hl 0 rfl) ?_
                    refine lv_iconst (v := 0) hx hb dX1_weave_92 (by decide) ?_
                    refine va_zast hx hb hK hP hD hS 4 1 rfl rfl (vp_in_nI (by omega) (by omega)) dX1_weave_93 (fun H locs hP hD hS => ?_)
                    rw [nI_clamp (show i < 2 ^ 31 by omega)] at hP hD
                    have hP : va_P (dC, dI) vwCl (wM cyI cyZ p0 p1 p2 p3 p4 mn me (fa ml 0 1600) (fa mt 0 (i + 1)) 0 1 (nI m9) (nI n9) mk mz mq) H := hP
                    have hD : va_D A (wM cyI cyZ p0 p1 p2 p3 p4 mn me (fa ml 0 1600) (fa mt 0 (i + 1)) 0 1 (nI m9) (nI n9) mk mz mq) := hD
                    refine lv_iinc (v := nI (i + 1)) (lv' := [(3, .int (nI (i + 1))), (0, .ref p0), (1, .int (nI m9)), (2, .int (nI n9))]) hx hb dX1_weave_94 hl (k := 0) rfl (nI_1 _) (by decide) rfl (fun ls hl => ?_)
                    refine lv_goto (tgt := 81) hx hb dX1_weave_97 (by decide) ?_
                    exact ih _ _ _ ⟨hP, hD, hS, lv_sub hl [0, 1, 2, 3] rfl⟩
                · skip
                  obtain ⟨hP, hD, hS, hl⟩ := hI
                  refine lv_iload_n hx hb dX1_weave_81 rfl (lv_at hl 0 rfl) ?_
                  refine lv_bipush (v := nI 40) hx hb dX1_weave_82 (by decide) ?_
                  refine lv_icmp_ge (tgt := 100) hx hb dX1_weave_84 (by decide) (fun c_11 => ?_) (fun c_11 => ?_)
                  · skip
                    refine lv_aload_n hx hb dX1_weave_100 rfl (lv_at hl 1 rfl) ?_
                    refine va_get (D := (dC, dI)) (ci := 1) (v := .int (nI m9)) (C := RX1) (T := TX1) (N := 11) hx hb hts iw hown hK hP 0 rfl rfl 4 (by decide) (hts (.fieldLink RX1 67 "ReelLoomModel" "rows" "I") (by decide +kernel)) (fun _ h9 => h9) rfl dX1_weave_101 ?_
                    refine lv_aload_n hx hb dX1_weave_104 rfl (lv_at hl 1 rfl) ?_
                    refine va_get (D := (dC, dI)) (ci := 1) (v := .int (nI n9)) (C := RX1) (T := TX1) (N := 11) hx hb hts iw hown hK hP 0 rfl rfl 5 (by decide) (hts (.fieldLink RX1 70 "ReelLoomModel" "columns" "I") (by decide +kernel)) (fun _ h9 => h9) rfl dX1_weave_105 ?_
                    refine lv_imul hx hb dX1_weave_108 ?_
                    rw [pk_mul]
                    exact W.iret (v := (nI (m9 * n9))) hx hb hr (fun t ht hW => ⟨⟨(nI (m9 * n9)), (0, 1, nI m9, nI n9, fa ml 0 1600, fa mt 0 40), rfl, Or.inr (Or.inr ⟨rfl, m9, n9, hm9, rfl, hn9, rfl, rfl, rfl, rfl, rfl, rfl, rfl⟩), by show va_P (dC, dI) vwCl (wM cyI cyZ p0 p1 p2 p3 p4 mn me (fa ml 0 1600) (fa mt 0 40) 0 1 (nI m9) (nI n9) mk mz mq) t.heap; rw [ht]; exact hP⟩, hS.F ht⟩) hS.2.2 dX1_weave_109
                  · skip
                    exact absurd (nI_le (Nat.le_refl _) (by omega)) c_11
              · skip
                exact absurd (nI_le (Nat.le_refl _) (by omega)) c_9
          · skip
            exact absurd (by decide) c_7
        · skip
          refine lv_iconst (v := 2) hx hb dX1_weave_25 (by decide) ?_
          refine lv_goto (tgt := 30) hx hb dX1_weave_26 (by decide) ?_
          refine va_put (D := (dC, dI)) (ci := 1) (v := .int 2) (ty := .int) (C := RX1) (T := TX1) (N := 11) hx hb hts iw tyX1 tyX1_ok nmX1 hown hK hP hD hS 0 rfl rfl 0 (by decide) (hts (.fieldLink RX1 23 "ReelLoomModel" "thrown" "I") (by decide +kernel)) (fun _ h9 => h9) rfl (by decide +kernel) rfl rfl (Nat.le_of_ble_eq_true rfl) dX1_weave_30 (fun H locs hP hD hS => ?_)
          have hP : va_P (dC, dI) vwCl (wM cyI cyZ p0 p1 p2 p3 p4 mn me ml mt 2 wo mr mo mk mz mq) H := hP
          have hD : va_D A (wM cyI cyZ p0 p1 p2 p3 p4 mn me ml mt 2 wo mr mo mk mz mq) := hD
          refine lv_aload_n hx hb dX1_weave_33 rfl (lv_at hl 0 rfl) ?_
          refine va_get (D := (dC, dI)) (ci := 1) (v := .int 2) (C := RX1) (T := TX1) (N := 11) hx hb hts iw hown hK hP 0 rfl rfl 0 (by decide) (hts (.fieldLink RX1 23 "ReelLoomModel" "thrown" "I") (by decide +kernel)) (fun _ h9 => h9) rfl dX1_weave_34 ?_
          refine lv_if_eq (tgt := 42) hx hb dX1_weave_37 (by decide) (fun c_12 => ?_) (fun c_12 => ?_)
          · skip
            exact absurd c_12 (by decide)
          · skip
            refine lv_iconst (v := 0) hx hb dX1_weave_40 (by decide) ?_
            exact W.iret (v := 0) hx hb hr (fun t ht hW => ⟨⟨0, (2, wo, mr, mo, ml, mt), rfl, Or.inr (Or.inl ⟨fun h => h.elim h4 (fun h => absurd h10 (Int32.not_le.mpr h)), by first | exact Or.inl h18 | exact Or.inr (Int32.not_le.mp h22), rfl, rfl, rfl, rfl, rfl, rfl⟩), by show va_P (dC, dI) vwCl (wM cyI cyZ p0 p1 p2 p3 p4 mn me ml mt 2 wo mr mo mk mz mq) t.heap; rw [ht]; exact hP⟩, hS.F ht⟩) hS.2.2 dX1_weave_41
    · skip
      refine lv_iconst (v := 1) hx hb dX1_weave_13 (by decide) ?_
      refine lv_goto (tgt := 30) hx hb dX1_weave_14 (by decide) ?_
      refine va_put (D := (dC, dI)) (ci := 1) (v := .int 1) (ty := .int) (C := RX1) (T := TX1) (N := 11) hx hb hts iw tyX1 tyX1_ok nmX1 hown hK hP hD hS 0 rfl rfl 0 (by decide) (hts (.fieldLink RX1 23 "ReelLoomModel" "thrown" "I") (by decide +kernel)) (fun _ h9 => h9) rfl (by decide +kernel) rfl rfl (Nat.le_of_ble_eq_true rfl) dX1_weave_30 (fun H locs hP hD hS => ?_)
      have hP : va_P (dC, dI) vwCl (wM cyI cyZ p0 p1 p2 p3 p4 mn me ml mt 1 wo mr mo mk mz mq) H := hP
      have hD : va_D A (wM cyI cyZ p0 p1 p2 p3 p4 mn me ml mt 1 wo mr mo mk mz mq) := hD
      refine lv_aload_n hx hb dX1_weave_33 rfl (lv_at hl 0 rfl) ?_
      refine va_get (D := (dC, dI)) (ci := 1) (v := .int 1) (C := RX1) (T := TX1) (N := 11) hx hb hts iw hown hK hP 0 rfl rfl 0 (by decide) (hts (.fieldLink RX1 23 "ReelLoomModel" "thrown" "I") (by decide +kernel)) (fun _ h9 => h9) rfl dX1_weave_34 ?_
      refine lv_if_eq (tgt := 42) hx hb dX1_weave_37 (by decide) (fun c_13 => ?_) (fun c_13 => ?_)
      · skip
        exact absurd c_13 (by decide)
      · skip
        refine lv_iconst (v := 0) hx hb dX1_weave_40 (by decide) ?_
        exact W.iret (v := 0) hx hb hr (fun t ht hW => ⟨⟨0, (1, wo, mr, mo, ml, mt), rfl, Or.inl ⟨by first | exact Or.inl h4 | exact Or.inr (Int32.not_le.mp h10), rfl, rfl, rfl, rfl, rfl, rfl⟩, by show va_P (dC, dI) vwCl (wM cyI cyZ p0 p1 p2 p3 p4 mn me ml mt 1 wo mr mo mk mz mq) t.heap; rw [ht]; exact hP⟩, hS.F ht⟩) hS.2.2 dX1_weave_41
set_option maxHeartbeats 4000000 in
set_option maxRecDepth 100000 in
theorem k_X1_stops (l : Launch) (dC : Nat → ClassId) (dI : Nat → Nat → Nat) (cyI cyZ : ClassId) (H0 : Heap) (p0 p1 p2 p3 p4 : Nat) (mn me ml mt : Nat → Int32) (th wo mr mo mk mz mq : Int32) (hP : va_P (dC, dI) vwCl (wM cyI cyZ p0 p1 p2 p3 p4 mn me ml mt th wo mr mo mk mz mq) H0) (hD0 : va_D (fun _ => True) (wM cyI cyZ p0 p1 p2 p3 p4 mn me ml mt th wo mr mo mk mz mq)) (a : Int32) (b : Int32) (c9 : Int32)  : Met l yX1_stops wsX1_stops ({ frames := 0, cells := 0, slots := 0, locals := 0 }) (va_Pc [.ref p0, .int a, .int b, .int c9] (pK dC dI (tyW cyI cyZ) H0)) (va_Qi (fun (r : Int32) (u : Int32 × Int32 × Int32) => match u with | (mk2, mz2, mq2) => (a = 0 ∧ r = 0 ∧ mk2 = mk ∧ mz2 = mz ∧ mq2 = mq) ∨ (¬ a = 0 ∧ r = 1 ∧ mk2 = a ∧ mz2 = b ∧ mq2 = c9)) (fun (u : Int32 × Int32 × Int32) (t : State) => match u with | (mk2, mz2, mq2) => va_P (dC, dI) vwCl (wM cyI cyZ p0 p1 p2 p3 p4 mn me ml mt th wo mr mo mk2 mz2 mq2) t.heap) (va_A (wM cyI cyZ p0 p1 p2 p3 p4 mn me ml mt th wo mr mo mk mz mq) H0.size)) 0 0 (va_A (wM cyI cyZ p0 p1 p2 p3 p4 mn me ml mt th wo mr mo mk mz mq) H0.size) := by
  refine Met.ofW (cc := cX1_stops) (maxL := 4) (ret := (some .boolean)) (by decide) rfl ?_
  intro p e s m args below meth c s₁ B hml hv
  obtain ⟨rfl, rfl, hK⟩ := hv
  have hx := B.exec
  have hb := B.bytes
  have hr := B.returns
  have hts := atoms_spec (ws := wsX1_stops) B.pre
  have hown : s.vm.findClass RX1 = some m.cls := findClass_of_methodNamed B.named
  have hlocks := B.notSynchronized
  have hD := hD0.self (sz := s.heap.size)
  generalize hAe : (va_A (wM cyI cyZ p0 p1 p2 p3 p4 mn me ml mt th wo mr mo mk mz mq) s.heap.size) = A at hD ⊢
  have hA : ∀ q : Nat, s.heap.size ≤ q → A q := fun q h => by rw [← hAe]; exact Or.inr h
  have hS : va_S A s.heap s.heap [] := va_S.rf
  have hl := lv_entry ([.ref p0, .int a, .int b, .int c9]) (n := 4) (Nat.le_of_ble_eq_true rfl)
  rw [lg_entry_eq]
  generalize (lg_sl ([.ref p0, .int a, .int b, .int c9]) ++ List.replicate (4 - (lg_sl ([.ref p0, .int a, .int b, .int c9])).length) Slot.unset).toArray = ls at hl ⊢
  have hl : lv_has ls 4 [(0, .ref p0), (1, .int a), (2, .int b), (3, .int c9)] := hl
  have iw : ∀ w ∈ wsX10, w ∈ wsX1_stops := by decide +kernel
  refine lv_iload_n hx hb dX1_stops_0 rfl (lv_at hl 1 rfl) ?_
  refine lv_if_ne (tgt := 6) hx hb dX1_stops_1 (by decide) (fun h1 => ?_) (fun h1 => ?_)
  · skip
    refine lv_aload_n hx hb dX1_stops_6 rfl (lv_at hl 0 rfl) ?_
    refine lv_iload_n hx hb dX1_stops_7 rfl (lv_at hl 1 rfl) ?_
    refine va_put (D := (dC, dI)) (ci := 1) (v := .int a) (ty := .int) (C := RX1) (T := TX1) (N := 11) hx hb hts iw tyX1 tyX1_ok nmX1 hown hK hP hD hS 0 rfl rfl 8 (by decide) (hts (.fieldLink RX1 77 "ReelLoomModel" "stopKind" "I") (by decide +kernel)) (fun _ h9 => h9) rfl (by decide +kernel) rfl rfl (Nat.le_of_ble_eq_true rfl) dX1_stops_8 (fun H locs hP hD hS => ?_)
    have hP : va_P (dC, dI) vwCl (wM cyI cyZ p0 p1 p2 p3 p4 mn me ml mt th wo mr mo a mz mq) H := hP
    have hD : va_D A (wM cyI cyZ p0 p1 p2 p3 p4 mn me ml mt th wo mr mo a mz mq) := hD
    refine lv_aload_n hx hb dX1_stops_11 rfl (lv_at hl 0 rfl) ?_
    refine lv_iload_n hx hb dX1_stops_12 rfl (lv_at hl 2 rfl) ?_
    refine va_put (D := (dC, dI)) (ci := 1) (v := .int b) (ty := .int) (C := RX1) (T := TX1) (N := 11) hx hb hts iw tyX1 tyX1_ok nmX1 hown hK hP hD hS 0 rfl rfl 9 (by decide) (hts (.fieldLink RX1 80 "ReelLoomModel" "stopSort" "I") (by decide +kernel)) (fun _ h9 => h9) rfl (by decide +kernel) rfl rfl (Nat.le_of_ble_eq_true rfl) dX1_stops_13 (fun H locs hP hD hS => ?_)
    have hP : va_P (dC, dI) vwCl (wM cyI cyZ p0 p1 p2 p3 p4 mn me ml mt th wo mr mo a b mq) H := hP
    have hD : va_D A (wM cyI cyZ p0 p1 p2 p3 p4 mn me ml mt th wo mr mo a b mq) := hD
    refine lv_aload_n hx hb dX1_stops_16 rfl (lv_at hl 0 rfl) ?_
    refine lv_iload_n hx hb dX1_stops_17 rfl (lv_at hl 3 rfl) ?_
    refine va_put (D := (dC, dI)) (ci := 1) (v := .int c9) (ty := .int) (C := RX1) (T := TX1) (N := 11) hx hb hts iw tyX1 tyX1_ok nmX1 hown hK hP hD hS 0 rfl rfl 10 (by decide) (hts (.fieldLink RX1 83 "ReelLoomModel" "stopColumn" "I") (by decide +kernel)) (fun _ h9 => h9) rfl (by decide +kernel) rfl rfl (Nat.le_of_ble_eq_true rfl) dX1_stops_18 (fun H locs hP hD hS => ?_)
    have hP : va_P (dC, dI) vwCl (wM cyI cyZ p0 p1 p2 p3 p4 mn me ml mt th wo mr mo a b c9) H := hP
    have hD : va_D A (wM cyI cyZ p0 p1 p2 p3 p4 mn me ml mt th wo mr mo a b c9) := hD
    refine lv_iconst (v := 1) hx hb dX1_stops_21 (by decide) ?_
    exact W.zret (v := 1) (ty := .boolean) hx hb hr rfl (fun t ht hW => ⟨⟨1, (a, b, c9), rfl, Or.inr ⟨h1, rfl, rfl, rfl, rfl⟩, by show va_P (dC, dI) vwCl (wM cyI cyZ p0 p1 p2 p3 p4 mn me ml mt th wo mr mo a b c9) t.heap; rw [ht]; exact hP⟩, hS.F ht⟩) hS.2.2 dX1_stops_22
  · skip
    refine lv_iconst (v := 0) hx hb dX1_stops_4 (by decide) ?_
    exact W.zret (v := 0) (ty := .boolean) hx hb hr rfl (fun t ht hW => ⟨⟨0, (mk, mz, mq), rfl, Or.inl ⟨h1, rfl, rfl, rfl, rfl⟩, by show va_P (dC, dI) vwCl (wM cyI cyZ p0 p1 p2 p3 p4 mn me ml mt th wo mr mo mk mz mq) t.heap; rw [ht]; exact hP⟩, hS.F ht⟩) hS.2.2 dX1_stops_5
set_option maxHeartbeats 4000000 in
set_option maxRecDepth 100000 in
theorem k_X1_stopsAt (l : Launch) (dC : Nat → ClassId) (dI : Nat → Nat → Nat) (cyI cyZ : ClassId) (H0 : Heap) (p0 p1 p2 p3 p4 : Nat) (mn me ml mt : Nat → Int32) (th wo mr mo mk mz mq : Int32) (hP : va_P (dC, dI) vwCl (wM cyI cyZ p0 p1 p2 p3 p4 mn me ml mt th wo mr mo mk mz mq) H0) (hD0 : va_D (fun _ => True) (wM cyI cyZ p0 p1 p2 p3 p4 mn me ml mt th wo mr mo mk mz mq)) (so : Nat) (j : Nat) (hso : so < 5) (hj : j < 64) : Met l yX1_stopsAt wsX1_stopsAt ({ frames := 1, cells := 0, slots := 0, locals := 23 }) (va_Pc [.ref p0, .int (nI so), .int (nI j)] (pK dC dI (tyW cyI cyZ) H0)) (va_Qi (fun (r : Int32) (u : Int32 × Int32 × Int32) => match u with | (mk2, mz2, mq2) => (nI j < mn (2 * so) ∧ r = 0 ∧ mk2 = mk ∧ mz2 = mz ∧ mq2 = mq) ∨ (¬ nI j < mn (2 * so) ∧ r = 1 ∧ mk2 = stM mn so ∧ mz2 = nI so ∧ mq2 = nI j)) (fun (u : Int32 × Int32 × Int32) (t : State) => match u with | (mk2, mz2, mq2) => va_P (dC, dI) vwCl (wM cyI cyZ p0 p1 p2 p3 p4 mn me ml mt th wo mr mo mk2 mz2 mq2) t.heap) (va_A (wM cyI cyZ p0 p1 p2 p3 p4 mn me ml mt th wo mr mo mk mz mq) H0.size)) 0 0 (va_A (wM cyI cyZ p0 p1 p2 p3 p4 mn me ml mt th wo mr mo mk mz mq) H0.size) := by
  refine Met.ofW (cc := cX1_stopsAt) (maxL := 3) (ret := (some .boolean)) (by decide) rfl ?_
  intro p e s m args below meth c s₁ B hml hv
  obtain ⟨rfl, rfl, hK⟩ := hv
  have hx := B.exec
  have hb := B.bytes
  have hr := B.returns
  have hts := atoms_spec (ws := wsX1_stopsAt) B.pre
  have hown : s.vm.findClass RX1 = some m.cls := findClass_of_methodNamed B.named
  have hlocks := B.notSynchronized
  have hD := hD0.self (sz := s.heap.size)
  generalize hAe : (va_A (wM cyI cyZ p0 p1 p2 p3 p4 mn me ml mt th wo mr mo mk mz mq) s.heap.size) = A at hD ⊢
  have hA : ∀ q : Nat, s.heap.size ≤ q → A q := fun q h => by rw [← hAe]; exact Or.inr h
  have hS : va_S A s.heap s.heap [] := va_S.rf
  have hl := lv_entry ([.ref p0, .int (nI so), .int (nI j)]) (n := 3) (Nat.le_of_ble_eq_true rfl)
  rw [lg_entry_eq]
  generalize (lg_sl ([.ref p0, .int (nI so), .int (nI j)]) ++ List.replicate (3 - (lg_sl ([.ref p0, .int (nI so), .int (nI j)])).length) Slot.unset).toArray = ls at hl ⊢
  have hl : lv_has ls 3 [(0, .ref p0), (1, .int (nI so)), (2, .int (nI j))] := hl
  refine lv_aload_n hx hb dX1_stopsAt_0 rfl (lv_at hl 0 rfl) ?_
  refine lv_aload_n hx hb dX1_stopsAt_1 rfl (lv_at hl 0 rfl) ?_
  refine lv_iload_n hx hb dX1_stopsAt_2 rfl (lv_at hl 1 rfl) ?_
  refine lv_iload_n hx hb dX1_stopsAt_3 rfl (lv_at hl 2 rfl) ?_
  refine gx_calli (va_runV (As := [.int (nI so), .int (nI j)]) (rest := [.ref p0]) ⟨hx, hb, hml, hown, hts⟩ (k_X1_lacks l dC dI cyI cyZ _ p0 p1 p2 p3 p4 mn me ml mt th wo mr mo mk mz mq hP (hD.weaken (fun _ _ _ _ => trivial)) so (nI j) (by omega)) (cwV 2 hts gX1_stopsAt_X1_lacks rfl rfl rfl (by decide +kernel) ⟨Nat.le_of_ble_eq_true rfl, Nat.le_of_ble_eq_true rfl⟩) (pK_V hK (va_recv hK hP (ci := 1) (q0 := 0) rfl rfl)) rfl rfl hl.1 rfl (lv_room (Nat.le_of_ble_eq_true rfl)) dX1_stopsAt_4 ⟨Nat.le_of_ble_eq_true rfl, Nat.le_of_ble_eq_true rfl⟩) (fun r_1 hr_1 => ?_)
  subst hr_1
  refine lv_iload_n hx hb dX1_stopsAt_7 rfl (lv_at hl 1 rfl) ?_
  refine lv_iload_n hx hb dX1_stopsAt_8 rfl (lv_at hl 2 rfl) ?_
  have hFc := va_free (wc := wM cyI cyZ p0 p1 p2 p3 p4 mn me ml mt th wo mr mo mk mz mq) hD hS hA [0, 1, 2, 3, 4] rfl
  refine va_calli (va_runV (As := [.int (lkI (mn (2 * so)) ((nI j))), .int (nI so), .int (nI j)]) (rest := []) ⟨hx, hb, hml, hown, hts⟩ (k_X1_stops l dC dI cyI cyZ _ p0 p1 p2 p3 p4 mn me ml mt th wo mr mo mk mz mq hP (hD.weaken (fun _ _ _ _ => trivial)) (lkI (mn (2 * so)) ((nI j))) (nI so) (nI j) ) (cwV 3 hts gX1_stopsAt_X1_stops rfl rfl rfl (by decide +kernel) ⟨Nat.le_of_ble_eq_true rfl, Nat.le_of_ble_eq_true rfl⟩) (pK_V hK (va_recv hK hP (ci := 1) (q0 := 0) rfl rfl)) rfl rfl hl.1 rfl (lv_room (Nat.le_of_ble_eq_true rfl)) dX1_stopsAt_9 ⟨Nat.le_of_ble_eq_true rfl, Nat.le_of_ble_eq_true rfl⟩) hS (fun q _ h => hFc q h) hFc (fun r9 u t H1 locs ht hvm hw hB hz1 hk1 hS => ?_)
  obtain ⟨k9, z9, q9⟩ := u
  dsimp only at hw
  have hP : va_P (dC, dI) vwCl (wM cyI cyZ p0 p1 p2 p3 p4 mn me ml mt th wo mr mo k9 z9 q9) t.heap := hB
  rw [ht] at hP
  have hD : va_D A (wM cyI cyZ p0 p1 p2 p3 p4 mn me ml mt th wo mr mo k9 z9 q9) := wM_D hD
  clear hB
  generalize H1 = H at hP hS ⊢
  exact W.zret (v := r9) (ty := .boolean) hx hb hr (by rcases hw with ⟨-, a2, -⟩ | ⟨-, a2, -⟩ <;> rw [a2] <;> rfl) (fun t ht hW => ⟨⟨r9, (k9, z9, q9), rfl, by rcases lkI_j (w := mn (2 * so)) (show j < 2 ^ 31 by omega) with ⟨b1, b2⟩ | ⟨b1, b2, b3⟩ <;> rcases hw with ⟨a1, a2, a3, a4, a5⟩ | ⟨a1, a2, a3, a4, a5⟩; exact Or.inl ⟨b1, a2, a3, a4, a5⟩; exact absurd b2 a1; exact absurd a1 b2; exact Or.inr ⟨b1, a2, a3.trans b3, a4, a5⟩, by show va_P (dC, dI) vwCl (wM cyI cyZ p0 p1 p2 p3 p4 mn me ml mt th wo mr mo k9 z9 q9) t.heap; rw [ht]; exact hP⟩, hS.F ht⟩) hS.2.2 dX1_stopsAt_12
set_option maxHeartbeats 4000000 in
set_option maxRecDepth 100000 in
theorem k_X1_weaves (l : Launch) (dC : Nat → ClassId) (dI : Nat → Nat → Nat) (cyI cyZ : ClassId) (H0 : Heap) (p0 p1 p2 p3 p4 : Nat) (mn me ml mt : Nat → Int32) (th wo mr mo mk mz mq : Int32) (hP : va_P (dC, dI) vwCl (wM cyI cyZ p0 p1 p2 p3 p4 mn me ml mt th wo mr mo mk mz mq) H0) (hD0 : va_D (fun _ => True) (wM cyI cyZ p0 p1 p2 p3 p4 mn me ml mt th wo mr mo mk mz mq)) (ro : Nat) (j : Nat) (v : Int32) (hro : ro < 40) (hj : j < 40) : Met l yX1_weaves wsX1_weaves ({ frames := 3, cells := 0, slots := 0, locals := 66 }) (va_Pc [.ref p0, .int (nI ro), .int (nI j), .int v] (pK dC dI (tyW cyI cyZ) H0)) (va_Qi (fun (r : Int32) (u : (Nat → Int32) × (Nat → Int32) × Int32 × Int32 × Int32) => match u with | (me2, ml2, mk2, mz2, mq2) => (r = 0 ∧ mcol me mn ml mt mk mz mq ro j v = (false, me2, ml2, mk2, mz2, mq2)) ∨ (r = 1 ∧ mcol me mn ml mt mk mz mq ro j v = (true, me2, ml2, mk2, mz2, mq2))) (fun (u : (Nat → Int32) × (Nat → Int32) × Int32 × Int32 × Int32) (t : State) => match u with | (me2, ml2, mk2, mz2, mq2) => va_P (dC, dI) vwCl (wM cyI cyZ p0 p1 p2 p3 p4 mn me2 ml2 mt th wo mr mo mk2 mz2 mq2) t.heap) (va_A (wM cyI cyZ p0 p1 p2 p3 p4 mn me ml mt th wo mr mo mk mz mq) H0.size)) 0 0 (va_A (wM cyI cyZ p0 p1 p2 p3 p4 mn me ml mt th wo mr mo mk mz mq) H0.size) := by
  refine Met.ofW (cc := cX1_weaves) (maxL := 9) (ret := (some .boolean)) (by decide) rfl ?_
  intro p e s m args below meth c s₁ B hml hv
  obtain ⟨rfl, rfl, hK⟩ := hv
  have hx := B.exec
  have hb := B.bytes
  have hr := B.returns
  have hts := atoms_spec (ws := wsX1_weaves) B.pre
  have hown : s.vm.findClass RX1 = some m.cls := findClass_of_methodNamed B.named
  have hlocks := B.notSynchronized
  have hD := hD0.self (sz := s.heap.size)
  generalize hAe : (va_A (wM cyI cyZ p0 p1 p2 p3 p4 mn me ml mt th wo mr mo mk mz mq) s.heap.size) = A at hD ⊢
  have hA : ∀ q : Nat, s.heap.size ≤ q → A q := fun q h => by rw [← hAe]; exact Or.inr h
  have hS : va_S A s.heap s.heap [] := va_S.rf
  have hl := lv_entry ([.ref p0, .int (nI ro), .int (nI j), .int v]) (n := 9) (Nat.le_of_ble_eq_true rfl)
  rw [lg_entry_eq]
  generalize (lg_sl ([.ref p0, .int (nI ro), .int (nI j), .int v]) ++ List.replicate (9 - (lg_sl ([.ref p0, .int (nI ro), .int (nI j), .int v])).length) Slot.unset).toArray = ls at hl ⊢
  have hl : lv_has ls 9 [(0, .ref p0), (1, .int (nI ro)), (2, .int (nI j)), (3, .int v)] := hl
  have iw : ∀ w ∈ wsX10, w ∈ wsX1_weaves := by decide +kernel
  refine lv_aload_n hx hb dX1_weaves_0 rfl (lv_at hl 0 rfl) ?_
  refine lv_iconst (v := nI 3) hx hb dX1_weaves_1 (by decide) ?_
  refine lv_iload_n hx hb dX1_weaves_2 rfl (lv_at hl 2 rfl) ?_
  have hFc := va_free (wc := wM cyI cyZ p0 p1 p2 p3 p4 mn me ml mt th wo mr mo mk mz mq) hD hS hA [0, 1, 2, 3, 4] rfl
  refine va_calli (va_runV (As := [.int (nI 3), .int (nI j)]) (rest := []) ⟨hx, hb, hml, hown, hts⟩ (k_X1_stopsAt l dC dI cyI cyZ _ p0 p1 p2 p3 p4 mn me ml mt th wo mr mo mk mz mq hP (hD.weaken (fun _ _ _ _ => trivial)) 3 j (by omega) (by omega)) (cwV 2 hts gX1_weaves_X1_stopsAt rfl rfl rfl (by decide +kernel) ⟨Nat.le_of_ble_eq_true rfl, Nat.le_of_ble_eq_true rfl⟩) (pK_V hK (va_recv hK hP (ci := 1) (q0 := 0) rfl rfl)) rfl rfl hl.1 rfl (lv_room (Nat.le_of_ble_eq_true rfl)) dX1_weaves_3 ⟨Nat.le_of_ble_eq_true rfl, Nat.le_of_ble_eq_true rfl⟩) hS (fun q _ h => hFc q h) hFc (fun r3 u t H1 locs ht hvm hw hB hz1 hk1 hS => ?_)
  obtain ⟨k3, z3, q3⟩ := u
  dsimp only at hw
  have hP : va_P (dC, dI) vwCl (wM cyI cyZ p0 p1 p2 p3 p4 mn me ml mt th wo mr mo k3 z3 q3) t.heap := hB
  rw [ht] at hP
  have hD : va_D A (wM cyI cyZ p0 p1 p2 p3 p4 mn me ml mt th wo mr mo k3 z3 q3) := wM_D hD
  clear hB
  generalize H1 = H at hP hS ⊢
  refine lv_if_eq (tgt := 11) hx hb dX1_weaves_6 (by decide) (fun hq3 => ?_) (fun hq3 => ?_)
  · skip
    have hc : nI j < mn (2 * 3) ∧ k3 = mk ∧ z3 = mz ∧ q3 = mq := by rcases hw with ⟨a1, a2, a3⟩ | ⟨a1, a2, a3⟩; exact ⟨a1, a3⟩; exact absurd (a2.symm.trans hq3) (by decide)
    rw [hc.2.1, hc.2.2.1, hc.2.2.2] at hP hD
    have f3 := hc.1
    refine lv_aload_n hx hb dX1_weaves_11 rfl (lv_at hl 0 rfl) ?_
    refine va_get (D := (dC, dI)) (ci := 1) (v := .ref p2) (C := RX1) (T := TX1) (N := 11) hx hb hts iw hown hK hP 0 rfl rfl 2 (by decide) (hts (.fieldLink RX1 13 "ReelLoomModel" "cells" "[I") (by decide +kernel)) (fun _ h9 => h9) rfl dX1_weaves_12 ?_
    refine lv_iconst (v := nI 3) hx hb dX1_weaves_15 (by decide) ?_
    refine lv_iload_n hx hb dX1_weaves_16 rfl (lv_at hl 2 rfl) ?_
    refine gx_calli (va_runS (As := [.int (nI 3), .int (nI j)]) (rest := [.ref p2]) ⟨hx, hb, hml, hown, hts⟩ (k_X1_at l dC dI  _   3 j ) (va_cwS 2 hts gX1_weaves_X1_at rfl rfl rfl (by decide +kernel) ⟨Nat.le_of_ble_eq_true rfl, Nat.le_of_ble_eq_true rfl⟩) (pK_S (hK.sub (tys' := []) [] rfl)) rfl rfl hl.1 rfl (lv_room (Nat.le_of_ble_eq_true rfl)) dX1_weaves_17 ⟨Nat.le_of_ble_eq_true rfl, Nat.le_of_ble_eq_true rfl⟩) (fun r_3 hr_3 => ?_)
    subst hr_3
    refine va_iald hx hb hK hP 2 0 rfl rfl (vp_in_nI (by omega) (by omega)) dX1_weaves_20 ?_
    rw [nI_clamp (show (64 * (2 * 3) + j) < 2 ^ 31 by omega)]
    refine lv_iconst (v := 1) hx hb dX1_weaves_21 (by decide) ?_
    refine lv_icmp_ne (tgt := 29) hx hb dX1_weaves_22 (by decide) (fun h22 => ?_) (fun h22 => ?_)
    · skip
      refine lv_iconst (v := 0) hx hb dX1_weaves_29 (by decide) ?_
      refine lv_istore (lv' := [(4, .int 0), (0, .ref p0), (1, .int (nI ro)), (2, .int (nI j)), (3, .int v)]) hx hb dX1_weaves_30 hl (by decide) rfl (fun ls hl => ?_)
      refine lv_iload hx hb dX1_weaves_32 (lv_at hl 0 rfl) ?_
      refine lv_if_eq (tgt := 48) hx hb dX1_weaves_34 (by decide) (fun c_5 => ?_) (fun c_5 => ?_)
      · skip
        refine lv_iload hx hb dX1_weaves_48 (lv_at hl 0 rfl) ?_
        refine lv_if_eq (tgt := 66) hx hb dX1_weaves_50 (by decide) (fun c_6 => ?_) (fun c_6 => ?_)
        · skip
          refine lv_iload_n hx hb dX1_weaves_66 rfl (lv_at hl 4 rfl) ?_
          refine lv_istore (lv' := [(5, .int v), (4, .int 0), (0, .ref p0), (1, .int (nI ro)), (2, .int (nI j)), (3, .int v)]) hx hb dX1_weaves_67 hl (by decide) rfl (fun ls hl => ?_)
          refine lv_aload_n hx hb dX1_weaves_69 rfl (lv_at hl 2 rfl) ?_
          refine lv_aload_n hx hb dX1_weaves_70 rfl (lv_at hl 2 rfl) ?_
          refine va_get (D := (dC, dI)) (ci := 1) (v := .ref p4) (C := RX1) (T := TX1) (N := 11) hx hb hts iw hown hK hP 0 rfl rfl 7 (by decide) (hts (.fieldLink RX1 19 "ReelLoomModel" "isCut" "[Z") (by decide +kernel)) (fun _ h9 => h9) rfl dX1_weaves_71 ?_
          refine lv_iload_n hx hb dX1_weaves_74 rfl (lv_at hl 3 rfl) ?_
          refine va_zald hx hb hK hP 4 1 rfl rfl (vp_in_nI (by omega) (by omega)) dX1_weaves_75 ?_
          rw [nI_clamp (show ro < 2 ^ 31 by omega)]
          refine lv_if_eq (tgt := 83) hx hb dX1_weaves_76 (by decide) (fun h76 => ?_) (fun h76 => ?_)
          · skip
            have fr := h76
            refine lv_iconst (v := 0) hx hb dX1_weaves_83 (by decide) ?_
            refine lv_iconst (v := 5) hx hb dX1_weaves_84 (by decide) ?_
            refine lv_iload_n hx hb dX1_weaves_85 rfl (lv_at hl 4 rfl) ?_
            have hFc := va_free (wc := wM cyI cyZ p0 p1 p2 p3 p4 mn me ml mt th wo mr mo mk mz mq) hD hS hA [0, 1, 2, 3, 4] rfl
            refine va_calli (va_runV (As := [.int 0, .int 5, .int (nI j)]) (rest := []) ⟨hx, hb, hml, hown, hts⟩ (k_X1_stops l dC dI cyI cyZ _ p0 p1 p2 p3 p4 mn me ml mt th wo mr mo mk mz mq hP (hD.weaken (fun _ _ _ _ => trivial)) 0 5 (nI j) ) (cwV 3 hts gX1_weaves_X1_stops rfl rfl rfl (by decide +kernel) ⟨Nat.le_of_ble_eq_true rfl, Nat.le_of_ble_eq_true rfl⟩) (pK_V hK (va_recv hK hP (ci := 1) (q0 := 0) rfl rfl)) rfl rfl hl.1 rfl (lv_room (Nat.le_of_ble_eq_true rfl)) dX1_weaves_86 ⟨Nat.le_of_ble_eq_true rfl, Nat.le_of_ble_eq_true rfl⟩) hS (fun q _ h => hFc q h) hFc (fun r86 u t H1 locs ht hvm hw hB hz1 hk1 hS => ?_)
            obtain ⟨k86, z86, q86⟩ := u
            dsimp only at hw
            have hP : va_P (dC, dI) vwCl (wM cyI cyZ p0 p1 p2 p3 p4 mn me ml mt th wo mr mo k86 z86 q86) t.heap := hB
            rw [ht] at hP
            have hD : va_D A (wM cyI cyZ p0 p1 p2 p3 p4 mn me ml mt th wo mr mo k86 z86 q86) := wM_D hD
            clear hB
            generalize H1 = H at hP hS ⊢
            refine lv_if_eq (tgt := 94) hx hb dX1_weaves_89 (by decide) (fun hq86 => ?_) (fun hq86 => ?_)
            · skip
              have hc : k86 = mk ∧ z86 = mz ∧ q86 = mq := by rcases hw with ⟨a1, a2, a3⟩ | ⟨a1, a2, a3⟩; exact a3; exact absurd rfl a1
              rw [hc.1, hc.2.1, hc.2.2] at hP hD
              refine lv_aload_n hx hb dX1_weaves_94 rfl (lv_at hl 2 rfl) ?_
              refine va_get (D := (dC, dI)) (ci := 1) (v := .ref p3) (C := RX1) (T := TX1) (N := 11) hx hb hts iw hown hK hP 0 rfl rfl 6 (by decide) (hts (.fieldLink RX1 16 "ReelLoomModel" "cloth" "[I") (by decide +kernel)) (fun _ h9 => h9) rfl dX1_weaves_95 ?_
              refine lv_bipush (v := nI 40) hx hb dX1_weaves_98 (by decide) ?_
              refine lv_iload_n hx hb dX1_weaves_100 rfl (lv_at hl 3 rfl) ?_
              refine lv_imul hx hb dX1_weaves_101 ?_
              rw [pk_mul]
              refine lv_iload_n hx hb dX1_weaves_102 rfl (lv_at hl 4 rfl) ?_
              refine lv_iadd hx hb dX1_weaves_103 ?_
              rw [nI_add]
              refine lv_iload hx hb dX1_weaves_104 (lv_at hl 0 rfl) ?_
              refine va_iast hx hb hK hP hD hS 3 0 rfl rfl (vp_in_nI (by omega) (by omega)) dX1_weaves_106 (fun H locs hP hD hS => ?_)
              rw [nI_clamp (show ((40 * ro) + j) < 2 ^ 31 by omega)] at hP hD
              have hP : va_P (dC, dI) vwCl (wM cyI cyZ p0 p1 p2 p3 p4 mn me (upd ml (((40 * ro) + j)) v) mt th wo mr mo mk mz mq) H := hP
              have hD : va_D A (wM cyI cyZ p0 p1 p2 p3 p4 mn me (upd ml (((40 * ro) + j)) v) mt th wo mr mo mk mz mq) := hD
              refine lv_aload_n hx hb dX1_weaves_107 rfl (lv_at hl 2 rfl) ?_
              refine lv_iconst (v := nI 1) hx hb dX1_weaves_108 (by decide) ?_
              refine lv_iload_n hx hb dX1_weaves_109 rfl (lv_at hl 4 rfl) ?_
              have hFc := va_free (wc := wM cyI cyZ p0 p1 p2 p3 p4 mn me (upd ml (((40 * ro) + j)) v) mt th wo mr mo mk mz mq) hD hS hA [0, 1, 2, 3, 4] rfl
              refine va_calli (va_runV (As := [.int (nI 1), .int (nI j)]) (rest := []) ⟨hx, hb, hml, hown, hts⟩ (k_X1_stopsAt l dC dI cyI cyZ _ p0 p1 p2 p3 p4 mn me (upd ml (((40 * ro) + j)) v) mt th wo mr mo mk mz mq hP (hD.weaken (fun _ _ _ _ => trivial)) 1 j (by omega) (by omega)) (cwV 2 hts gX1_weaves_X1_stopsAt rfl rfl rfl (by decide +kernel) ⟨Nat.le_of_ble_eq_true rfl, Nat.le_of_ble_eq_true rfl⟩) (pK_V hK (va_recv hK hP (ci := 1) (q0 := 0) rfl rfl)) rfl rfl hl.1 rfl (lv_room (Nat.le_of_ble_eq_true rfl)) dX1_weaves_110 ⟨Nat.le_of_ble_eq_true rfl, Nat.le_of_ble_eq_true rfl⟩) hS (fun q _ h => hFc q h) hFc (fun r110 u t H1 locs ht hvm hw hB hz1 hk1 hS => ?_)
              obtain ⟨k110, z110, q110⟩ := u
              dsimp only at hw
              have hP : va_P (dC, dI) vwCl (wM cyI cyZ p0 p1 p2 p3 p4 mn me (upd ml (((40 * ro) + j)) v) mt th wo mr mo k110 z110 q110) t.heap := hB
              rw [ht] at hP
              have hD : va_D A (wM cyI cyZ p0 p1 p2 p3 p4 mn me (upd ml (((40 * ro) + j)) v) mt th wo mr mo k110 z110 q110) := wM_D hD
              clear hB
              generalize H1 = H at hP hS ⊢
              refine lv_if_eq (tgt := 118) hx hb dX1_weaves_113 (by decide) (fun hq110 => ?_) (fun hq110 => ?_)
              · skip
                have hc : nI j < mn (2 * 1) ∧ k110 = mk ∧ z110 = mz ∧ q110 = mq := by rcases hw with ⟨a1, a2, a3⟩ | ⟨a1, a2, a3⟩; exact ⟨a1, a3⟩; exact absurd (a2.symm.trans hq110) (by decide)
                rw [hc.2.1, hc.2.2.1, hc.2.2.2] at hP hD
                have f1 := hc.1
                refine lv_aload_n hx hb dX1_weaves_118 rfl (lv_at hl 2 rfl) ?_
                refine lv_iconst (v := nI 1) hx hb dX1_weaves_119 (by decide) ?_
                refine lv_iload_n hx hb dX1_weaves_120 rfl (lv_at hl 4 rfl) ?_
                refine lv_aload_n hx hb dX1_weaves_121 rfl (lv_at hl 2 rfl) ?_
                refine va_get (D := (dC, dI)) (ci := 1) (v := .ref p2) (C := RX1) (T := TX1) (N := 11) hx hb hts iw hown hK hP 0 rfl rfl 2 (by decide) (hts (.fieldLink RX1 13 "ReelLoomModel" "cells" "[I") (by decide +kernel)) (fun _ h9 => h9) rfl dX1_weaves_122 ?_
                refine lv_iconst (v := nI 1) hx hb dX1_weaves_125 (by decide) ?_
                refine lv_iload_n hx hb dX1_weaves_126 rfl (lv_at hl 4 rfl) ?_
                refine gx_calli (va_runS (As := [.int (nI 1), .int (nI j)]) (rest := [.ref p2, .int (nI j), .int (nI 1), .ref p0]) ⟨hx, hb, hml, hown, hts⟩ (k_X1_at l dC dI  _   1 j ) (va_cwS 2 hts gX1_weaves_X1_at rfl rfl rfl (by decide +kernel) ⟨Nat.le_of_ble_eq_true rfl, Nat.le_of_ble_eq_true rfl⟩) (pK_S (hK.sub (tys' := []) [] rfl)) rfl rfl hl.1 rfl (lv_room (Nat.le_of_ble_eq_true rfl)) dX1_weaves_127 ⟨Nat.le_of_ble_eq_true rfl, Nat.le_of_ble_eq_true rfl⟩) (fun r_12 hr_12 => ?_)
                subst hr_12
                refine va_iald hx hb hK hP 2 0 rfl rfl (vp_in_nI (by omega) (by omega)) dX1_weaves_130 ?_
                rw [nI_clamp (show (64 * (2 * 1) + j) < 2 ^ 31 by omega)]
                refine lv_topi (fun y130 ey130 => ?_)
                refine lv_iconst (v := 1) hx hb dX1_weaves_131 (by decide) ?_
                refine lv_iadd hx hb dX1_weaves_132 ?_
                have hFc := va_free (wc := wM cyI cyZ p0 p1 p2 p3 p4 mn me (upd ml (((40 * ro) + j)) v) mt th wo mr mo mk mz mq) hD hS hA [0, 1, 2, 3, 4] rfl
                refine va_calli (va_runV (As := [.int (nI 1), .int (nI j), .int (y130 + 1)]) (rest := []) ⟨hx, hb, hml, hown, hts⟩ (k_X1_put l dC dI cyI cyZ _ p0 p1 p2 p3 p4 mn me (upd ml (((40 * ro) + j)) v) mt th wo mr mo mk mz mq hP (hD.weaken (fun _ _ _ _ => trivial)) 1 j (y130 + 1) (by omega) (by omega)) (cwV 3 hts gX1_weaves_X1_put rfl rfl rfl (by decide +kernel) ⟨Nat.le_of_ble_eq_true rfl, Nat.le_of_ble_eq_true rfl⟩) (pK_V hK (va_recv hK hP (ci := 1) (q0 := 0) rfl rfl)) rfl rfl hl.1 rfl (lv_room (Nat.le_of_ble_eq_true rfl)) dX1_weaves_133 ⟨Nat.le_of_ble_eq_true rfl, Nat.le_of_ble_eq_true rfl⟩) hS (fun q _ h => hFc q h) hFc (fun r_13 u t H1 locs ht hvm hw hB hz1 hk1 hS => ?_)
                have hP : va_P (dC, dI) vwCl (wM cyI cyZ p0 p1 p2 p3 p4 mn (upd me (64 * (2 * 1) + j) (ft 1 ((y130 + 1)))) (upd ml (((40 * ro) + j)) v) mt th wo mr mo mk mz mq) t.heap := hB
                rw [ht] at hP
                have hD : va_D A (wM cyI cyZ p0 p1 p2 p3 p4 mn (upd me (64 * (2 * 1) + j) (ft 1 ((y130 + 1)))) (upd ml (((40 * ro) + j)) v) mt th wo mr mo mk mz mq) := wM_D hD
                clear hB
                generalize H1 = H at hP hS ⊢
                refine lv_istore (lv' := [(6, .int r_13), (5, .int v), (4, .int 0), (0, .ref p0), (1, .int (nI ro)), (2, .int (nI j)), (3, .int v)]) hx hb dX1_weaves_136 hl (by decide) rfl (fun ls hl => ?_)
                refine lv_aload_n hx hb dX1_weaves_138 rfl (lv_at hl 3 rfl) ?_
                refine lv_iconst (v := nI 2) hx hb dX1_weaves_139 (by decide) ?_
                refine lv_iload_n hx hb dX1_weaves_140 rfl (lv_at hl 5 rfl) ?_
                have hFc := va_free (wc := wM cyI cyZ p0 p1 p2 p3 p4 mn (upd me (64 * (2 * 1) + j) (ft 1 ((y130 + 1)))) (upd ml (((40 * ro) + j)) v) mt th wo mr mo mk mz mq) hD hS hA [0, 1, 2, 3, 4] rfl
                refine va_calli (va_runV (As := [.int (nI 2), .int (nI j)]) (rest := []) ⟨hx, hb, hml, hown, hts⟩ (k_X1_stopsAt l dC dI cyI cyZ _ p0 p1 p2 p3 p4 mn (upd me (64 * (2 * 1) + j) (ft 1 ((y130 + 1)))) (upd ml (((40 * ro) + j)) v) mt th wo mr mo mk mz mq hP (hD.weaken (fun _ _ _ _ => trivial)) 2 j (by omega) (by omega)) (cwV 2 hts gX1_weaves_X1_stopsAt rfl rfl rfl (by decide +kernel) ⟨Nat.le_of_ble_eq_true rfl, Nat.le_of_ble_eq_true rfl⟩) (pK_V hK (va_recv hK hP (ci := 1) (q0 := 0) rfl rfl)) rfl rfl hl.1 rfl (lv_room (Nat.le_of_ble_eq_true rfl)) dX1_weaves_141 ⟨Nat.le_of_ble_eq_true rfl, Nat.le_of_ble_eq_true rfl⟩) hS (fun q _ h => hFc q h) hFc (fun r141 u t H1 locs ht hvm hw hB hz1 hk1 hS => ?_)
                obtain ⟨k141, z141, q141⟩ := u
                dsimp only at hw
                have hP : va_P (dC, dI) vwCl (wM cyI cyZ p0 p1 p2 p3 p4 mn (upd me (64 * (2 * 1) + j) (ft 1 ((y130 + 1)))) (upd ml (((40 * ro) + j)) v) mt th wo mr mo k141 z141 q141) t.heap := hB
                rw [ht] at hP
                have hD : va_D A (wM cyI cyZ p0 p1 p2 p3 p4 mn (upd me (64 * (2 * 1) + j) (ft 1 ((y130 + 1)))) (upd ml (((40 * ro) + j)) v) mt th wo mr mo k141 z141 q141) := wM_D hD
                clear hB
                generalize H1 = H at hP hS ⊢
                refine lv_if_eq (tgt := 149) hx hb dX1_weaves_144 (by decide) (fun hq141 => ?_) (fun hq141 => ?_)
                · skip
                  have hc : nI j < mn (2 * 2) ∧ k141 = mk ∧ z141 = mz ∧ q141 = mq := by rcases hw with ⟨a1, a2, a3⟩ | ⟨a1, a2, a3⟩; exact ⟨a1, a3⟩; exact absurd (a2.symm.trans hq141) (by decide)
                  rw [hc.2.1, hc.2.2.1, hc.2.2.2] at hP hD
                  have f2 := hc.1
                  refine lv_aload_n hx hb dX1_weaves_149 rfl (lv_at hl 3 rfl) ?_
                  refine lv_iconst (v := nI 2) hx hb dX1_weaves_150 (by decide) ?_
                  refine lv_iload_n hx hb dX1_weaves_151 rfl (lv_at hl 5 rfl) ?_
                  refine lv_aload_n hx hb dX1_weaves_152 rfl (lv_at hl 3 rfl) ?_
                  refine va_get (D := (dC, dI)) (ci := 1) (v := .ref p2) (C := RX1) (T := TX1) (N := 11) hx hb hts iw hown hK hP 0 rfl rfl 2 (by decide) (hts (.fieldLink RX1 13 "ReelLoomModel" "cells" "[I") (by decide +kernel)) (fun _ h9 => h9) rfl dX1_weaves_153 ?_
                  refine lv_iconst (v := nI 2) hx hb dX1_weaves_156 (by decide) ?_
                  refine lv_iload_n hx hb dX1_weaves_157 rfl (lv_at hl 5 rfl) ?_
                  refine gx_calli (va_runS (As := [.int (nI 2), .int (nI j)]) (rest := [.ref p2, .int (nI j), .int (nI 2), .ref p0]) ⟨hx, hb, hml, hown, hts⟩ (k_X1_at l dC dI  _   2 j ) (va_cwS 2 hts gX1_weaves_X1_at rfl rfl rfl (by decide +kernel) ⟨Nat.le_of_ble_eq_true rfl, Nat.le_of_ble_eq_true rfl⟩) (pK_S (hK.sub (tys' := []) [] rfl)) rfl rfl hl.1 rfl (lv_room (Nat.le_of_ble_eq_true rfl)) dX1_weaves_158 ⟨Nat.le_of_ble_eq_true rfl, Nat.le_of_ble_eq_true rfl⟩) (fun r_16 hr_16 => ?_)
                  subst hr_16
                  refine va_iald hx hb hK hP 2 0 rfl rfl (vp_in_nI (by omega) (by omega)) dX1_weaves_161 ?_
                  rw [nI_clamp (show (64 * (2 * 2) + j) < 2 ^ 31 by omega)]
                  refine lv_topi (fun y161 ey161 => ?_)
                  refine lv_iload hx hb dX1_weaves_162 (lv_at hl 2 rfl) ?_
                  refine lv_if_eq (tgt := 171) hx hb dX1_weaves_164 (by decide) (fun c_17 => ?_) (fun c_17 => ?_)
                  · skip
                    refine lv_iconst (v := im1) hx hb dX1_weaves_171 (by decide) ?_
                    refine lv_iadd hx hb dX1_weaves_172 ?_
                    have hFc := va_free (wc := wM cyI cyZ p0 p1 p2 p3 p4 mn (upd me (64 * (2 * 1) + j) (ft 1 ((y130 + 1)))) (upd ml (((40 * ro) + j)) v) mt th wo mr mo mk mz mq) hD hS hA [0, 1, 2, 3, 4] rfl
                    refine va_calli (va_runV (As := [.int (nI 2), .int (nI j), .int (y161 + im1)]) (rest := []) ⟨hx, hb, hml, hown, hts⟩ (k_X1_put l dC dI cyI cyZ _ p0 p1 p2 p3 p4 mn (upd me (64 * (2 * 1) + j) (ft 1 ((y130 + 1)))) (upd ml (((40 * ro) + j)) v) mt th wo mr mo mk mz mq hP (hD.weaken (fun _ _ _ _ => trivial)) 2 j (y161 + im1) (by omega) (by omega)) (cwV 3 hts gX1_weaves_X1_put rfl rfl rfl (by decide +kernel) ⟨Nat.le_of_ble_eq_true rfl, Nat.le_of_ble_eq_true rfl⟩) (pK_V hK (va_recv hK hP (ci := 1) (q0 := 0) rfl rfl)) rfl rfl hl.1 rfl (lv_room (Nat.le_of_ble_eq_true rfl)) dX1_weaves_173 ⟨Nat.le_of_ble_eq_true rfl, Nat.le_of_ble_eq_true rfl⟩) hS (fun q _ h => hFc q h) hFc (fun r_18 u t H1 locs ht hvm hw hB hz1 hk1 hS => ?_)
                    have hP : va_P (dC, dI) vwCl (wM cyI cyZ p0 p1 p2 p3 p4 mn (upd (upd me (64 * (2 * 1) + j) (ft 1 ((y130 + 1)))) (64 * (2 * 2) + j) (ft 2 ((y161 + im1)))) (upd ml (((40 * ro) + j)) v) mt th wo mr mo mk mz mq) t.heap := hB
                    rw [ht] at hP
                    have hD : va_D A (wM cyI cyZ p0 p1 p2 p3 p4 mn (upd (upd me (64 * (2 * 1) + j) (ft 1 ((y130 + 1)))) (64 * (2 * 2) + j) (ft 2 ((y161 + im1)))) (upd ml (((40 * ro) + j)) v) mt th wo mr mo mk mz mq) := wM_D hD
                    clear hB
                    generalize H1 = H at hP hS ⊢
                    refine lv_istore (lv' := [(7, .int r_18), (6, .int r_13), (5, .int v), (4, .int 0), (0, .ref p0), (1, .int (nI ro)), (2, .int (nI j)), (3, .int v)]) hx hb dX1_weaves_176 hl (by decide) rfl (fun ls hl => ?_)
                    refine lv_iload hx hb dX1_weaves_178 (lv_at hl 3 rfl) ?_
                    refine lv_if_eq (tgt := 214) hx hb dX1_weaves_180 (by decide) (fun c_19 => ?_) (fun c_19 => ?_)
                    · skip
                      refine lv_iconst (v := 1) hx hb dX1_weaves_214 (by decide) ?_
                      exact W.zret (v := 1) (ty := .boolean) hx hb hr rfl (fun t ht hW => ⟨⟨1, (upd (upd me (64 * (2 * 1) + j) (ft 1 ((y130 + 1)))) (64 * (2 * 2) + j) (ft 2 ((y161 + im1))), upd ml (((40 * ro) + j)) v, mk, mz, mq), rfl, Or.inr ⟨rfl, by unfold mcol; rw [if_neg (not_not_intro f3), if_neg (fun h => h22 h.1), if_neg (not_not_intro fr), if_neg (not_not_intro f1), if_neg (not_not_intro f2), if_neg (fun h => h22 h.1), if_neg h22, ey161, ey130]⟩, by show va_P (dC, dI) vwCl (wM cyI cyZ p0 p1 p2 p3 p4 mn (upd (upd me (64 * (2 * 1) + j) (ft 1 ((y130 + 1)))) (64 * (2 * 2) + j) (ft 2 ((y161 + im1)))) (upd ml (((40 * ro) + j)) v) mt th wo mr mo mk mz mq) t.heap; rw [ht]; exact hP⟩, hS.F ht⟩) hS.2.2 dX1_weaves_215
                    · skip
                      exact absurd (by decide) c_19
                  · skip
                    exact absurd (by decide) c_17
                · skip
                  have hc : ¬ nI j < mn (2 * 2) ∧ k141 = stM mn 2 ∧ z141 = nI 2 ∧ q141 = nI j := by rcases hw with ⟨a1, a2, a3⟩ | ⟨a1, a2, a3⟩; exact absurd a2 hq141; exact ⟨a1, a3⟩
                  rw [hc.2.1, hc.2.2.1, hc.2.2.2] at hP hD
                  have f2 := hc.1
                  refine lv_iconst (v := 0) hx hb dX1_weaves_147 (by decide) ?_
                  exact W.zret (v := 0) (ty := .boolean) hx hb hr rfl (fun t ht hW => ⟨⟨0, (upd me (64 * (2 * 1) + j) (ft 1 ((y130 + 1))), upd ml (((40 * ro) + j)) v, stM mn 2, nI 2, nI j), rfl, Or.inl ⟨rfl, by unfold mcol; rw [if_neg (not_not_intro f3), if_neg (fun h => h22 h.1), if_neg (not_not_intro fr), if_neg (not_not_intro f1), if_pos f2, if_neg h22, ey130]⟩, by show va_P (dC, dI) vwCl (wM cyI cyZ p0 p1 p2 p3 p4 mn (upd me (64 * (2 * 1) + j) (ft 1 ((y130 + 1)))) (upd ml (((40 * ro) + j)) v) mt th wo mr mo (stM mn 2) (nI 2) (nI j)) t.heap; rw [ht]; exact hP⟩, hS.F ht⟩) hS.2.2 dX1_weaves_148
              · skip
                have hc : ¬ nI j < mn (2 * 1) ∧ k110 = stM mn 1 ∧ z110 = nI 1 ∧ q110 = nI j := by rcases hw with ⟨a1, a2, a3⟩ | ⟨a1, a2, a3⟩; exact absurd a2 hq110; exact ⟨a1, a3⟩
                rw [hc.2.1, hc.2.2.1, hc.2.2.2] at hP hD
                have f1 := hc.1
                refine lv_iconst (v := 0) hx hb dX1_weaves_116 (by decide) ?_
                exact W.zret (v := 0) (ty := .boolean) hx hb hr rfl (fun t ht hW => ⟨⟨0, (me, upd ml (((40 * ro) + j)) v, stM mn 1, nI 1, nI j), rfl, Or.inl ⟨rfl, by unfold mcol; rw [if_neg (not_not_intro f3), if_neg (fun h => h22 h.1), if_neg (not_not_intro fr), if_pos f1, if_neg h22]⟩, by show va_P (dC, dI) vwCl (wM cyI cyZ p0 p1 p2 p3 p4 mn me (upd ml (((40 * ro) + j)) v) mt th wo mr mo (stM mn 1) (nI 1) (nI j)) t.heap; rw [ht]; exact hP⟩, hS.F ht⟩) hS.2.2 dX1_weaves_117
            · skip
              exact False.elim (hw.elim (fun a => hq86 a.2.1) (fun a => a.1 rfl))
          · skip
            have fr := h76
            refine lv_iconst (v := 1) hx hb dX1_weaves_79 (by decide) ?_
            refine lv_goto (tgt := 84) hx hb dX1_weaves_80 (by decide) ?_
            refine lv_iconst (v := 5) hx hb dX1_weaves_84 (by decide) ?_
            refine lv_iload_n hx hb dX1_weaves_85 rfl (lv_at hl 4 rfl) ?_
            have hFc := va_free (wc := wM cyI cyZ p0 p1 p2 p3 p4 mn me ml mt th wo mr mo mk mz mq) hD hS hA [0, 1, 2, 3, 4] rfl
            refine va_calli (va_runV (As := [.int 1, .int 5, .int (nI j)]) (rest := []) ⟨hx, hb, hml, hown, hts⟩ (k_X1_stops l dC dI cyI cyZ _ p0 p1 p2 p3 p4 mn me ml mt th wo mr mo mk mz mq hP (hD.weaken (fun _ _ _ _ => trivial)) 1 5 (nI j) ) (cwV 3 hts gX1_weaves_X1_stops rfl rfl rfl (by decide +kernel) ⟨Nat.le_of_ble_eq_true rfl, Nat.le_of_ble_eq_true rfl⟩) (pK_V hK (va_recv hK hP (ci := 1) (q0 := 0) rfl rfl)) rfl rfl hl.1 rfl (lv_room (Nat.le_of_ble_eq_true rfl)) dX1_weaves_86 ⟨Nat.le_of_ble_eq_true rfl, Nat.le_of_ble_eq_true rfl⟩) hS (fun q _ h => hFc q h) hFc (fun r86 u t H1 locs ht hvm hw hB hz1 hk1 hS => ?_)
            obtain ⟨k86, z86, q86⟩ := u
            dsimp only at hw
            have hP : va_P (dC, dI) vwCl (wM cyI cyZ p0 p1 p2 p3 p4 mn me ml mt th wo mr mo k86 z86 q86) t.heap := hB
            rw [ht] at hP
            have hD : va_D A (wM cyI cyZ p0 p1 p2 p3 p4 mn me ml mt th wo mr mo k86 z86 q86) := wM_D hD
            clear hB
            generalize H1 = H at hP hS ⊢
            refine lv_if_eq (tgt := 94) hx hb dX1_weaves_89 (by decide) (fun hq86 => ?_) (fun hq86 => ?_)
            · skip
              exact absurd (hw.elim (fun a => absurd a.1 (by decide)) (fun a => a.2.1.symm.trans hq86)) (by decide)
            · skip
              have hc : k86 = 1 ∧ z86 = 5 ∧ q86 = nI j := by rcases hw with ⟨a1, a2, a3⟩ | ⟨a1, a2, a3⟩; exact absurd a1 (by decide); exact a3
              rw [hc.1, hc.2.1, hc.2.2] at hP hD
              refine lv_iconst (v := 0) hx hb dX1_weaves_92 (by decide) ?_
              exact W.zret (v := 0) (ty := .boolean) hx hb hr rfl (fun t ht hW => ⟨⟨0, (me, ml, 1, 5, nI j), rfl, Or.inl ⟨rfl, by unfold mcol; rw [if_neg (not_not_intro f3), if_neg (fun h => h22 h.1), if_pos fr]⟩, by show va_P (dC, dI) vwCl (wM cyI cyZ p0 p1 p2 p3 p4 mn me ml mt th wo mr mo 1 5 (nI j)) t.heap; rw [ht]; exact hP⟩, hS.F ht⟩) hS.2.2 dX1_weaves_93
        · skip
          exact absurd (by decide) c_6
      · skip
        exact absurd (by decide) c_5
    · skip
      refine lv_iconst (v := 1) hx hb dX1_weaves_25 (by decide) ?_
      refine lv_goto (tgt := 30) hx hb dX1_weaves_26 (by decide) ?_
      refine lv_istore (lv' := [(4, .int 1), (0, .ref p0), (1, .int (nI ro)), (2, .int (nI j)), (3, .int v)]) hx hb dX1_weaves_30 hl (by decide) rfl (fun ls hl => ?_)
      refine lv_iload hx hb dX1_weaves_32 (lv_at hl 0 rfl) ?_
      refine lv_if_eq (tgt := 48) hx hb dX1_weaves_34 (by decide) (fun c_22 => ?_) (fun c_22 => ?_)
      · skip
        exact absurd c_22 (by decide)
      · skip
        refine lv_aload_n hx hb dX1_weaves_37 rfl (lv_at hl 1 rfl) ?_
        refine lv_iconst (v := nI 0) hx hb dX1_weaves_38 (by decide) ?_
        refine lv_iload_n hx hb dX1_weaves_39 rfl (lv_at hl 3 rfl) ?_
        have hFc := va_free (wc := wM cyI cyZ p0 p1 p2 p3 p4 mn me ml mt th wo mr mo mk mz mq) hD hS hA [0, 1, 2, 3, 4] rfl
        refine va_calli (va_runV (As := [.int (nI 0), .int (nI j)]) (rest := []) ⟨hx, hb, hml, hown, hts⟩ (k_X1_stopsAt l dC dI cyI cyZ _ p0 p1 p2 p3 p4 mn me ml mt th wo mr mo mk mz mq hP (hD.weaken (fun _ _ _ _ => trivial)) 0 j (by omega) (by omega)) (cwV 2 hts gX1_weaves_X1_stopsAt rfl rfl rfl (by decide +kernel) ⟨Nat.le_of_ble_eq_true rfl, Nat.le_of_ble_eq_true rfl⟩) (pK_V hK (va_recv hK hP (ci := 1) (q0 := 0) rfl rfl)) rfl rfl hl.1 rfl (lv_room (Nat.le_of_ble_eq_true rfl)) dX1_weaves_40 ⟨Nat.le_of_ble_eq_true rfl, Nat.le_of_ble_eq_true rfl⟩) hS (fun q _ h => hFc q h) hFc (fun r40 u t H1 locs ht hvm hw hB hz1 hk1 hS => ?_)
        obtain ⟨k40, z40, q40⟩ := u
        dsimp only at hw
        have hP : va_P (dC, dI) vwCl (wM cyI cyZ p0 p1 p2 p3 p4 mn me ml mt th wo mr mo k40 z40 q40) t.heap := hB
        rw [ht] at hP
        have hD : va_D A (wM cyI cyZ p0 p1 p2 p3 p4 mn me ml mt th wo mr mo k40 z40 q40) := wM_D hD
        clear hB
        generalize H1 = H at hP hS ⊢
        refine lv_if_eq (tgt := 48) hx hb dX1_weaves_43 (by decide) (fun hq40 => ?_) (fun hq40 => ?_)
        · skip
          have hc : nI j < mn (2 * 0) ∧ k40 = mk ∧ z40 = mz ∧ q40 = mq := by rcases hw with ⟨a1, a2, a3⟩ | ⟨a1, a2, a3⟩; exact ⟨a1, a3⟩; exact absurd (a2.symm.trans hq40) (by decide)
          rw [hc.2.1, hc.2.2.1, hc.2.2.2] at hP hD
          have f0 := hc.1
          refine lv_iload hx hb dX1_weaves_48 (lv_at hl 0 rfl) ?_
          refine lv_if_eq (tgt := 66) hx hb dX1_weaves_50 (by decide) (fun c_25 => ?_) (fun c_25 => ?_)
          · skip
            exact absurd c_25 (by decide)
          · skip
            refine lv_aload_n hx hb dX1_weaves_53 rfl (lv_at hl 1 rfl) ?_
            refine va_get (D := (dC, dI)) (ci := 1) (v := .ref p2) (C := RX1) (T := TX1) (N := 11) hx hb hts iw hown hK hP 0 rfl rfl 2 (by decide) (hts (.fieldLink RX1 13 "ReelLoomModel" "cells" "[I") (by decide +kernel)) (fun _ h9 => h9) rfl dX1_weaves_54 ?_
            refine lv_iconst (v := nI 0) hx hb dX1_weaves_57 (by decide) ?_
            refine lv_iload_n hx hb dX1_weaves_58 rfl (lv_at hl 3 rfl) ?_
            refine gx_calli (va_runS (As := [.int (nI 0), .int (nI j)]) (rest := [.ref p2]) ⟨hx, hb, hml, hown, hts⟩ (k_X1_at l dC dI  _   0 j ) (va_cwS 2 hts gX1_weaves_X1_at rfl rfl rfl (by decide +kernel) ⟨Nat.le_of_ble_eq_true rfl, Nat.le_of_ble_eq_true rfl⟩) (pK_S (hK.sub (tys' := []) [] rfl)) rfl rfl hl.1 rfl (lv_room (Nat.le_of_ble_eq_true rfl)) dX1_weaves_59 ⟨Nat.le_of_ble_eq_true rfl, Nat.le_of_ble_eq_true rfl⟩) (fun r_26 hr_26 => ?_)
            subst hr_26
            refine va_iald hx hb hK hP 2 0 rfl rfl (vp_in_nI (by omega) (by omega)) dX1_weaves_62 ?_
            rw [nI_clamp (show (64 * (2 * 0) + j) < 2 ^ 31 by omega)]
            refine lv_goto (tgt := 67) hx hb dX1_weaves_63 (by decide) ?_
            refine lv_istore (lv' := [(5, .int (me ((64 * (2 * 0) + j)))), (4, .int 1), (0, .ref p0), (1, .int (nI ro)), (2, .int (nI j)), (3, .int v)]) hx hb dX1_weaves_67 hl (by decide) rfl (fun ls hl => ?_)
            refine lv_aload_n hx hb dX1_weaves_69 rfl (lv_at hl 2 rfl) ?_
            refine lv_aload_n hx hb dX1_weaves_70 rfl (lv_at hl 2 rfl) ?_
            refine va_get (D := (dC, dI)) (ci := 1) (v := .ref p4) (C := RX1) (T := TX1) (N := 11) hx hb hts iw hown hK hP 0 rfl rfl 7 (by decide) (hts (.fieldLink RX1 19 "ReelLoomModel" "isCut" "[Z") (by decide +kernel)) (fun _ h9 => h9) rfl dX1_weaves_71 ?_
            refine lv_iload_n hx hb dX1_weaves_74 rfl (lv_at hl 3 rfl) ?_
            refine va_zald hx hb hK hP 4 1 rfl rfl (vp_in_nI (by omega) (by omega)) dX1_weaves_75 ?_
            rw [nI_clamp (show ro < 2 ^ 31 by omega)]
            refine lv_if_eq (tgt := 83) hx hb dX1_weaves_76 (by decide) (fun h76 => ?_) (fun h76 => ?_)
            · skip
              have fr := h76
              refine lv_iconst (v := 0) hx hb dX1_weaves_83 (by decide) ?_
              refine lv_iconst (v := 5) hx hb dX1_weaves_84 (by decide) ?_
              refine lv_iload_n hx hb dX1_weaves_85 rfl (lv_at hl 4 rfl) ?_
              have hFc := va_free (wc := wM cyI cyZ p0 p1 p2 p3 p4 mn me ml mt th wo mr mo mk mz mq) hD hS hA [0, 1, 2, 3, 4] rfl
              refine va_calli (va_runV (As := [.int 0, .int 5, .int (nI j)]) (rest := []) ⟨hx, hb, hml, hown, hts⟩ (k_X1_stops l dC dI cyI cyZ _ p0 p1 p2 p3 p4 mn me ml mt th wo mr mo mk mz mq hP (hD.weaken (fun _ _ _ _ => trivial)) 0 5 (nI j) ) (cwV 3 hts gX1_weaves_X1_stops rfl rfl rfl (by decide +kernel) ⟨Nat.le_of_ble_eq_true rfl, Nat.le_of_ble_eq_true rfl⟩) (pK_V hK (va_recv hK hP (ci := 1) (q0 := 0) rfl rfl)) rfl rfl hl.1 rfl (lv_room (Nat.le_of_ble_eq_true rfl)) dX1_weaves_86 ⟨Nat.le_of_ble_eq_true rfl, Nat.le_of_ble_eq_true rfl⟩) hS (fun q _ h => hFc q h) hFc (fun r86 u t H1 locs ht hvm hw hB hz1 hk1 hS => ?_)
              obtain ⟨k86, z86, q86⟩ := u
              dsimp only at hw
              have hP : va_P (dC, dI) vwCl (wM cyI cyZ p0 p1 p2 p3 p4 mn me ml mt th wo mr mo k86 z86 q86) t.heap := hB
              rw [ht] at hP
              have hD : va_D A (wM cyI cyZ p0 p1 p2 p3 p4 mn me ml mt th wo mr mo k86 z86 q86) := wM_D hD
              clear hB
              generalize H1 = H at hP hS ⊢
              refine lv_if_eq (tgt := 94) hx hb dX1_weaves_89 (by decide) (fun hq86 => ?_) (fun hq86 => ?_)
              · skip
                have hc : k86 = mk ∧ z86 = mz ∧ q86 = mq := by rcases hw with ⟨a1, a2, a3⟩ | ⟨a1, a2, a3⟩; exact a3; exact absurd rfl a1
                rw [hc.1, hc.2.1, hc.2.2] at hP hD
                refine lv_aload_n hx hb dX1_weaves_94 rfl (lv_at hl 2 rfl) ?_
                refine va_get (D := (dC, dI)) (ci := 1) (v := .ref p3) (C := RX1) (T := TX1) (N := 11) hx hb hts iw hown hK hP 0 rfl rfl 6 (by decide) (hts (.fieldLink RX1 16 "ReelLoomModel" "cloth" "[I") (by decide +kernel)) (fun _ h9 => h9) rfl dX1_weaves_95 ?_
                refine lv_bipush (v := nI 40) hx hb dX1_weaves_98 (by decide) ?_
                refine lv_iload_n hx hb dX1_weaves_100 rfl (lv_at hl 3 rfl) ?_
                refine lv_imul hx hb dX1_weaves_101 ?_
                rw [pk_mul]
                refine lv_iload_n hx hb dX1_weaves_102 rfl (lv_at hl 4 rfl) ?_
                refine lv_iadd hx hb dX1_weaves_103 ?_
                rw [nI_add]
                refine lv_iload hx hb dX1_weaves_104 (lv_at hl 0 rfl) ?_
                refine va_iast hx hb hK hP hD hS 3 0 rfl rfl (vp_in_nI (by omega) (by omega)) dX1_weaves_106 (fun H locs hP hD hS => ?_)
                rw [nI_clamp (show ((40 * ro) + j) < 2 ^ 31 by omega)] at hP hD
                have hP : va_P (dC, dI) vwCl (wM cyI cyZ p0 p1 p2 p3 p4 mn me (upd ml (((40 * ro) + j)) (me ((64 * (2 * 0) + j)))) mt th wo mr mo mk mz mq) H := hP
                have hD : va_D A (wM cyI cyZ p0 p1 p2 p3 p4 mn me (upd ml (((40 * ro) + j)) (me ((64 * (2 * 0) + j)))) mt th wo mr mo mk mz mq) := hD
                refine lv_aload_n hx hb dX1_weaves_107 rfl (lv_at hl 2 rfl) ?_
                refine lv_iconst (v := nI 1) hx hb dX1_weaves_108 (by decide) ?_
                refine lv_iload_n hx hb dX1_weaves_109 rfl (lv_at hl 4 rfl) ?_
                have hFc := va_free (wc := wM cyI cyZ p0 p1 p2 p3 p4 mn me (upd ml (((40 * ro) + j)) (me ((64 * (2 * 0) + j)))) mt th wo mr mo mk mz mq) hD hS hA [0, 1, 2, 3, 4] rfl
                refine va_calli (va_runV (As := [.int (nI 1), .int (nI j)]) (rest := []) ⟨hx, hb, hml, hown, hts⟩ (k_X1_stopsAt l dC dI cyI cyZ _ p0 p1 p2 p3 p4 mn me (upd ml (((40 * ro) + j)) (me ((64 * (2 * 0) + j)))) mt th wo mr mo mk mz mq hP (hD.weaken (fun _ _ _ _ => trivial)) 1 j (by omega) (by omega)) (cwV 2 hts gX1_weaves_X1_stopsAt rfl rfl rfl (by decide +kernel) ⟨Nat.le_of_ble_eq_true rfl, Nat.le_of_ble_eq_true rfl⟩) (pK_V hK (va_recv hK hP (ci := 1) (q0 := 0) rfl rfl)) rfl rfl hl.1 rfl (lv_room (Nat.le_of_ble_eq_true rfl)) dX1_weaves_110 ⟨Nat.le_of_ble_eq_true rfl, Nat.le_of_ble_eq_true rfl⟩) hS (fun q _ h => hFc q h) hFc (fun r110 u t H1 locs ht hvm hw hB hz1 hk1 hS => ?_)
                obtain ⟨k110, z110, q110⟩ := u
                dsimp only at hw
                have hP : va_P (dC, dI) vwCl (wM cyI cyZ p0 p1 p2 p3 p4 mn me (upd ml (((40 * ro) + j)) (me ((64 * (2 * 0) + j)))) mt th wo mr mo k110 z110 q110) t.heap := hB
                rw [ht] at hP
                have hD : va_D A (wM cyI cyZ p0 p1 p2 p3 p4 mn me (upd ml (((40 * ro) + j)) (me ((64 * (2 * 0) + j)))) mt th wo mr mo k110 z110 q110) := wM_D hD
                clear hB
                generalize H1 = H at hP hS ⊢
                refine lv_if_eq (tgt := 118) hx hb dX1_weaves_113 (by decide) (fun hq110 => ?_) (fun hq110 => ?_)
                · skip
                  have hc : nI j < mn (2 * 1) ∧ k110 = mk ∧ z110 = mz ∧ q110 = mq := by rcases hw with ⟨a1, a2, a3⟩ | ⟨a1, a2, a3⟩; exact ⟨a1, a3⟩; exact absurd (a2.symm.trans hq110) (by decide)
                  rw [hc.2.1, hc.2.2.1, hc.2.2.2] at hP hD
                  have f1 := hc.1
                  refine lv_aload_n hx hb dX1_weaves_118 rfl (lv_at hl 2 rfl) ?_
                  refine lv_iconst (v := nI 1) hx hb dX1_weaves_119 (by decide) ?_
                  refine lv_iload_n hx hb dX1_weaves_120 rfl (lv_at hl 4 rfl) ?_
                  refine lv_aload_n hx hb dX1_weaves_121 rfl (lv_at hl 2 rfl) ?_
                  refine va_get (D := (dC, dI)) (ci := 1) (v := .ref p2) (C := RX1) (T := TX1) (N := 11) hx hb hts iw hown hK hP 0 rfl rfl 2 (by decide) (hts (.fieldLink RX1 13 "ReelLoomModel" "cells" "[I") (by decide +kernel)) (fun _ h9 => h9) rfl dX1_weaves_122 ?_
                  refine lv_iconst (v := nI 1) hx hb dX1_weaves_125 (by decide) ?_
                  refine lv_iload_n hx hb dX1_weaves_126 rfl (lv_at hl 4 rfl) ?_
                  refine gx_calli (va_runS (As := [.int (nI 1), .int (nI j)]) (rest := [.ref p2, .int (nI j), .int (nI 1), .ref p0]) ⟨hx, hb, hml, hown, hts⟩ (k_X1_at l dC dI  _   1 j ) (va_cwS 2 hts gX1_weaves_X1_at rfl rfl rfl (by decide +kernel) ⟨Nat.le_of_ble_eq_true rfl, Nat.le_of_ble_eq_true rfl⟩) (pK_S (hK.sub (tys' := []) [] rfl)) rfl rfl hl.1 rfl (lv_room (Nat.le_of_ble_eq_true rfl)) dX1_weaves_127 ⟨Nat.le_of_ble_eq_true rfl, Nat.le_of_ble_eq_true rfl⟩) (fun r_32 hr_32 => ?_)
                  subst hr_32
                  refine va_iald hx hb hK hP 2 0 rfl rfl (vp_in_nI (by omega) (by omega)) dX1_weaves_130 ?_
                  rw [nI_clamp (show (64 * (2 * 1) + j) < 2 ^ 31 by omega)]
                  refine lv_topi (fun y130 ey130 => ?_)
                  refine lv_iconst (v := 1) hx hb dX1_weaves_131 (by decide) ?_
                  refine lv_iadd hx hb dX1_weaves_132 ?_
                  have hFc := va_free (wc := wM cyI cyZ p0 p1 p2 p3 p4 mn me (upd ml (((40 * ro) + j)) (me ((64 * (2 * 0) + j)))) mt th wo mr mo mk mz mq) hD hS hA [0, 1, 2, 3, 4] rfl
                  refine va_calli (va_runV (As := [.int (nI 1), .int (nI j), .int (y130 + 1)]) (rest := []) ⟨hx, hb, hml, hown, hts⟩ (k_X1_put l dC dI cyI cyZ _ p0 p1 p2 p3 p4 mn me (upd ml (((40 * ro) + j)) (me ((64 * (2 * 0) + j)))) mt th wo mr mo mk mz mq hP (hD.weaken (fun _ _ _ _ => trivial)) 1 j (y130 + 1) (by omega) (by omega)) (cwV 3 hts gX1_weaves_X1_put rfl rfl rfl (by decide +kernel) ⟨Nat.le_of_ble_eq_true rfl, Nat.le_of_ble_eq_true rfl⟩) (pK_V hK (va_recv hK hP (ci := 1) (q0 := 0) rfl rfl)) rfl rfl hl.1 rfl (lv_room (Nat.le_of_ble_eq_true rfl)) dX1_weaves_133 ⟨Nat.le_of_ble_eq_true rfl, Nat.le_of_ble_eq_true rfl⟩) hS (fun q _ h => hFc q h) hFc (fun r_33 u t H1 locs ht hvm hw hB hz1 hk1 hS => ?_)
                  have hP : va_P (dC, dI) vwCl (wM cyI cyZ p0 p1 p2 p3 p4 mn (upd me (64 * (2 * 1) + j) (ft 1 ((y130 + 1)))) (upd ml (((40 * ro) + j)) (me ((64 * (2 * 0) + j)))) mt th wo mr mo mk mz mq) t.heap := hB
                  rw [ht] at hP
                  have hD : va_D A (wM cyI cyZ p0 p1 p2 p3 p4 mn (upd me (64 * (2 * 1) + j) (ft 1 ((y130 + 1)))) (upd ml (((40 * ro) + j)) (me ((64 * (2 * 0) + j)))) mt th wo mr mo mk mz mq) := wM_D hD
                  clear hB
                  generalize H1 = H at hP hS ⊢
                  refine lv_istore (lv' := [(6, .int r_33), (5, .int (me ((64 * (2 * 0) + j)))), (4, .int 1), (0, .ref p0), (1, .int (nI ro)), (2, .int (nI j)), (3, .int v)]) hx hb dX1_weaves_136 hl (by decide) rfl (fun ls hl => ?_)
                  refine lv_aload_n hx hb dX1_weaves_138 rfl (lv_at hl 3 rfl) ?_
                  refine lv_iconst (v := nI 2) hx hb dX1_weaves_139 (by decide) ?_
                  refine lv_iload_n hx hb dX1_weaves_140 rfl (lv_at hl 5 rfl) ?_
                  have hFc := va_free (wc := wM cyI cyZ p0 p1 p2 p3 p4 mn (upd me (64 * (2 * 1) + j) (ft 1 ((y130 + 1)))) (upd ml (((40 * ro) + j)) (me ((64 * (2 * 0) + j)))) mt th wo mr mo mk mz mq) hD hS hA [0, 1, 2, 3, 4] rfl
                  refine va_calli (va_runV (As := [.int (nI 2), .int (nI j)]) (rest := []) ⟨hx, hb, hml, hown, hts⟩ (k_X1_stopsAt l dC dI cyI cyZ _ p0 p1 p2 p3 p4 mn (upd me (64 * (2 * 1) + j) (ft 1 ((y130 + 1)))) (upd ml (((40 * ro) + j)) (me ((64 * (2 * 0) + j)))) mt th wo mr mo mk mz mq hP (hD.weaken (fun _ _ _ _ => trivial)) 2 j (by omega) (by omega)) (cwV 2 hts gX1_weaves_X1_stopsAt rfl rfl rfl (by decide +kernel) ⟨Nat.le_of_ble_eq_true rfl, Nat.le_of_ble_eq_true rfl⟩) (pK_V hK (va_recv hK hP (ci := 1) (q0 := 0) rfl rfl)) rfl rfl hl.1 rfl (lv_room (Nat.le_of_ble_eq_true rfl)) dX1_weaves_141 ⟨Nat.le_of_ble_eq_true rfl, Nat.le_of_ble_eq_true rfl⟩) hS (fun q _ h => hFc q h) hFc (fun r141 u t H1 locs ht hvm hw hB hz1 hk1 hS => ?_)
                  obtain ⟨k141, z141, q141⟩ := u
                  dsimp only at hw
                  have hP : va_P (dC, dI) vwCl (wM cyI cyZ p0 p1 p2 p3 p4 mn (upd me (64 * (2 * 1) + j) (ft 1 ((y130 + 1)))) (upd ml (((40 * ro) + j)) (me ((64 * (2 * 0) + j)))) mt th wo mr mo k141 z141 q141) t.heap := hB
                  rw [ht] at hP
                  have hD : va_D A (wM cyI cyZ p0 p1 p2 p3 p4 mn (upd me (64 * (2 * 1) + j) (ft 1 ((y130 + 1)))) (upd ml (((40 * ro) + j)) (me ((64 * (2 * 0) + j)))) mt th wo mr mo k141 z141 q141) := wM_D hD
                  clear hB
                  generalize H1 = H at hP hS ⊢
                  refine lv_if_eq (tgt := 149) hx hb dX1_weaves_144 (by decide) (fun hq141 => ?_) (fun hq141 => ?_)
                  · skip
                    have hc : nI j < mn (2 * 2) ∧ k141 = mk ∧ z141 = mz ∧ q141 = mq := by rcases hw with ⟨a1, a2, a3⟩ | ⟨a1, a2, a3⟩; exact ⟨a1, a3⟩; exact absurd (a2.symm.trans hq141) (by decide)
                    rw [hc.2.1, hc.2.2.1, hc.2.2.2] at hP hD
                    have f2 := hc.1
                    refine lv_aload_n hx hb dX1_weaves_149 rfl (lv_at hl 3 rfl) ?_
                    refine lv_iconst (v := nI 2) hx hb dX1_weaves_150 (by decide) ?_
                    refine lv_iload_n hx hb dX1_weaves_151 rfl (lv_at hl 5 rfl) ?_
                    refine lv_aload_n hx hb dX1_weaves_152 rfl (lv_at hl 3 rfl) ?_
                    refine va_get (D := (dC, dI)) (ci := 1) (v := .ref p2) (C := RX1) (T := TX1) (N := 11) hx hb hts iw hown hK hP 0 rfl rfl 2 (by decide) (hts (.fieldLink RX1 13 "ReelLoomModel" "cells" "[I") (by decide +kernel)) (fun _ h9 => h9) rfl dX1_weaves_153 ?_
                    refine lv_iconst (v := nI 2) hx hb dX1_weaves_156 (by decide) ?_
                    refine lv_iload_n hx hb dX1_weaves_157 rfl (lv_at hl 5 rfl) ?_
                    refine gx_calli (va_runS (As := [.int (nI 2), .int (nI j)]) (rest := [.ref p2, .int (nI j), .int (nI 2), .ref p0]) ⟨hx, hb, hml, hown, hts⟩ (k_X1_at l dC dI  _   2 j ) (va_cwS 2 hts gX1_weaves_X1_at rfl rfl rfl (by decide +kernel) ⟨Nat.le_of_ble_eq_true rfl, Nat.le_of_ble_eq_true rfl⟩) (pK_S (hK.sub (tys' := []) [] rfl)) rfl rfl hl.1 rfl (lv_room (Nat.le_of_ble_eq_true rfl)) dX1_weaves_158 ⟨Nat.le_of_ble_eq_true rfl, Nat.le_of_ble_eq_true rfl⟩) (fun r_36 hr_36 => ?_)
                    subst hr_36
                    refine va_iald hx hb hK hP 2 0 rfl rfl (vp_in_nI (by omega) (by omega)) dX1_weaves_161 ?_
                    rw [nI_clamp (show (64 * (2 * 2) + j) < 2 ^ 31 by omega)]
                    refine lv_topi (fun y161 ey161 => ?_)
                    refine lv_iload hx hb dX1_weaves_162 (lv_at hl 2 rfl) ?_
                    refine lv_if_eq (tgt := 171) hx hb dX1_weaves_164 (by decide) (fun c_37 => ?_) (fun c_37 => ?_)
                    · skip
                      exact absurd c_37 (by decide)
                    · skip
                      refine lv_iconst (v := 2) hx hb dX1_weaves_167 (by decide) ?_
                      refine lv_goto (tgt := 172) hx hb dX1_weaves_168 (by decide) ?_
                      refine lv_iadd hx hb dX1_weaves_172 ?_
                      have hFc := va_free (wc := wM cyI cyZ p0 p1 p2 p3 p4 mn (upd me (64 * (2 * 1) + j) (ft 1 ((y130 + 1)))) (upd ml (((40 * ro) + j)) (me ((64 * (2 * 0) + j)))) mt th wo mr mo mk mz mq) hD hS hA [0, 1, 2, 3, 4] rfl
                      refine va_calli (va_runV (As := [.int (nI 2), .int (nI j), .int (y161 + 2)]) (rest := []) ⟨hx, hb, hml, hown, hts⟩ (k_X1_put l dC dI cyI cyZ _ p0 p1 p2 p3 p4 mn (upd me (64 * (2 * 1) + j) (ft 1 ((y130 + 1)))) (upd ml (((40 * ro) + j)) (me ((64 * (2 * 0) + j)))) mt th wo mr mo mk mz mq hP (hD.weaken (fun _ _ _ _ => trivial)) 2 j (y161 + 2) (by omega) (by omega)) (cwV 3 hts gX1_weaves_X1_put rfl rfl rfl (by decide +kernel) ⟨Nat.le_of_ble_eq_true rfl, Nat.le_of_ble_eq_true rfl⟩) (pK_V hK (va_recv hK hP (ci := 1) (q0 := 0) rfl rfl)) rfl rfl hl.1 rfl (lv_room (Nat.le_of_ble_eq_true rfl)) dX1_weaves_173 ⟨Nat.le_of_ble_eq_true rfl, Nat.le_of_ble_eq_true rfl⟩) hS (fun q _ h => hFc q h) hFc (fun r_38 u t H1 locs ht hvm hw hB hz1 hk1 hS => ?_)
                      have hP : va_P (dC, dI) vwCl (wM cyI cyZ p0 p1 p2 p3 p4 mn (upd (upd me (64 * (2 * 1) + j) (ft 1 ((y130 + 1)))) (64 * (2 * 2) + j) (ft 2 ((y161 + 2)))) (upd ml (((40 * ro) + j)) (me ((64 * (2 * 0) + j)))) mt th wo mr mo mk mz mq) t.heap := hB
                      rw [ht] at hP
                      have hD : va_D A (wM cyI cyZ p0 p1 p2 p3 p4 mn (upd (upd me (64 * (2 * 1) + j) (ft 1 ((y130 + 1)))) (64 * (2 * 2) + j) (ft 2 ((y161 + 2)))) (upd ml (((40 * ro) + j)) (me ((64 * (2 * 0) + j)))) mt th wo mr mo mk mz mq) := wM_D hD
                      clear hB
                      generalize H1 = H at hP hS ⊢
                      refine lv_istore (lv' := [(7, .int r_38), (6, .int r_33), (5, .int (me ((64 * (2 * 0) + j)))), (4, .int 1), (0, .ref p0), (1, .int (nI ro)), (2, .int (nI j)), (3, .int v)]) hx hb dX1_weaves_176 hl (by decide) rfl (fun ls hl => ?_)
                      refine lv_iload hx hb dX1_weaves_178 (lv_at hl 3 rfl) ?_
                      refine lv_if_eq (tgt := 214) hx hb dX1_weaves_180 (by decide) (fun c_39 => ?_) (fun c_39 => ?_)
                      · skip
                        exact absurd c_39 (by decide)
                      · skip
                        refine lv_aload_n hx hb dX1_weaves_183 rfl (lv_at hl 4 rfl) ?_
                        refine lv_iconst (v := nI 4) hx hb dX1_weaves_184 (by decide) ?_
                        refine lv_iload_n hx hb dX1_weaves_185 rfl (lv_at hl 6 rfl) ?_
                        have hFc := va_free (wc := wM cyI cyZ p0 p1 p2 p3 p4 mn (upd (upd me (64 * (2 * 1) + j) (ft 1 ((y130 + 1)))) (64 * (2 * 2) + j) (ft 2 ((y161 + 2)))) (upd ml (((40 * ro) + j)) (me ((64 * (2 * 0) + j)))) mt th wo mr mo mk mz mq) hD hS hA [0, 1, 2, 3, 4] rfl
                        refine va_calli (va_runV (As := [.int (nI 4), .int (nI j)]) (rest := []) ⟨hx, hb, hml, hown, hts⟩ (k_X1_stopsAt l dC dI cyI cyZ _ p0 p1 p2 p3 p4 mn (upd (upd me (64 * (2 * 1) + j) (ft 1 ((y130 + 1)))) (64 * (2 * 2) + j) (ft 2 ((y161 + 2)))) (upd ml (((40 * ro) + j)) (me ((64 * (2 * 0) + j)))) mt th wo mr mo mk mz mq hP (hD.weaken (fun _ _ _ _ => trivial)) 4 j (by omega) (by omega)) (cwV 2 hts gX1_weaves_X1_stopsAt rfl rfl rfl (by decide +kernel) ⟨Nat.le_of_ble_eq_true rfl, Nat.le_of_ble_eq_true rfl⟩) (pK_V hK (va_recv hK hP (ci := 1) (q0 := 0) rfl rfl)) rfl rfl hl.1 rfl (lv_room (Nat.le_of_ble_eq_true rfl)) dX1_weaves_186 ⟨Nat.le_of_ble_eq_true rfl, Nat.le_of_ble_eq_true rfl⟩) hS (fun q _ h => hFc q h) hFc (fun r186 u t H1 locs ht hvm hw hB hz1 hk1 hS => ?_)
                        obtain ⟨k186, z186, q186⟩ := u
                        dsimp only at hw
                        have hP : va_P (dC, dI) vwCl (wM cyI cyZ p0 p1 p2 p3 p4 mn (upd (upd me (64 * (2 * 1) + j) (ft 1 ((y130 + 1)))) (64 * (2 * 2) + j) (ft 2 ((y161 + 2)))) (upd ml (((40 * ro) + j)) (me ((64 * (2 * 0) + j)))) mt th wo mr mo k186 z186 q186) t.heap := hB
                        rw [ht] at hP
                        have hD : va_D A (wM cyI cyZ p0 p1 p2 p3 p4 mn (upd (upd me (64 * (2 * 1) + j) (ft 1 ((y130 + 1)))) (64 * (2 * 2) + j) (ft 2 ((y161 + 2)))) (upd ml (((40 * ro) + j)) (me ((64 * (2 * 0) + j)))) mt th wo mr mo k186 z186 q186) := wM_D hD
                        clear hB
                        generalize H1 = H at hP hS ⊢
                        refine lv_if_eq (tgt := 194) hx hb dX1_weaves_189 (by decide) (fun hq186 => ?_) (fun hq186 => ?_)
                        · skip
                          have hc : nI j < mn (2 * 4) ∧ k186 = mk ∧ z186 = mz ∧ q186 = mq := by rcases hw with ⟨a1, a2, a3⟩ | ⟨a1, a2, a3⟩; exact ⟨a1, a3⟩; exact absurd (a2.symm.trans hq186) (by decide)
                          rw [hc.2.1, hc.2.2.1, hc.2.2.2] at hP hD
                          have f4 := hc.1
                          refine lv_aload_n hx hb dX1_weaves_194 rfl (lv_at hl 4 rfl) ?_
                          refine lv_iconst (v := nI 4) hx hb dX1_weaves_195 (by decide) ?_
                          refine lv_iload_n hx hb dX1_weaves_196 rfl (lv_at hl 6 rfl) ?_
                          refine lv_aload_n hx hb dX1_weaves_197 rfl (lv_at hl 4 rfl) ?_
                          refine va_get (D := (dC, dI)) (ci := 1) (v := .ref p2) (C := RX1) (T := TX1) (N := 11) hx hb hts iw hown hK hP 0 rfl rfl 2 (by decide) (hts (.fieldLink RX1 13 "ReelLoomModel" "cells" "[I") (by decide +kernel)) (fun _ h9 => h9) rfl dX1_weaves_198 ?_
                          refine lv_iconst (v := nI 4) hx hb dX1_weaves_201 (by decide) ?_
                          refine lv_iload_n hx hb dX1_weaves_202 rfl (lv_at hl 6 rfl) ?_
                          refine gx_calli (va_runS (As := [.int (nI 4), .int (nI j)]) (rest := [.ref p2, .int (nI j), .int (nI 4), .ref p0]) ⟨hx, hb, hml, hown, hts⟩ (k_X1_at l dC dI  _   4 j ) (va_cwS 2 hts gX1_weaves_X1_at rfl rfl rfl (by decide +kernel) ⟨Nat.le_of_ble_eq_true rfl, Nat.le_of_ble_eq_true rfl⟩) (pK_S (hK.sub (tys' := []) [] rfl)) rfl rfl hl.1 rfl (lv_room (Nat.le_of_ble_eq_true rfl)) dX1_weaves_203 ⟨Nat.le_of_ble_eq_true rfl, Nat.le_of_ble_eq_true rfl⟩) (fun r_42 hr_42 => ?_)
                          subst hr_42
                          refine va_iald hx hb hK hP 2 0 rfl rfl (vp_in_nI (by omega) (by omega)) dX1_weaves_206 ?_
                          rw [nI_clamp (show (64 * (2 * 4) + j) < 2 ^ 31 by omega)]
                          refine lv_topi (fun y206 ey206 => ?_)
                          refine lv_iconst (v := 1) hx hb dX1_weaves_207 (by decide) ?_
                          refine lv_iadd hx hb dX1_weaves_208 ?_
                          have hFc := va_free (wc := wM cyI cyZ p0 p1 p2 p3 p4 mn (upd (upd me (64 * (2 * 1) + j) (ft 1 ((y130 + 1)))) (64 * (2 * 2) + j) (ft 2 ((y161 + 2)))) (upd ml (((40 * ro) + j)) (me ((64 * (2 * 0) + j)))) mt th wo mr mo mk mz mq) hD hS hA [0, 1, 2, 3, 4] rfl
                          refine va_calli (va_runV (As := [.int (nI 4), .int (nI j), .int (y206 + 1)]) (rest := []) ⟨hx, hb, hml, hown, hts⟩ (k_X1_put l dC dI cyI cyZ _ p0 p1 p2 p3 p4 mn (upd (upd me (64 * (2 * 1) + j) (ft 1 ((y130 + 1)))) (64 * (2 * 2) + j) (ft 2 ((y161 + 2)))) (upd ml (((40 * ro) + j)) (me ((64 * (2 * 0) + j)))) mt th wo mr mo mk mz mq hP (hD.weaken (fun _ _ _ _ => trivial)) 4 j (y206 + 1) (by omega) (by omega)) (cwV 3 hts gX1_weaves_X1_put rfl rfl rfl (by decide +kernel) ⟨Nat.le_of_ble_eq_true rfl, Nat.le_of_ble_eq_true rfl⟩) (pK_V hK (va_recv hK hP (ci := 1) (q0 := 0) rfl rfl)) rfl rfl hl.1 rfl (lv_room (Nat.le_of_ble_eq_true rfl)) dX1_weaves_209 ⟨Nat.le_of_ble_eq_true rfl, Nat.le_of_ble_eq_true rfl⟩) hS (fun q _ h => hFc q h) hFc (fun r_43 u t H1 locs ht hvm hw hB hz1 hk1 hS => ?_)
                          have hP : va_P (dC, dI) vwCl (wM cyI cyZ p0 p1 p2 p3 p4 mn (upd (upd (upd me (64 * (2 * 1) + j) (ft 1 ((y130 + 1)))) (64 * (2 * 2) + j) (ft 2 ((y161 + 2)))) (64 * (2 * 4) + j) (ft 4 ((y206 + 1)))) (upd ml (((40 * ro) + j)) (me ((64 * (2 * 0) + j)))) mt th wo mr mo mk mz mq) t.heap := hB
                          rw [ht] at hP
                          have hD : va_D A (wM cyI cyZ p0 p1 p2 p3 p4 mn (upd (upd (upd me (64 * (2 * 1) + j) (ft 1 ((y130 + 1)))) (64 * (2 * 2) + j) (ft 2 ((y161 + 2)))) (64 * (2 * 4) + j) (ft 4 ((y206 + 1)))) (upd ml (((40 * ro) + j)) (me ((64 * (2 * 0) + j)))) mt th wo mr mo mk mz mq) := wM_D hD
                          clear hB
                          generalize H1 = H at hP hS ⊢
                          refine lv_istore (lv' := [(8, .int r_43), (7, .int r_38), (6, .int r_33), (5, .int (me ((64 * (2 * 0) + j)))), (4, .int 1), (0, .ref p0), (1, .int (nI ro)), (2, .int (nI j)), (3, .int v)]) hx hb dX1_weaves_212 hl (by decide) rfl (fun ls hl => ?_)
                          refine lv_iconst (v := 1) hx hb dX1_weaves_214 (by decide) ?_
                          exact W.zret (v := 1) (ty := .boolean) hx hb hr rfl (fun t ht hW => ⟨⟨1, (upd (upd (upd me (64 * (2 * 1) + j) (ft 1 ((y130 + 1)))) (64 * (2 * 2) + j) (ft 2 ((y161 + 2)))) (64 * (2 * 4) + j) (ft 4 ((y206 + 1))), upd ml (((40 * ro) + j)) (me ((64 * (2 * 0) + j))), mk, mz, mq), rfl, Or.inr ⟨rfl, by unfold mcol; rw [if_neg (not_not_intro f3), if_neg (fun h => h.2 f0), if_neg (not_not_intro fr), if_neg (not_not_intro f1), if_neg (not_not_intro f2), if_neg (fun h => h.2 f4), if_pos h22, ey206, ey161, ey130]⟩, by show va_P (dC, dI) vwCl (wM cyI cyZ p0 p1 p2 p3 p4 mn (upd (upd (upd me (64 * (2 * 1) + j) (ft 1 ((y130 + 1)))) (64 * (2 * 2) + j) (ft 2 ((y161 + 2)))) (64 * (2 * 4) + j) (ft 4 ((y206 + 1)))) (upd ml (((40 * ro) + j)) (me ((64 * (2 * 0) + j)))) mt th wo mr mo mk mz mq) t.heap; rw [ht]; exact hP⟩, hS.F ht⟩) hS.2.2 dX1_weaves_215
                        · skip
                          have hc : ¬ nI j < mn (2 * 4) ∧ k186 = stM mn 4 ∧ z186 = nI 4 ∧ q186 = nI j := by rcases hw with ⟨a1, a2, a3⟩ | ⟨a1, a2, a3⟩; exact absurd a2 hq186; exact ⟨a1, a3⟩
                          rw [hc.2.1, hc.2.2.1, hc.2.2.2] at hP hD
                          have f4 := hc.1
                          refine lv_iconst (v := 0) hx hb dX1_weaves_192 (by decide) ?_
                          exact W.zret (v := 0) (ty := .boolean) hx hb hr rfl (fun t ht hW => ⟨⟨0, (upd (upd me (64 * (2 * 1) + j) (ft 1 ((y130 + 1)))) (64 * (2 * 2) + j) (ft 2 ((y161 + 2))), upd ml (((40 * ro) + j)) (me ((64 * (2 * 0) + j))), stM mn 4, nI 4, nI j), rfl, Or.inl ⟨rfl, by unfold mcol; rw [if_neg (not_not_intro f3), if_neg (fun h => h.2 f0), if_neg (not_not_intro fr), if_neg (not_not_intro f1), if_neg (not_not_intro f2), if_pos ⟨h22, f4⟩, ey161, ey130]⟩, by show va_P (dC, dI) vwCl (wM cyI cyZ p0 p1 p2 p3 p4 mn (upd (upd me (64 * (2 * 1) + j) (ft 1 ((y130 + 1)))) (64 * (2 * 2) + j) (ft 2 ((y161 + 2)))) (upd ml (((40 * ro) + j)) (me ((64 * (2 * 0) + j)))) mt th wo mr mo (stM mn 4) (nI 4) (nI j)) t.heap; rw [ht]; exact hP⟩, hS.F ht⟩) hS.2.2 dX1_weaves_193
                  · skip
                    have hc : ¬ nI j < mn (2 * 2) ∧ k141 = stM mn 2 ∧ z141 = nI 2 ∧ q141 = nI j := by rcases hw with ⟨a1, a2, a3⟩ | ⟨a1, a2, a3⟩; exact absurd a2 hq141; exact ⟨a1, a3⟩
                    rw [hc.2.1, hc.2.2.1, hc.2.2.2] at hP hD
                    have f2 := hc.1
                    refine lv_iconst (v := 0) hx hb dX1_weaves_147 (by decide) ?_
                    exact W.zret (v := 0) (ty := .boolean) hx hb hr rfl (fun t ht hW => ⟨⟨0, (upd me (64 * (2 * 1) + j) (ft 1 ((y130 + 1))), upd ml (((40 * ro) + j)) (me ((64 * (2 * 0) + j))), stM mn 2, nI 2, nI j), rfl, Or.inl ⟨rfl, by unfold mcol; rw [if_neg (not_not_intro f3), if_neg (fun h => h.2 f0), if_neg (not_not_intro fr), if_neg (not_not_intro f1), if_pos f2, if_pos h22, ey130]⟩, by show va_P (dC, dI) vwCl (wM cyI cyZ p0 p1 p2 p3 p4 mn (upd me (64 * (2 * 1) + j) (ft 1 ((y130 + 1)))) (upd ml (((40 * ro) + j)) (me ((64 * (2 * 0) + j)))) mt th wo mr mo (stM mn 2) (nI 2) (nI j)) t.heap; rw [ht]; exact hP⟩, hS.F ht⟩) hS.2.2 dX1_weaves_148
                · skip
                  have hc : ¬ nI j < mn (2 * 1) ∧ k110 = stM mn 1 ∧ z110 = nI 1 ∧ q110 = nI j := by rcases hw with ⟨a1, a2, a3⟩ | ⟨a1, a2, a3⟩; exact absurd a2 hq110; exact ⟨a1, a3⟩
                  rw [hc.2.1, hc.2.2.1, hc.2.2.2] at hP hD
                  have f1 := hc.1
                  refine lv_iconst (v := 0) hx hb dX1_weaves_116 (by decide) ?_
                  exact W.zret (v := 0) (ty := .boolean) hx hb hr rfl (fun t ht hW => ⟨⟨0, (me, upd ml (((40 * ro) + j)) (me ((64 * (2 * 0) + j))), stM mn 1, nI 1, nI j), rfl, Or.inl ⟨rfl, by unfold mcol; rw [if_neg (not_not_intro f3), if_neg (fun h => h.2 f0), if_neg (not_not_intro fr), if_pos f1, if_pos h22]⟩, by show va_P (dC, dI) vwCl (wM cyI cyZ p0 p1 p2 p3 p4 mn me (upd ml (((40 * ro) + j)) (me ((64 * (2 * 0) + j)))) mt th wo mr mo (stM mn 1) (nI 1) (nI j)) t.heap; rw [ht]; exact hP⟩, hS.F ht⟩) hS.2.2 dX1_weaves_117
              · skip
                exact False.elim (hw.elim (fun a => hq86 a.2.1) (fun a => a.1 rfl))
            · skip
              have fr := h76
              refine lv_iconst (v := 1) hx hb dX1_weaves_79 (by decide) ?_
              refine lv_goto (tgt := 84) hx hb dX1_weaves_80 (by decide) ?_
              refine lv_iconst (v := 5) hx hb dX1_weaves_84 (by decide) ?_
              refine lv_iload_n hx hb dX1_weaves_85 rfl (lv_at hl 4 rfl) ?_
              have hFc := va_free (wc := wM cyI cyZ p0 p1 p2 p3 p4 mn me ml mt th wo mr mo mk mz mq) hD hS hA [0, 1, 2, 3, 4] rfl
              refine va_calli (va_runV (As := [.int 1, .int 5, .int (nI j)]) (rest := []) ⟨hx, hb, hml, hown, hts⟩ (k_X1_stops l dC dI cyI cyZ _ p0 p1 p2 p3 p4 mn me ml mt th wo mr mo mk mz mq hP (hD.weaken (fun _ _ _ _ => trivial)) 1 5 (nI j) ) (cwV 3 hts gX1_weaves_X1_stops rfl rfl rfl (by decide +kernel) ⟨Nat.le_of_ble_eq_true rfl, Nat.le_of_ble_eq_true rfl⟩) (pK_V hK (va_recv hK hP (ci := 1) (q0 := 0) rfl rfl)) rfl rfl hl.1 rfl (lv_room (Nat.le_of_ble_eq_true rfl)) dX1_weaves_86 ⟨Nat.le_of_ble_eq_true rfl, Nat.le_of_ble_eq_true rfl⟩) hS (fun q _ h => hFc q h) hFc (fun r86 u t H1 locs ht hvm hw hB hz1 hk1 hS => ?_)
              obtain ⟨k86, z86, q86⟩ := u
              dsimp only at hw
              have hP : va_P (dC, dI) vwCl (wM cyI cyZ p0 p1 p2 p3 p4 mn me ml mt th wo mr mo k86 z86 q86) t.heap := hB
              rw [ht] at hP
              have hD : va_D A (wM cyI cyZ p0 p1 p2 p3 p4 mn me ml mt th wo mr mo k86 z86 q86) := wM_D hD
              clear hB
              generalize H1 = H at hP hS ⊢
              refine lv_if_eq (tgt := 94) hx hb dX1_weaves_89 (by decide) (fun hq86 => ?_) (fun hq86 => ?_)
              · skip
                exact absurd (hw.elim (fun a => absurd a.1 (by decide)) (fun a => a.2.1.symm.trans hq86)) (by decide)
              · skip
                have hc : k86 = 1 ∧ z86 = 5 ∧ q86 = nI j := by rcases hw with ⟨a1, a2, a3⟩ | ⟨a1, a2, a3⟩; exact absurd a1 (by decide); exact a3
                rw [hc.1, hc.2.1, hc.2.2] at hP hD
                refine lv_iconst (v := 0) hx hb dX1_weaves_92 (by decide) ?_
                exact W.zret (v := 0) (ty := .boolean) hx hb hr rfl (fun t ht hW => ⟨⟨0, (me, ml, 1, 5, nI j), rfl, Or.inl ⟨rfl, by unfold mcol; rw [if_neg (not_not_intro f3), if_neg (fun h => h.2 f0), if_pos fr]⟩, by show va_P (dC, dI) vwCl (wM cyI cyZ p0 p1 p2 p3 p4 mn me ml mt th wo mr mo 1 5 (nI j)) t.heap; rw [ht]; exact hP⟩, hS.F ht⟩) hS.2.2 dX1_weaves_93
        · skip
          have hc : ¬ nI j < mn (2 * 0) ∧ k40 = stM mn 0 ∧ z40 = nI 0 ∧ q40 = nI j := by rcases hw with ⟨a1, a2, a3⟩ | ⟨a1, a2, a3⟩; exact absurd a2 hq40; exact ⟨a1, a3⟩
          rw [hc.2.1, hc.2.2.1, hc.2.2.2] at hP hD
          have f0 := hc.1
          refine lv_iconst (v := 0) hx hb dX1_weaves_46 (by decide) ?_
          exact W.zret (v := 0) (ty := .boolean) hx hb hr rfl (fun t ht hW => ⟨⟨0, (me, ml, stM mn 0, nI 0, nI j), rfl, Or.inl ⟨rfl, by unfold mcol; rw [if_neg (not_not_intro f3), if_pos ⟨h22, f0⟩]⟩, by show va_P (dC, dI) vwCl (wM cyI cyZ p0 p1 p2 p3 p4 mn me ml mt th wo mr mo (stM mn 0) (nI 0) (nI j)) t.heap; rw [ht]; exact hP⟩, hS.F ht⟩) hS.2.2 dX1_weaves_47
  · skip
    have hc : ¬ nI j < mn (2 * 3) ∧ k3 = stM mn 3 ∧ z3 = nI 3 ∧ q3 = nI j := by rcases hw with ⟨a1, a2, a3⟩ | ⟨a1, a2, a3⟩; exact absurd a2 hq3; exact ⟨a1, a3⟩
    rw [hc.2.1, hc.2.2.1, hc.2.2.2] at hP hD
    have f3 := hc.1
    refine lv_iconst (v := 0) hx hb dX1_weaves_9 (by decide) ?_
    exact W.zret (v := 0) (ty := .boolean) hx hb hr rfl (fun t ht hW => ⟨⟨0, (me, ml, stM mn 3, nI 3, nI j), rfl, Or.inl ⟨rfl, by unfold mcol; rw [if_pos f3]⟩, by show va_P (dC, dI) vwCl (wM cyI cyZ p0 p1 p2 p3 p4 mn me ml mt th wo mr mo (stM mn 3) (nI 3) (nI j)) t.heap; rw [ht]; exact hP⟩, hS.F ht⟩) hS.2.2 dX1_weaves_10
