/-! the pure words -/
/-- what 'combined' and 'altered' answer -/
def cb (a h v : Int32) : Int32 := if h = 0 then a + v else if h = 1 then a - v else if h = 2 then a * v else if h = 3 then a &&& v else if h = 4 then a ||| v else if h = 5 then a ^^^ v else if h = 6 then a <<< (v &&& 31) else if h = 7 then a >>> (v &&& 31) else (a.toUInt32 >>> (v.toUInt32 &&& Int32.toUInt32 31)).toInt32
def mm (v : Int32) : Int32 := if -800000 < (if v < 800000 then v else 800000) then (if v < 800000 then v else 800000) else -800000
/-- what a cell of the sort has once v is put into it -/
def ft (so : Nat) (v : Int32) : Int32 := match so with
  | 0 => v &&& 65535
  | 1 => v.toInt16.toInt32
  | 2 => mm v
  | 3 => if v = 0 then 0 else 1
  | _ => v.toInt8.toInt32
/-- n cells from b on are x -/
def fl (f : Nat → Int32) (b : Nat) (x : Int32) : Nat → (Nat → Int32)
  | 0 => f
  | n + 1 => upd (fl f b x n) (b + n) x
def fa (f : Nat → Int32) (x : Int32) : Nat → (Nat → Int32)
  | 0 => f
  | n + 1 => upd (fa f x n) n x
theorem sw8 (h : Int32) : h = 0 ∨ h = 1 ∨ h = 2 ∨ h = 3 ∨ h = 4 ∨ h = 5 ∨ h = 6 ∨ h = 7 ∨ (h.toInt < 0 ∨ 7 < h.toInt) := by
  by_cases a : h.toInt < 0 ∨ 7 < h.toInt
  · simp [a]
  · have key : ∀ k : Int32, h.toInt = k.toInt → h = k := fun k e => Int32.toInt_inj.mp e
    have a0 : h.toInt = 0 ∨ h.toInt = 1 ∨ h.toInt = 2 ∨ h.toInt = 3 ∨ h.toInt = 4 ∨ h.toInt = 5 ∨ h.toInt = 6 ∨ h.toInt = 7 := by omega
    rcases a0 with e | e | e | e | e | e | e | e
    · exact Or.inl (key 0 e)
    · exact Or.inr (Or.inl (key 1 e))
    · exact Or.inr (Or.inr (Or.inl (key 2 e)))
    · exact Or.inr (Or.inr (Or.inr (Or.inl (key 3 e))))
    · exact Or.inr (Or.inr (Or.inr (Or.inr (Or.inl (key 4 e)))))
    · exact Or.inr (Or.inr (Or.inr (Or.inr (Or.inr (Or.inl (key 5 e))))))
    · exact Or.inr (Or.inr (Or.inr (Or.inr (Or.inr (Or.inr (Or.inl (key 6 e)))))))
    · exact Or.inr (Or.inr (Or.inr (Or.inr (Or.inr (Or.inr (Or.inr (Or.inl (key 7 e))))))))
theorem cb_out {a h v : Int32} (o : h.toInt < 0 ∨ 7 < h.toInt) : (a.toUInt32 >>> (v.toUInt32 &&& Int32.toUInt32 31)).toInt32 = cb a h v := by
  have n : ∀ k : Int32, 0 ≤ k.toInt → k.toInt ≤ 7 → ¬ h = k := fun k h0 h7 e => by subst e; omega
  unfold cb
  rw [if_neg (n 0 (by decide) (by decide)), if_neg (n 1 (by decide) (by decide)), if_neg (n 2 (by decide) (by decide)), if_neg (n 3 (by decide) (by decide)), if_neg (n 4 (by decide) (by decide)), if_neg (n 5 (by decide) (by decide)), if_neg (n 6 (by decide) (by decide)), if_neg (n 7 (by decide) (by decide))]
/-- a number from 0 to n - 1 -/
theorem in_of {x : Int32} {n : Nat} (hn : n < 2 ^ 31) (h0 : ¬ x < 0) (h1 : x < nI n) : ∃ j : Nat, j < n ∧ x = nI j := by
  obtain ⟨j, hj, rfl⟩ := nI_of h0
  exact ⟨j, (nI_ltI hj hn).mp h1, rfl⟩
theorem in_not {x : Int32} {n : Nat} (hn : n < 2 ^ 31) (h : x < 0 ∨ ¬ x < nI n) : ¬ ∃ j : Nat, j < n ∧ x = nI j := by
  rintro ⟨j, hj, rfl⟩
  rcases h with h | h
  · exact nI_pos (by omega) h
  · exact h (nI_lt hj hn)
set_option maxHeartbeats 4000000 in
set_option maxRecDepth 100000 in
theorem k_X0_reelIndex (l : Launch) (dC : Nat → ClassId) (dI : Nat → Nat → Nat)  (H0 : Heap)   (a : Nat) (b : Nat)  : Met l yX0_reelIndex wsX0_reelIndex ({ frames := 0, cells := 0, slots := 0, locals := 0 }) (va_Pc [.int (nI a), .int (nI b)] (pK dC dI ([]) H0)) (gx_Qi (fun r : Int32 => r = nI (a * 64 + b)) H0) 0 0 (gx_new H0) := by
  refine Met.ofW (cc := cX0_reelIndex) (maxL := 2) (ret := (some .int)) (by decide) rfl ?_
  intro p e s m args below meth c s₁ B hml hv
  obtain ⟨rfl, rfl, hK⟩ := hv
  have hx := B.exec
  have hb := B.bytes
  have hr := B.returns
  have hts := atoms_spec (ws := wsX0_reelIndex) B.pre
  have hown : s.vm.findClass RX0 = some m.cls := findClass_of_methodNamed B.named
  have hlocks := B.notSynchronized
  generalize hAe : (gx_new s.heap) = A at ⊢
  have hA : ∀ q : Nat, s.heap.size ≤ q → A q := fun q h => by rw [← hAe]; exact h
  have hS : va_S A s.heap s.heap [] := va_S.rf
  have hl := lv_entry ([.int (nI a), .int (nI b)]) (n := 2) (Nat.le_of_ble_eq_true rfl)
  rw [lg_entry_eq]
  generalize (lg_sl ([.int (nI a), .int (nI b)]) ++ List.replicate (2 - (lg_sl ([.int (nI a), .int (nI b)])).length) Slot.unset).toArray = ls at hl ⊢
  have hl : lv_has ls 2 [(0, .int (nI a)), (1, .int (nI b))] := hl
  refine lv_iload_n hx hb dX0_reelIndex_0 rfl (lv_at hl 0 rfl) ?_
  refine lv_bipush (v := nI 64) hx hb dX0_reelIndex_1 (by decide) ?_
  refine lv_imul hx hb dX0_reelIndex_3 ?_
  refine lv_iload_n hx hb dX0_reelIndex_4 rfl (lv_at hl 1 rfl) ?_
  refine lv_iadd hx hb dX0_reelIndex_5 ?_
  exact W.iret (v := (((nI a) * (nI 64)) + (nI b))) hx hb hr (fun t ht hW => ⟨(((nI a) * (nI 64)) + (nI b)), rfl, by rw [pk_mul, nI_add], ht⟩) hS.2.2 dX0_reelIndex_6
set_option maxHeartbeats 4000000 in
set_option maxRecDepth 100000 in
theorem k_X0_clothIndex (l : Launch) (dC : Nat → ClassId) (dI : Nat → Nat → Nat)  (H0 : Heap)   (a : Nat) (b : Nat)  : Met l yX0_clothIndex wsX0_clothIndex ({ frames := 0, cells := 0, slots := 0, locals := 0 }) (va_Pc [.int (nI a), .int (nI b)] (pK dC dI ([]) H0)) (gx_Qi (fun r : Int32 => r = nI (a * 40 + b)) H0) 0 0 (gx_new H0) := by
  refine Met.ofW (cc := cX0_clothIndex) (maxL := 2) (ret := (some .int)) (by decide) rfl ?_
  intro p e s m args below meth c s₁ B hml hv
  obtain ⟨rfl, rfl, hK⟩ := hv
  have hx := B.exec
  have hb := B.bytes
  have hr := B.returns
  have hts := atoms_spec (ws := wsX0_clothIndex) B.pre
  have hown : s.vm.findClass RX0 = some m.cls := findClass_of_methodNamed B.named
  have hlocks := B.notSynchronized
  generalize hAe : (gx_new s.heap) = A at ⊢
  have hA : ∀ q : Nat, s.heap.size ≤ q → A q := fun q h => by rw [← hAe]; exact h
  have hS : va_S A s.heap s.heap [] := va_S.rf
  have hl := lv_entry ([.int (nI a), .int (nI b)]) (n := 2) (Nat.le_of_ble_eq_true rfl)
  rw [lg_entry_eq]
  generalize (lg_sl ([.int (nI a), .int (nI b)]) ++ List.replicate (2 - (lg_sl ([.int (nI a), .int (nI b)])).length) Slot.unset).toArray = ls at hl ⊢
  have hl : lv_has ls 2 [(0, .int (nI a)), (1, .int (nI b))] := hl
  refine lv_iload_n hx hb dX0_clothIndex_0 rfl (lv_at hl 0 rfl) ?_
  refine lv_bipush (v := nI 40) hx hb dX0_clothIndex_1 (by decide) ?_
  refine lv_imul hx hb dX0_clothIndex_3 ?_
  refine lv_iload_n hx hb dX0_clothIndex_4 rfl (lv_at hl 1 rfl) ?_
  refine lv_iadd hx hb dX0_clothIndex_5 ?_
  exact W.iret (v := (((nI a) * (nI 40)) + (nI b))) hx hb hr (fun t ht hW => ⟨(((nI a) * (nI 40)) + (nI b)), rfl, by rw [pk_mul, nI_add], ht⟩) hS.2.2 dX0_clothIndex_6
set_option maxHeartbeats 4000000 in
set_option maxRecDepth 100000 in
theorem k_X0_combined (l : Launch) (dC : Nat → ClassId) (dI : Nat → Nat → Nat)  (H0 : Heap)   (a : Int32) (h : Int32) (v : Int32)  : Met l yX0_combined wsX0_combined ({ frames := 0, cells := 0, slots := 0, locals := 0 }) (va_Pc [.int a, .int h, .int v] (pK dC dI ([]) H0)) (gx_Qi (fun r : Int32 => r = cb a h v) H0) 0 0 (gx_new H0) := by
  refine Met.ofW (cc := cX0_combined) (maxL := 3) (ret := (some .int)) (by decide) rfl ?_
  intro p e s m args below meth c s₁ B hml hv
  obtain ⟨rfl, rfl, hK⟩ := hv
  have hx := B.exec
  have hb := B.bytes
  have hr := B.returns
  have hts := atoms_spec (ws := wsX0_combined) B.pre
  have hown : s.vm.findClass RX0 = some m.cls := findClass_of_methodNamed B.named
  have hlocks := B.notSynchronized
  generalize hAe : (gx_new s.heap) = A at ⊢
  have hA : ∀ q : Nat, s.heap.size ≤ q → A q := fun q h => by rw [← hAe]; exact h
  have hS : va_S A s.heap s.heap [] := va_S.rf
  have hl := lv_entry ([.int a, .int h, .int v]) (n := 3) (Nat.le_of_ble_eq_true rfl)
  rw [lg_entry_eq]
  generalize (lg_sl ([.int a, .int h, .int v]) ++ List.replicate (3 - (lg_sl ([.int a, .int h, .int v])).length) Slot.unset).toArray = ls at hl ⊢
  have hl : lv_has ls 3 [(0, .int a), (1, .int h), (2, .int v)] := hl
  refine lv_iload_n hx hb dX0_combined_0 rfl (lv_at hl 1 rfl) ?_
  rcases sw8 h with rfl | rfl | rfl | rfl | rfl | rfl | rfl | rfl | hout
  · skip
    refine lv_tableIn (off := 47) (tgt := 48) hx hb dX0_combined_1 (by decide +kernel) (by decide +kernel) (by decide +kernel) (by decide) ?_
    refine lv_iload_n hx hb dX0_combined_48 rfl (lv_at hl 0 rfl) ?_
    refine lv_iload_n hx hb dX0_combined_49 rfl (lv_at hl 2 rfl) ?_
    refine lv_iadd hx hb dX0_combined_50 ?_
    exact W.iret (v := (a + v)) hx hb hr (fun t ht hW => ⟨(a + v), rfl, by rfl, ht⟩) hS.2.2 dX0_combined_51
  · skip
    refine lv_tableIn (off := 51) (tgt := 52) hx hb dX0_combined_1 (by decide +kernel) (by decide +kernel) (by decide +kernel) (by decide) ?_
    refine lv_iload_n hx hb dX0_combined_52 rfl (lv_at hl 0 rfl) ?_
    refine lv_iload_n hx hb dX0_combined_53 rfl (lv_at hl 2 rfl) ?_
    refine lv_isub hx hb dX0_combined_54 ?_
    exact W.iret (v := (a - v)) hx hb hr (fun t ht hW => ⟨(a - v), rfl, by rfl, ht⟩) hS.2.2 dX0_combined_55
  · skip
    refine lv_tableIn (off := 55) (tgt := 56) hx hb dX0_combined_1 (by decide +kernel) (by decide +kernel) (by decide +kernel) (by decide) ?_
    refine lv_iload_n hx hb dX0_combined_56 rfl (lv_at hl 0 rfl) ?_
    refine lv_iload_n hx hb dX0_combined_57 rfl (lv_at hl 2 rfl) ?_
    refine lv_imul hx hb dX0_combined_58 ?_
    exact W.iret (v := (a * v)) hx hb hr (fun t ht hW => ⟨(a * v), rfl, by rfl, ht⟩) hS.2.2 dX0_combined_59
  · skip
    refine lv_tableIn (off := 59) (tgt := 60) hx hb dX0_combined_1 (by decide +kernel) (by decide +kernel) (by decide +kernel) (by decide) ?_
    refine lv_iload_n hx hb dX0_combined_60 rfl (lv_at hl 0 rfl) ?_
    refine lv_iload_n hx hb dX0_combined_61 rfl (lv_at hl 2 rfl) ?_
    refine lv_iand hx hb dX0_combined_62 ?_
    exact W.iret (v := (a &&& v)) hx hb hr (fun t ht hW => ⟨(a &&& v), rfl, by rfl, ht⟩) hS.2.2 dX0_combined_63
  · skip
    refine lv_tableIn (off := 63) (tgt := 64) hx hb dX0_combined_1 (by decide +kernel) (by decide +kernel) (by decide +kernel) (by decide) ?_
    refine lv_iload_n hx hb dX0_combined_64 rfl (lv_at hl 0 rfl) ?_
    refine lv_iload_n hx hb dX0_combined_65 rfl (lv_at hl 2 rfl) ?_
    refine lv_ior hx hb dX0_combined_66 ?_
    exact W.iret (v := (a ||| v)) hx hb hr (fun t ht hW => ⟨(a ||| v), rfl, by rfl, ht⟩) hS.2.2 dX0_combined_67
  · skip
    refine lv_tableIn (off := 67) (tgt := 68) hx hb dX0_combined_1 (by decide +kernel) (by decide +kernel) (by decide +kernel) (by decide) ?_
    refine lv_iload_n hx hb dX0_combined_68 rfl (lv_at hl 0 rfl) ?_
    refine lv_iload_n hx hb dX0_combined_69 rfl (lv_at hl 2 rfl) ?_
    refine lv_ixor hx hb dX0_combined_70 ?_
    exact W.iret (v := (a ^^^ v)) hx hb hr (fun t ht hW => ⟨(a ^^^ v), rfl, by rfl, ht⟩) hS.2.2 dX0_combined_71
  · skip
    refine lv_tableIn (off := 71) (tgt := 72) hx hb dX0_combined_1 (by decide +kernel) (by decide +kernel) (by decide +kernel) (by decide) ?_
    refine lv_iload_n hx hb dX0_combined_72 rfl (lv_at hl 0 rfl) ?_
    refine lv_iload_n hx hb dX0_combined_73 rfl (lv_at hl 2 rfl) ?_
    refine lv_ishl hx hb dX0_combined_74 ?_
    exact W.iret (v := (a <<< (v &&& 31))) hx hb hr (fun t ht hW => ⟨(a <<< (v &&& 31)), rfl, by rfl, ht⟩) hS.2.2 dX0_combined_75
  · skip
    refine lv_tableIn (off := 75) (tgt := 76) hx hb dX0_combined_1 (by decide +kernel) (by decide +kernel) (by decide +kernel) (by decide) ?_
    refine lv_iload_n hx hb dX0_combined_76 rfl (lv_at hl 0 rfl) ?_
    refine lv_iload_n hx hb dX0_combined_77 rfl (lv_at hl 2 rfl) ?_
    refine lv_ishr hx hb dX0_combined_78 ?_
    exact W.iret (v := (a >>> (v &&& 31))) hx hb hr (fun t ht hW => ⟨(a >>> (v &&& 31)), rfl, by rfl, ht⟩) hS.2.2 dX0_combined_79
  · skip
    refine lv_tableOut (tgt := 80) hx hb dX0_combined_1 hout (by decide) ?_
    refine lv_iload_n hx hb dX0_combined_80 rfl (lv_at hl 0 rfl) ?_
    refine lv_iload_n hx hb dX0_combined_81 rfl (lv_at hl 2 rfl) ?_
    refine lv_iushr hx hb dX0_combined_82 rfl ?_
    exact W.iret (v := ((a.toUInt32 >>> (v.toUInt32 &&& Int32.toUInt32 31)).toInt32)) hx hb hr (fun t ht hW => ⟨((a.toUInt32 >>> (v.toUInt32 &&& Int32.toUInt32 31)).toInt32), rfl, cb_out hout, ht⟩) hS.2.2 dX0_combined_83
set_option maxHeartbeats 4000000 in
set_option maxRecDepth 100000 in
theorem k_X0_fitted (l : Launch) (dC : Nat → ClassId) (dI : Nat → Nat → Nat)  (H0 : Heap)   (so : Nat) (v : Int32) (hso : so < 5) : Met l yX0_fitted wsX0_fitted ({ frames := 1, cells := 0, slots := 0, locals := 24 }) (va_Pc [.int (nI so), .int v] (pK dC dI ([]) H0)) (gx_Qi (fun r : Int32 => r = ft so v) H0) 0 0 (gx_new H0) := by
  refine Met.ofW (cc := cX0_fitted) (maxL := 2) (ret := (some .int)) (by decide) rfl ?_
  intro p e s m args below meth c s₁ B hml hv
  obtain ⟨rfl, rfl, hK⟩ := hv
  have hx := B.exec
  have hb := B.bytes
  have hr := B.returns
  have hts := atoms_spec (ws := wsX0_fitted) B.pre
  have hown : s.vm.findClass RX0 = some m.cls := findClass_of_methodNamed B.named
  have hlocks := B.notSynchronized
  generalize hAe : (gx_new s.heap) = A at ⊢
  have hA : ∀ q : Nat, s.heap.size ≤ q → A q := fun q h => by rw [← hAe]; exact h
  have hS : va_S A s.heap s.heap [] := va_S.rf
  have hl := lv_entry ([.int (nI so), .int v]) (n := 2) (Nat.le_of_ble_eq_true rfl)
  rw [lg_entry_eq]
  generalize (lg_sl ([.int (nI so), .int v]) ++ List.replicate (2 - (lg_sl ([.int (nI so), .int v])).length) Slot.unset).toArray = ls at hl ⊢
  have hl : lv_has ls 2 [(0, .int (nI so)), (1, .int v)] := hl
  refine lv_iload_n hx hb dX0_fitted_0 rfl (lv_at hl 0 rfl) ?_
  rcases (show so = 0 ∨ so = 1 ∨ so = 2 ∨ so = 3 ∨ so = 4 by omega) with rfl | rfl | rfl | rfl | rfl
  · skip
    refine lv_tableIn (off := 31) (tgt := 32) hx hb dX0_fitted_1 (by decide +kernel) (by decide +kernel) (by decide +kernel) (by decide) ?_
    refine lv_iload_n hx hb dX0_fitted_32 rfl (lv_at hl 1 rfl) ?_
    refine lv_ldc (v := 65535) hx hb hown (hts (.constant RX0 94 (65535)) (by decide +kernel)) dX0_fitted_33 ?_
    refine lv_iand hx hb dX0_fitted_35 ?_
    exact W.iret (v := (v &&& 65535)) hx hb hr (fun t ht hW => ⟨(v &&& 65535), rfl, rfl, ht⟩) hS.2.2 dX0_fitted_36
  · skip
    refine lv_tableIn (off := 36) (tgt := 37) hx hb dX0_fitted_1 (by decide +kernel) (by decide +kernel) (by decide +kernel) (by decide) ?_
    refine lv_iload_n hx hb dX0_fitted_37 rfl (lv_at hl 1 rfl) ?_
    refine lv_i2s hx hb dX0_fitted_38 rfl ?_
    exact W.iret (v := v.toInt16.toInt32) hx hb hr (fun t ht hW => ⟨v.toInt16.toInt32, rfl, rfl, ht⟩) hS.2.2 dX0_fitted_39
  · skip
    refine lv_tableIn (off := 39) (tgt := 40) hx hb dX0_fitted_1 (by decide +kernel) (by decide +kernel) (by decide +kernel) (by decide) ?_
    refine lv_ldc (v := -800000) hx hb hown (hts (.constant RX0 139 (-800000)) (by decide +kernel)) dX0_fitted_40 ?_
    refine lv_ldc (v := 800000) hx hb hown (hts (.constant RX0 140 (800000)) (by decide +kernel)) dX0_fitted_42 ?_
    refine lv_iload_n hx hb dX0_fitted_44 rfl (lv_at hl 1 rfl) ?_
    refine va_mmin hx hb (hml.trans hl.1.symm) hown (hts (.methodLink RX0 163 Lib.Math.min.name) (by decide +kernel)) (hts (.static Lib.Math.min.name) (by decide +kernel)) (hts (.initialized "java/lang/Math") (by decide +kernel)) (hts (.code Lib.Math.min.name Lib.Math.min.code 2 (some .int)) (by decide +kernel)) (by decide) (by decide) (by decide) (by decide) dX0_fitted_45 ?_
    refine va_mmax hx hb (hml.trans hl.1.symm) hown (hts (.methodLink RX0 168 Lib.Math.max.name) (by decide +kernel)) (hts (.static Lib.Math.max.name) (by decide +kernel)) (hts (.initialized "java/lang/Math") (by decide +kernel)) (hts (.code Lib.Math.max.name Lib.Math.max.code 2 (some .int)) (by decide +kernel)) (by decide) (by decide) (by decide) (by decide) dX0_fitted_48 ?_
    exact W.iret (v := (if -800000 < if v < 800000 then v else 800000 then if v < 800000 then v else 800000 else -800000)) hx hb hr (fun t ht hW => ⟨(if -800000 < if v < 800000 then v else 800000 then if v < 800000 then v else 800000 else -800000), rfl, rfl, ht⟩) hS.2.2 dX0_fitted_51
  · skip
    refine lv_tableIn (off := 51) (tgt := 52) hx hb dX0_fitted_1 (by decide +kernel) (by decide +kernel) (by decide +kernel) (by decide) ?_
    refine lv_iload_n hx hb dX0_fitted_52 rfl (lv_at hl 1 rfl) ?_
    refine lv_if_ne (tgt := 60) hx hb dX0_fitted_53 (by decide) (fun hv0 => ?_) (fun hv0 => ?_)
    · skip
      refine lv_iconst (v := 1) hx hb dX0_fitted_60 (by decide) ?_
      exact W.iret (v := 1) hx hb hr (fun t ht hW => ⟨1, rfl, by simp_all [ft], ht⟩) hS.2.2 dX0_fitted_61
    · skip
      refine lv_iconst (v := 0) hx hb dX0_fitted_56 (by decide) ?_
      refine lv_goto (tgt := 61) hx hb dX0_fitted_57 (by decide) ?_
      exact W.iret (v := 0) hx hb hr (fun t ht hW => ⟨0, rfl, by simp_all [ft], ht⟩) hS.2.2 dX0_fitted_61
  · skip
    refine lv_tableOut (tgt := 62) hx hb dX0_fitted_1 (by decide +kernel) (by decide) ?_
    refine lv_iload_n hx hb dX0_fitted_62 rfl (lv_at hl 1 rfl) ?_
    refine lv_i2b hx hb dX0_fitted_63 rfl ?_
    exact W.iret (v := v.toInt8.toInt32) hx hb hr (fun t ht hW => ⟨v.toInt8.toInt32, rfl, rfl, ht⟩) hS.2.2 dX0_fitted_64
set_option maxHeartbeats 4000000 in
set_option maxRecDepth 100000 in
theorem k_J7_fill_53178 (l : Launch) (dC : Nat → ClassId) (dI : Nat → Nat → Nat) (cyI : ClassId) (H0 : Heap) (a0 n0 : Nat) (f0 : Nat → Int32) (hP : va_P (dC, dI) vwCl ([(a0, .inl (cyI, n0, .inl f0))]) H0) (hD0 : va_D (fun _ => True) ([(a0, .inl (cyI, n0, .inl f0))])) (x : Int32) (hn : n0 < 100000) : Met l yJ7_fill_53178 wsJ7_fill_53178 ({ frames := 0, cells := 0, slots := 0, locals := 0 }) (va_Pc [.ref a0, .int x] (pK dC dI ([(cyI, .int)]) H0)) (va_Qv (fun _ : Unit => True) (fun (_ : Unit) (t : State) => va_P (dC, dI) vwCl ([(a0, .inl (cyI, n0, .inl (fa f0 x n0)))]) t.heap) (va_A ([(a0, .inl (cyI, n0, .inl f0))]) H0.size)) 0 0 (va_A ([(a0, .inl (cyI, n0, .inl f0))]) H0.size) := by
  refine Met.ofW (cc := cJ7_fill_53178) (maxL := 4) (ret := none) (by decide) rfl ?_
  intro p e s m args below meth c s₁ B hml hv
  obtain ⟨rfl, rfl, hK⟩ := hv
  have hx := B.exec
  have hb := B.bytes
  have hr := B.returns
  have hts := atoms_spec (ws := wsJ7_fill_53178) B.pre
  have hown : s.vm.findClass RJ7 = some m.cls := findClass_of_methodNamed B.named
  have hlocks := B.notSynchronized
  have hD := hD0.self (sz := s.heap.size)
  generalize hAe : (va_A ([(a0, .inl (cyI, n0, .inl f0))]) s.heap.size) = A at hD ⊢
  have hA : ∀ q : Nat, s.heap.size ≤ q → A q := fun q h => by rw [← hAe]; exact Or.inr h
  have hS : va_S A s.heap s.heap [] := va_S.rf
  have hl := lv_entry ([.ref a0, .int x]) (n := 4) (Nat.le_of_ble_eq_true rfl)
  rw [lg_entry_eq]
  generalize (lg_sl ([.ref a0, .int x]) ++ List.replicate (4 - (lg_sl ([.ref a0, .int x])).length) Slot.unset).toArray = ls at hl ⊢
  have hl : lv_has ls 4 [(0, .ref a0), (1, .int x)] := hl
  refine lv_iconst (v := nI 0) hx hb dJ7_fill_53178_0 (by decide) ?_
  refine lv_istore_n (lv' := [(2, .int (nI 0)), (0, .ref a0), (1, .int x)]) hx hb dJ7_fill_53178_1 rfl hl (by decide) rfl (fun ls hl => ?_)
  refine lv_aload_n hx hb dJ7_fill_53178_2 rfl (lv_at hl 1 rfl) ?_
  refine va_alen (v := nI n0) hx hb hK hP 0 0 rfl rfl rfl dJ7_fill_53178_3 ?_
  refine lv_istore_n (lv' := [(3, .int (nI n0)), (2, .int (nI 0)), (0, .ref a0), (1, .int x)]) hx hb dJ7_fill_53178_4 rfl hl (by decide) rfl (fun ls hl => ?_)
  refine lpW (N := n0) (I := fun i H locs ls => va_P (dC, dI) vwCl ([(a0, .inl (cyI, n0, .inl (fa f0 x i)))]) H ∧ va_D A ([(a0, .inl (cyI, n0, .inl (fa f0 x i)))]) ∧ va_S A s.heap H locs ∧ lv_has ls 4 [(3, .int (nI n0)), (2, .int (nI i)), (0, .ref a0), (1, .int x)]) (fun i hi H locs ls hI ih => ?_) (fun H locs ls hI => ?_) 0 (Nat.zero_le _) ⟨hP, hD, hS, lv_sub hl [0, 1, 2, 3] rfl⟩
  · skip
    obtain ⟨hP, hD, hS, hl⟩ := hI
    refine lv_iload_n hx hb dJ7_fill_53178_5 rfl (lv_at hl 1 rfl) ?_
    refine lv_iload_n hx hb dJ7_fill_53178_6 rfl (lv_at hl 0 rfl) ?_
    refine lv_icmp_ge (tgt := 20) hx hb dJ7_fill_53178_7 (by decide) (fun c_1 => ?_) (fun c_1 => ?_)
    · skip
      exact absurd c_1 (nI_ge (by omega) (by omega))
    · skip
      refine lv_aload_n hx hb dJ7_fill_53178_10 rfl (lv_at hl 2 rfl) ?_
      refine lv_iload_n hx hb dJ7_fill_53178_11 rfl (lv_at hl 1 rfl) ?_
      refine lv_iload_n hx hb dJ7_fill_53178_12 rfl (lv_at hl 3 rfl) ?_
      refine va_iast hx hb hK hP hD hS 0 0 rfl rfl (vp_in_nI (by omega) (by omega)) dJ7_fill_53178_13 (fun H locs hP hD hS => ?_)
      rw [nI_clamp (show i < 2 ^ 31 by omega)] at hP hD
      have hP : va_P (dC, dI) vwCl ([(a0, .inl (cyI, n0, .inl (fa f0 x (i + 1))))]) H := hP
      have hD : va_D A ([(a0, .inl (cyI, n0, .inl (fa f0 x (i + 1))))]) := hD
      refine lv_iinc (v := nI (i + 1)) (lv' := [(2, .int (nI (i + 1))), (3, .int (nI n0)), (0, .ref a0), (1, .int x)]) hx hb dJ7_fill_53178_14 hl (k := 1) rfl (nI_1 _) (by decide) rfl (fun ls hl => ?_)
      refine lv_goto (tgt := 5) hx hb dJ7_fill_53178_17 (by decide) ?_
      exact ih _ _ _ ⟨hP, hD, hS, lv_sub hl [1, 0, 2, 3] rfl⟩
  · skip
    obtain ⟨hP, hD, hS, hl⟩ := hI
    refine lv_iload_n hx hb dJ7_fill_53178_5 rfl (lv_at hl 1 rfl) ?_
    refine lv_iload_n hx hb dJ7_fill_53178_6 rfl (lv_at hl 0 rfl) ?_
    refine lv_icmp_ge (tgt := 20) hx hb dJ7_fill_53178_7 (by decide) (fun c_2 => ?_) (fun c_2 => ?_)
    · skip
      exact W.vret hx hb hr (fun t ht hW => ⟨⟨(), rfl, trivial, by show va_P (dC, dI) vwCl ([(a0, .inl (cyI, n0, .inl (fa f0 x n0)))]) t.heap; rw [ht]; exact hP⟩, hS.F ht⟩) hS.2.2 dJ7_fill_53178_20
    · skip
      exact absurd (nI_le (Nat.le_refl _) (by omega)) c_2
