def swp (f g : Nat → Int32) (b : Nat) : Nat → (Nat → Int32) × (Nat → Int32)
  | 0 => (f, g)
  | n + 1 => (upd (swp f g b n).1 (b + n) ((swp f g b n).2 (b + n)), upd (swp f g b n).2 (b + n) ((swp f g b n).1 (b + n)))
def cpn (f g : Nat → Int32) (b : Nat) : Nat → (Nat → Int32)
  | 0 => f
  | n + 1 => upd (cpn f g b n) (b + n) (g (b + n))
def opd (so : Nat) (v : Int32) : Int32 := if so = 3 then ft 3 v else v
def wI (wc : Nat → Int32) (so : Nat) (a : Int32) : Nat → Int32
  | 0 => a
  | n + 1 => wI wc so a n + (nI so + 1) * wc (so * 64 + n)
def wO (wc wl : Nat → Int32) : Nat → Int32
  | 0 => 0
  | n + 1 => wI wc n (wO wc wl n) (wl n).toNatClampNeg
def nOff (wl : Nat → Int32) : Nat → Int32
  | 0 => 0
  | n + 1 => if wl n = -1 then nOff wl n + 1 else nOff wl n
def nCut (ct : Nat → Int32) : Nat → Int32
  | 0 => 0
  | n + 1 => if ct n = 0 then nCut ct n else nCut ct n + 1
def nSame (cl : Nat → Int32) (ra rb : Nat) : Nat → Int32
  | 0 => 0
  | n + 1 => if cl (ra * 40 + n) = cl (rb * 40 + n) then nSame cl ra rb n + 1 else nSame cl ra rb n
/-- a pass from column j on, n columns left -/
def prun (wl ct : Nat → Int32) (ro : Nat) (v : Int32) : Nat → Nat → (Nat → Int32) → (Nat → Int32) → Int32 → Int32 → Nat × (Nat → Int32) × (Nat → Int32) × Int32 × Int32
  | 0, j, wc, cl, sk, ss => (j, wc, cl, sk, ss)
  | n + 1, j, wc, cl, sk, ss => match pcol wc wl cl ct sk ss ro j v with
    | (true, wc2, cl2, sk2, ss2) => prun wl ct ro v n (j + 1) wc2 cl2 sk2 ss2
    | (false, wc2, cl2, sk2, ss2) => (j, wc2, cl2, sk2, ss2)
/-- what a row lacks -/
def rlk (rw : Int32) (ct : Nat → Int32) (x : Int32) : Nat := if ¬ (¬ x < 0 ∧ x < rw) then 2 else if ¬ ct x.toNatClampNeg = 0 then 1 else 0
def lkR (rw : Int32) (ct : Nat → Int32) (x : Int32) : Nat := if rw = -1 then 1 else rlk rw ct x
def lkS (rw : Int32) (ct : Nat → Int32) (x y : Int32) : Nat := if rw = -1 then 1 else if ¬ rlk rw ct x = 0 then rlk rw ct x else rlk rw ct y
theorem toClamp (w : Int32) : w.toNatClampNeg = w.toInt.toNat := rfl
theorem w_last (w : Int32) : w ≤ nI w.toNatClampNeg := by
  have h : w.toNatClampNeg < 2 ^ 31 := by
    rw [toClamp]
    have := Int32.toInt_lt w
    omega
  rw [Int32.le_iff_toInt_le, nI_toInt h, toClamp]
  omega
theorem w_step {w : Int32} {i : Nat} (hi : i < w.toNatClampNeg) : ¬ w ≤ nI i := by
  rw [toClamp] at hi
  have := Int32.toInt_lt w
  rw [Int32.le_iff_toInt_le, nI_toInt (by omega)]
  omega
theorem w_le {w : Int32} {n : Nat} (hn : n < 2 ^ 31) (h : w ≤ nI n) : w.toNatClampNeg ≤ n := by
  rw [Int32.le_iff_toInt_le, nI_toInt hn] at h
  rw [toClamp]
  omega
theorem wlB {wl : Nat → Int32} {k : Nat} (hwl : ∀ k, k < 5 → wl k = -1 ∨ ∃ n : Nat, n ≤ 64 ∧ wl k = nI n) (hk : k < 5) : wl k ≤ nI 64 := by
  rcases hwl k hk with e | ⟨n, hn, e⟩
  · rw [e]; decide
  · rw [e]; exact nI_le hn (by decide)
theorem lkC_0 {rw co : Int32} {ct : Nat → Int32} {x y : Int32} (h : lkC rw co ct x y = 0) : ¬ rw = -1 ∧ (¬ x < 0 ∧ x < rw) ∧ ct x.toNatClampNeg = 0 ∧ (¬ y < 0 ∧ y < co) := by
  unfold lkC at h
  by_cases h1 : rw = -1
  · rw [if_pos h1] at h; cases h
  · rw [if_neg h1] at h
    by_cases h2 : ¬ (¬ x < 0 ∧ x < rw)
    · rw [if_pos h2] at h; cases h
    · rw [if_neg h2] at h
      by_cases h3 : ¬ ct x.toNatClampNeg = 0
      · rw [if_pos h3] at h; cases h
      · rw [if_neg h3] at h
        by_cases h4 : ¬ (¬ y < 0 ∧ y < co)
        · rw [if_pos h4] at h; cases h
        · exact ⟨h1, Decidable.not_not.mp h2, Decidable.not_not.mp h3, Decidable.not_not.mp h4⟩
theorem sw3 (h : Int32) : h = 0 ∨ h = 1 ∨ h = 2 ∨ (h.toInt < 0 ∨ 2 < h.toInt) := by
  by_cases a : h.toInt < 0 ∨ 2 < h.toInt
  · simp [a]
  · have key : ∀ k : Int32, h.toInt = k.toInt → h = k := fun k e => Int32.toInt_inj.mp e
    rcases (show h.toInt = 0 ∨ h.toInt = 1 ∨ h.toInt = 2 by omega) with e | e | e
    · exact Or.inl (key 0 e)
    · exact Or.inr (Or.inl (key 1 e))
    · exact Or.inr (Or.inr (Or.inl (key 2 e)))
theorem sw5 (h : Int32) : h = 0 ∨ h = 1 ∨ h = 2 ∨ h = 3 ∨ h = 4 ∨ (h.toInt < 0 ∨ 4 < h.toInt) := by
  by_cases a : h.toInt < 0 ∨ 4 < h.toInt
  · simp [a]
  · have key : ∀ k : Int32, h.toInt = k.toInt → h = k := fun k e => Int32.toInt_inj.mp e
    rcases (show h.toInt = 0 ∨ h.toInt = 1 ∨ h.toInt = 2 ∨ h.toInt = 3 ∨ h.toInt = 4 by omega) with e | e | e | e | e
    · exact Or.inl (key 0 e)
    · exact Or.inr (Or.inl (key 1 e))
    · exact Or.inr (Or.inr (Or.inl (key 2 e)))
    · exact Or.inr (Or.inr (Or.inr (Or.inl (key 3 e))))
    · exact Or.inr (Or.inr (Or.inr (Or.inr (Or.inl (key 4 e)))))
set_option maxHeartbeats 4000000 in
set_option maxRecDepth 100000 in
theorem k_X0_mount (l : Launch) (hst : l.stackTraces = false) (dC : Nat → ClassId) (dI : Nat → Nat → Nat) (cyI cyZ : ClassId) (H0 : Heap) (q0 q1 q2 q3 q4 q5 q6 : Nat) (wc wl sc sl cl ct : Nat → Int32) (rw co sk ss sq : Int32) (hP : va_P (dC, dI) vwCl (wX cyI cyZ q0 q1 q2 q3 q4 q5 q6 wc wl sc sl cl ct rw co sk ss sq) H0) (hD0 : va_D (fun _ => True) (wX cyI cyZ q0 q1 q2 q3 q4 q5 q6 wc wl sc sl cl ct rw co sk ss sq)) (x : Int32) (y : Int32)  : vx_Met l yX0_mount wsX0_mount ({ frames := 7, cells := 1, slots := 6, locals := 110 }) (va_Pc [.ref q0, .int x, .int y] (pZ dC dI (tyW cyI cyZ) H0 (va_A (wX cyI cyZ q0 q1 q2 q3 q4 q5 q6 wc wl sc sl cl ct rw co sk ss sq) H0.size))) (va_Qi (fun (r : Int32) (u : Nat × Nat) => match u with | (so, nn) => x = nI so ∧ so < 5 ∧ y = nI nn ∧ nn ≤ 64 ∧ r = wl so) (fun (u : Nat × Nat) (t : State) => match u with | (so, nn) => va_P (dC, dI) vwCl (wX cyI cyZ q0 q1 q2 q3 q4 q5 q6 (fl wc (so * 64) 0 nn) (upd wl so (nI nn)) sc sl cl ct rw co sk ss sq) t.heap) (va_A (wX cyI cyZ q0 q1 q2 q3 q4 q5 q6 wc wl sc sl cl ct rw co sk ss sq) H0.size)) (gx_X (fun E : String => E = eIA ∧ ¬ ((¬ x < 0 ∧ x < nI 5) ∧ ¬ y < 0 ∧ y ≤ nI 64)) H0) 1 6 (va_A (wX cyI cyZ q0 q1 q2 q3 q4 q5 q6 wc wl sc sl cl ct rw co sk ss sq) H0.size) := by
  refine vx_ofW (cc := cX0_mount) (maxL := 5) (ret := (some .int)) (by decide) rfl ?_
  intro p e s m args below meth c s₁ B hml hne hv
  obtain ⟨rfl, rfl, hK, hz⟩ := hv
  have hx := B.exec
  have hb := B.bytes
  have hr := B.returns
  have hts := atoms_spec (ws := wsX0_mount) B.pre
  have hown : s.vm.findClass RX0 = some m.cls := findClass_of_methodNamed B.named
  have hlocks := B.notSynchronized
  have hD := hD0.self (sz := s.heap.size)
  generalize hAe : (va_A (wX cyI cyZ q0 q1 q2 q3 q4 q5 q6 wc wl sc sl cl ct rw co sk ss sq) s.heap.size) = A at hD hz ⊢
  have hA : ∀ q : Nat, s.heap.size ≤ q → A q := fun q h => by rw [← hAe]; exact Or.inr h
  have hS : va_S A s.heap s.heap [] := va_S.rf
  have hl := lv_entry ([.ref q0, .int x, .int y]) (n := 5) (Nat.le_of_ble_eq_true rfl)
  rw [lg_entry_eq]
  generalize (lg_sl ([.ref q0, .int x, .int y]) ++ List.replicate (5 - (lg_sl ([.ref q0, .int x, .int y])).length) Slot.unset).toArray = ls at hl ⊢
  have hl : lv_has ls 5 [(0, .ref q0), (1, .int x), (2, .int y)] := hl
  have iw : ∀ w ∈ wsX00, w ∈ wsX0_mount := by decide +kernel
  refine lv_iload_n hx hb dX0_mount_0 rfl (lv_at hl 1 rfl) ?_
  refine gx_callv (vx_runS (As := [.int x]) (rest := []) ⟨hx, hb, hml, hown, hts⟩ (k_X0_requireSort l hst dC dI  _   x ) (va_cwS 1 hts gX0_mount_X0_requireSort rfl rfl rfl (by decide +kernel) ⟨Nat.le_of_ble_eq_true rfl, Nat.le_of_ble_eq_true rfl⟩) (pZ_S (hK.sub (tys' := []) [] rfl) hz hS (fun q h => hA q (Nat.le_trans hS.1 h))) rfl rfl hl.1 rfl (lv_room (Nat.le_of_ble_eq_true rfl)) dX0_mount_1 ⟨Nat.le_of_ble_eq_true rfl, Nat.le_of_ble_eq_true rfl⟩) hS (fun q h => hA q (Nat.le_trans hS.1 h)) (fun E ce q9 H1 locs1 hbad hz9 hk9 hS9 hce hcv hcl => ?_) (fun hok => ?_)
  · skip
    exact vx_out (fun y h => (hne y h).elim) hlocks hce hcv hcl (fun t ht _ => ⟨⟨hbad.1, fun h => hbad.2 h.1⟩, by rw [ht]; exact hz9, fun q hq => by rw [ht]; exact hk9 q hq⟩) hS9.2.2 (by decide) (by decide)
  · skip
    have hsx := hok
    obtain ⟨so, hso, rfl⟩ := in_of (n := 5) (by decide) hok.1 hok.2
    refine lv_iload_n hx hb dX0_mount_4 rfl (lv_at hl 2 rfl) ?_
    refine lv_if_lt (tgt := 14) hx hb dX0_mount_5 (by decide) (fun h5 => ?_) (fun h5 => ?_)
    · skip
      obtain ⟨sa, hsa⟩ := hz.2.2.2 57 "a reel has 0 to 64 cells" (by decide)
      exact vx_throwS hx hb hst (own := RX0) (cls := "java/lang/IllegalArgumentException") (text := "a reel has 0 to 64 cells") (names := zN) (ik := 55) (is := 57) (ic := 59) (sa := sa) (A := A) hown (by decide) (by decide) (hts (.classLink RX0 55 "java/lang/IllegalArgumentException") (by decide +kernel)) (hts (.initialized "java/lang/IllegalArgumentException") (by decide +kernel)) hsa (zHatIA hz (fun w h => hts w (List.mem_cons_of_mem _ (List.mem_append_right _ h)))) zGdIA hz.1 hz.2.1 hS (hl.1.trans hml.symm) dX0_mount_14 dX0_mount_17 dX0_mount_18 dX0_mount_20 dX0_mount_23 (fun y h => (hne y h).elim) (by decide) (by decide) (by decide) (by decide) hlocks (fun t hal hz9 hk9 => ⟨⟨rfl, fun h => by first | exact h.2.1 h5 | exact h11 h.2.2⟩, hz9, hk9⟩) hS.2.2 (by decide) (by decide)
    · skip
      refine lv_iload_n hx hb dX0_mount_8 rfl (lv_at hl 2 rfl) ?_
      refine lv_bipush (v := nI 64) hx hb dX0_mount_9 (by decide) ?_
      refine lv_icmp_le (tgt := 24) hx hb dX0_mount_11 (by decide) (fun h11 => ?_) (fun h11 => ?_)
      · skip
        obtain ⟨nn, hnn, rfl⟩ := in_le (n := 64) (by decide) h5 h11
        refine lv_aload_n hx hb dX0_mount_24 rfl (lv_at hl 0 rfl) ?_
        refine va_get (D := (dC, dI)) (ci := 0) (v := .ref q2) (C := RX0) (T := TX0) (N := 11) hx hb hts iw hown hK hP 0 rfl rfl 1 (by decide) (hts (.fieldLink RX0 13 "ReelLoom" "workingLength" "[I") (by decide +kernel)) (fun _ h9 => h9) rfl dX0_mount_25 ?_
        refine lv_iload_n hx hb dX0_mount_28 rfl (lv_at hl 1 rfl) ?_
        refine va_iald hx hb hK hP 2 0 rfl rfl (vp_in_nI (by omega) (by omega)) dX0_mount_29 ?_
        rw [nI_clamp (show so < 2 ^ 31 by omega)]
        refine lv_istore_n (lv' := [(3, .int (wl so)), (0, .ref q0), (1, .int (nI so)), (2, .int (nI nn))]) hx hb dX0_mount_30 rfl hl (by decide) rfl (fun ls hl => ?_)
        refine lv_iconst (v := nI 0) hx hb dX0_mount_31 (by decide) ?_
        refine lv_istore (lv' := [(4, .int (nI 0)), (3, .int (wl so)), (0, .ref q0), (1, .int (nI so)), (2, .int (nI nn))]) hx hb dX0_mount_32 hl (by decide) rfl (fun ls hl => ?_)
        refine lpW (N := nn) (I := fun i H locs ls => va_P (dC, dI) vwCl (wX cyI cyZ q0 q1 q2 q3 q4 q5 q6 (fl wc (so * 64) 0 i) wl sc sl cl ct rw co sk ss sq) H ∧ va_D A (wX cyI cyZ q0 q1 q2 q3 q4 q5 q6 (fl wc (so * 64) 0 i) wl sc sl cl ct rw co sk ss sq) ∧ va_S A s.heap H locs ∧ lv_has ls 5 [(4, .int (nI i)), (3, .int (wl so)), (0, .ref q0), (1, .int (nI so)), (2, .int (nI nn))]) (fun i hi H locs ls hI ih => ?_) (fun H locs ls hI => ?_) 0 (Nat.zero_le _) ⟨hP, hD, hS, lv_sub hl [0, 1, 2, 3, 4] rfl⟩
        · skip
          obtain ⟨hP, hD, hS, hl⟩ := hI
          refine lv_iload hx hb dX0_mount_34 (lv_at hl 0 rfl) ?_
          refine lv_iload_n hx hb dX0_mount_36 rfl (lv_at hl 4 rfl) ?_
          refine lv_icmp_ge (tgt := 58) hx hb dX0_mount_37 (by decide) (fun c_3 => ?_) (fun c_3 => ?_)
          · skip
            exact absurd c_3 (nI_ge (by omega) (by omega))
          · skip
            refine lv_aload_n hx hb dX0_mount_40 rfl (lv_at hl 2 rfl) ?_
            refine va_get (D := (dC, dI)) (ci := 0) (v := .ref q1) (C := RX0) (T := TX0) (N := 11) hx hb hts iw hown hK hP 0 rfl rfl 0 (by decide) (hts (.fieldLink RX0 9 "ReelLoom" "workingCells" "[I") (by decide +kernel)) (fun _ h9 => h9) rfl dX0_mount_41 ?_
            refine lv_iload_n hx hb dX0_mount_44 rfl (lv_at hl 3 rfl) ?_
            refine lv_iload hx hb dX0_mount_45 (lv_at hl 0 rfl) ?_
            refine gx_calli (va_runS (As := [.int (nI so), .int (nI i)]) (rest := [.ref q1]) ⟨hx, hb, hml, hown, hts⟩ (k_X0_reelIndex l dC dI  _   so i ) (va_cwS 2 hts gX0_mount_X0_reelIndex rfl rfl rfl (by decide +kernel) ⟨Nat.le_of_ble_eq_true rfl, Nat.le_of_ble_eq_true rfl⟩) (pK_S (hK.sub (tys' := []) [] rfl)) rfl rfl hl.1 rfl (lv_room (Nat.le_of_ble_eq_true rfl)) dX0_mount_47 ⟨Nat.le_of_ble_eq_true rfl, Nat.le_of_ble_eq_true rfl⟩) (fun r_4 hr_4 => ?_)
            subst hr_4
            refine lv_iconst (v := 0) hx hb dX0_mount_50 (by decide) ?_
            refine va_iast hx hb hK hP hD hS 1 0 rfl rfl (vp_in_nI (by omega) (by omega)) dX0_mount_51 (fun H locs hP hD hS => ?_)
            rw [nI_clamp (show (so * 64 + i) < 2 ^ 31 by omega)] at hP hD
            have hP : va_P (dC, dI) vwCl (wX cyI cyZ q0 q1 q2 q3 q4 q5 q6 (fl wc (so * 64) 0 (i + 1)) wl sc sl cl ct rw co sk ss sq) H := hP
            have hD : va_D A (wX cyI cyZ q0 q1 q2 q3 q4 q5 q6 (fl wc (so * 64) 0 (i + 1)) wl sc sl cl ct rw co sk ss sq) := hD
            refine lv_iinc (v := nI (i + 1)) (lv' := [(4, .int (nI (i + 1))), (3, .int (wl so)), (0, .ref q0), (1, .int (nI so)), (2, .int (nI nn))]) hx hb dX0_mount_52 hl (k := 0) rfl (nI_1 _) (by decide) rfl (fun ls hl => ?_)
            refine lv_goto (tgt := 34) hx hb dX0_mount_55 (by decide) ?_
            exact ih _ _ _ ⟨hP, hD, hS, lv_sub hl [0, 1, 2, 3, 4] rfl⟩
        · skip
          obtain ⟨hP, hD, hS, hl⟩ := hI
          refine lv_iload hx hb dX0_mount_34 (lv_at hl 0 rfl) ?_
          refine lv_iload_n hx hb dX0_mount_36 rfl (lv_at hl 4 rfl) ?_
          refine lv_icmp_ge (tgt := 58) hx hb dX0_mount_37 (by decide) (fun c_5 => ?_) (fun c_5 => ?_)
          · skip
            refine lv_aload_n hx hb dX0_mount_58 rfl (lv_at hl 2 rfl) ?_
            refine va_get (D := (dC, dI)) (ci := 0) (v := .ref q2) (C := RX0) (T := TX0) (N := 11) hx hb hts iw hown hK hP 0 rfl rfl 1 (by decide) (hts (.fieldLink RX0 13 "ReelLoom" "workingLength" "[I") (by decide +kernel)) (fun _ h9 => h9) rfl dX0_mount_59 ?_
            refine lv_iload_n hx hb dX0_mount_62 rfl (lv_at hl 3 rfl) ?_
            refine lv_iload_n hx hb dX0_mount_63 rfl (lv_at hl 4 rfl) ?_
            refine va_iast hx hb hK hP hD hS 2 0 rfl rfl (vp_in_nI (by omega) (by omega)) dX0_mount_64 (fun H locs hP hD hS => ?_)
            rw [nI_clamp (show so < 2 ^ 31 by omega)] at hP hD
            have hP : va_P (dC, dI) vwCl (wX cyI cyZ q0 q1 q2 q3 q4 q5 q6 (fl wc (so * 64) 0 nn) (upd wl so (nI nn)) sc sl cl ct rw co sk ss sq) H := hP
            have hD : va_D A (wX cyI cyZ q0 q1 q2 q3 q4 q5 q6 (fl wc (so * 64) 0 nn) (upd wl so (nI nn)) sc sl cl ct rw co sk ss sq) := hD
            refine lv_iload_n hx hb dX0_mount_65 rfl (lv_at hl 1 rfl) ?_
            refine vx_ret ?_
            refine W.widen (k := 1) (n := 6) (by decide) (by decide) ?_
            exact W.iret (v := (wl so)) hx hb hr (fun t ht hW => ⟨⟨(wl so), (so, nn), rfl, ⟨rfl, hso, rfl, hnn, rfl⟩, by show va_P (dC, dI) vwCl (wX cyI cyZ q0 q1 q2 q3 q4 q5 q6 (fl wc (so * 64) 0 nn) (upd wl so (nI nn)) sc sl cl ct rw co sk ss sq) t.heap; rw [ht]; exact hP⟩, hS.F ht⟩) hS.2.2 dX0_mount_66
          · skip
            exact absurd (nI_le (Nat.le_refl _) (by omega)) c_5
      · skip
        obtain ⟨sa, hsa⟩ := hz.2.2.2 57 "a reel has 0 to 64 cells" (by decide)
        exact vx_throwS hx hb hst (own := RX0) (cls := "java/lang/IllegalArgumentException") (text := "a reel has 0 to 64 cells") (names := zN) (ik := 55) (is := 57) (ic := 59) (sa := sa) (A := A) hown (by decide) (by decide) (hts (.classLink RX0 55 "java/lang/IllegalArgumentException") (by decide +kernel)) (hts (.initialized "java/lang/IllegalArgumentException") (by decide +kernel)) hsa (zHatIA hz (fun w h => hts w (List.mem_cons_of_mem _ (List.mem_append_right _ h)))) zGdIA hz.1 hz.2.1 hS (hl.1.trans hml.symm) dX0_mount_14 dX0_mount_17 dX0_mount_18 dX0_mount_20 dX0_mount_23 (fun y h => (hne y h).elim) (by decide) (by decide) (by decide) (by decide) hlocks (fun t hal hz9 hk9 => ⟨⟨rfl, fun h => by first | exact h.2.1 h5 | exact h11 h.2.2⟩, hz9, hk9⟩) hS.2.2 (by decide) (by decide)
set_option maxHeartbeats 4000000 in
set_option maxRecDepth 100000 in
theorem k_X0_off (l : Launch) (hst : l.stackTraces = false) (dC : Nat → ClassId) (dI : Nat → Nat → Nat) (cyI cyZ : ClassId) (H0 : Heap) (q0 q1 q2 q3 q4 q5 q6 : Nat) (wc wl sc sl cl ct : Nat → Int32) (rw co sk ss sq : Int32) (hP : va_P (dC, dI) vwCl (wX cyI cyZ q0 q1 q2 q3 q4 q5 q6 wc wl sc sl cl ct rw co sk ss sq) H0) (hD0 : va_D (fun _ => True) (wX cyI cyZ q0 q1 q2 q3 q4 q5 q6 wc wl sc sl cl ct rw co sk ss sq)) (x : Int32)  : vx_Met l yX0_off wsX0_off ({ frames := 7, cells := 1, slots := 6, locals := 111 }) (va_Pc [.ref q0, .int x] (pZ dC dI (tyW cyI cyZ) H0 (va_A (wX cyI cyZ q0 q1 q2 q3 q4 q5 q6 wc wl sc sl cl ct rw co sk ss sq) H0.size))) (va_Qi (fun (r : Int32) (u : Nat) => match u with | so => x = nI so ∧ so < 5 ∧ ¬ wl so = -1 ∧ r = wl so) (fun (u : Nat) (t : State) => match u with | so => va_P (dC, dI) vwCl (wX cyI cyZ q0 q1 q2 q3 q4 q5 q6 wc (upd wl so (-1)) sc sl cl ct rw co sk ss sq) t.heap) (va_A (wX cyI cyZ q0 q1 q2 q3 q4 q5 q6 wc wl sc sl cl ct rw co sk ss sq) H0.size)) (gx_X (fun E : String => (E = eIA ∧ ¬ (¬ x < 0 ∧ x < nI 5)) ∨ (E = eIS ∧ ∃ so : Nat, so < 5 ∧ x = nI so ∧ wl so = -1)) H0) 1 6 (va_A (wX cyI cyZ q0 q1 q2 q3 q4 q5 q6 wc wl sc sl cl ct rw co sk ss sq) H0.size) := by
  refine vx_ofW (cc := cX0_off) (maxL := 3) (ret := (some .int)) (by decide) rfl ?_
  intro p e s m args below meth c s₁ B hml hne hv
  obtain ⟨rfl, rfl, hK, hz⟩ := hv
  have hx := B.exec
  have hb := B.bytes
  have hr := B.returns
  have hts := atoms_spec (ws := wsX0_off) B.pre
  have hown : s.vm.findClass RX0 = some m.cls := findClass_of_methodNamed B.named
  have hlocks := B.notSynchronized
  have hD := hD0.self (sz := s.heap.size)
  generalize hAe : (va_A (wX cyI cyZ q0 q1 q2 q3 q4 q5 q6 wc wl sc sl cl ct rw co sk ss sq) s.heap.size) = A at hD hz ⊢
  have hA : ∀ q : Nat, s.heap.size ≤ q → A q := fun q h => by rw [← hAe]; exact Or.inr h
  have hS : va_S A s.heap s.heap [] := va_S.rf
  have hl := lv_entry ([.ref q0, .int x]) (n := 3) (Nat.le_of_ble_eq_true rfl)
  rw [lg_entry_eq]
  generalize (lg_sl ([.ref q0, .int x]) ++ List.replicate (3 - (lg_sl ([.ref q0, .int x])).length) Slot.unset).toArray = ls at hl ⊢
  have hl : lv_has ls 3 [(0, .ref q0), (1, .int x)] := hl
  have iw : ∀ w ∈ wsX00, w ∈ wsX0_off := by decide +kernel
  refine lv_iload_n hx hb dX0_off_0 rfl (lv_at hl 1 rfl) ?_
  refine gx_callv (vx_runS (As := [.int x]) (rest := []) ⟨hx, hb, hml, hown, hts⟩ (k_X0_requireSort l hst dC dI  _   x ) (va_cwS 1 hts gX0_off_X0_requireSort rfl rfl rfl (by decide +kernel) ⟨Nat.le_of_ble_eq_true rfl, Nat.le_of_ble_eq_true rfl⟩) (pZ_S (hK.sub (tys' := []) [] rfl) hz hS (fun q h => hA q (Nat.le_trans hS.1 h))) rfl rfl hl.1 rfl (lv_room (Nat.le_of_ble_eq_true rfl)) dX0_off_1 ⟨Nat.le_of_ble_eq_true rfl, Nat.le_of_ble_eq_true rfl⟩) hS (fun q h => hA q (Nat.le_trans hS.1 h)) (fun E ce q9 H1 locs1 hbad hz9 hk9 hS9 hce hcv hcl => ?_) (fun hok => ?_)
  · skip
    exact vx_out (fun y h => (hne y h).elim) hlocks hce hcv hcl (fun t ht _ => ⟨Or.inl ⟨hbad.1, hbad.2⟩, by rw [ht]; exact hz9, fun q hq => by rw [ht]; exact hk9 q hq⟩) hS9.2.2 (by decide) (by decide)
  · skip
    obtain ⟨so, hso, rfl⟩ := in_of (n := 5) (by decide) hok.1 hok.2
    refine lv_aload_n hx hb dX0_off_4 rfl (lv_at hl 0 rfl) ?_
    refine lv_iload_n hx hb dX0_off_5 rfl (lv_at hl 1 rfl) ?_
    refine gx_callv (vx_runV (As := [.int (nI so)]) (rest := []) ⟨hx, hb, hml, hown, hts⟩ (k_X0_requireMounted l hst dC dI cyI cyZ _ q0 q1 q2 q3 q4 q5 q6 wc wl sc sl cl ct rw co sk ss sq hP (hD.weaken (fun _ _ _ _ => trivial)) so (by omega)) (cwV 1 hts gX0_off_X0_requireMounted rfl rfl rfl (by decide +kernel) ⟨Nat.le_of_ble_eq_true rfl, Nat.le_of_ble_eq_true rfl⟩) (pZ_V hK hz hS (fun q h => hA q (Nat.le_trans hS.1 h)) (va_recv hK hP (ci := 0) (q0 := 0) rfl rfl)) rfl rfl hl.1 rfl (lv_room (Nat.le_of_ble_eq_true rfl)) dX0_off_6 ⟨Nat.le_of_ble_eq_true rfl, Nat.le_of_ble_eq_true rfl⟩) hS (fun q h => hA q (Nat.le_trans hS.1 h)) (fun E ce q9 H1 locs1 hbad hz9 hk9 hS9 hce hcv hcl => ?_) (fun hok => ?_)
    · skip
      exact vx_out (fun y h => (hne y h).elim) hlocks hce hcv hcl (fun t ht _ => ⟨Or.inr ⟨hbad.1, so, hso, rfl, hbad.2⟩, by rw [ht]; exact hz9, fun q hq => by rw [ht]; exact hk9 q hq⟩) hS9.2.2 (by decide) (by decide)
    · skip
      have hmt := hok
      refine lv_aload_n hx hb dX0_off_9 rfl (lv_at hl 0 rfl) ?_
      refine va_get (D := (dC, dI)) (ci := 0) (v := .ref q2) (C := RX0) (T := TX0) (N := 11) hx hb hts iw hown hK hP 0 rfl rfl 1 (by decide) (hts (.fieldLink RX0 13 "ReelLoom" "workingLength" "[I") (by decide +kernel)) (fun _ h9 => h9) rfl dX0_off_10 ?_
      refine lv_iload_n hx hb dX0_off_13 rfl (lv_at hl 1 rfl) ?_
      refine va_iald hx hb hK hP 2 0 rfl rfl (vp_in_nI (by omega) (by omega)) dX0_off_14 ?_
      rw [nI_clamp (show so < 2 ^ 31 by omega)]
      refine lv_istore_n (lv' := [(2, .int (wl so)), (0, .ref q0), (1, .int (nI so))]) hx hb dX0_off_15 rfl hl (by decide) rfl (fun ls hl => ?_)
      refine lv_aload_n hx hb dX0_off_16 rfl (lv_at hl 1 rfl) ?_
      refine va_get (D := (dC, dI)) (ci := 0) (v := .ref q2) (C := RX0) (T := TX0) (N := 11) hx hb hts iw hown hK hP 0 rfl rfl 1 (by decide) (hts (.fieldLink RX0 13 "ReelLoom" "workingLength" "[I") (by decide +kernel)) (fun _ h9 => h9) rfl dX0_off_17 ?_
      refine lv_iload_n hx hb dX0_off_20 rfl (lv_at hl 2 rfl) ?_
      refine lv_iconst (v := -1) hx hb dX0_off_21 (by decide) ?_
      refine va_iast hx hb hK hP hD hS 2 0 rfl rfl (vp_in_nI (by omega) (by omega)) dX0_off_22 (fun H locs hP hD hS => ?_)
      rw [nI_clamp (show so < 2 ^ 31 by omega)] at hP hD
      have hP : va_P (dC, dI) vwCl (wX cyI cyZ q0 q1 q2 q3 q4 q5 q6 wc (upd wl so (-1)) sc sl cl ct rw co sk ss sq) H := hP
      have hD : va_D A (wX cyI cyZ q0 q1 q2 q3 q4 q5 q6 wc (upd wl so (-1)) sc sl cl ct rw co sk ss sq) := hD
      refine lv_iload_n hx hb dX0_off_23 rfl (lv_at hl 0 rfl) ?_
      refine vx_ret ?_
      refine W.widen (k := 1) (n := 6) (by decide) (by decide) ?_
      exact W.iret (v := (wl so)) hx hb hr (fun t ht hW => ⟨⟨(wl so), so, rfl, ⟨rfl, hso, hmt, rfl⟩, by show va_P (dC, dI) vwCl (wX cyI cyZ q0 q1 q2 q3 q4 q5 q6 wc (upd wl so (-1)) sc sl cl ct rw co sk ss sq) t.heap; rw [ht]; exact hP⟩, hS.F ht⟩) hS.2.2 dX0_off_24
set_option maxHeartbeats 4000000 in
set_option maxRecDepth 100000 in
theorem k_X0_swap (l : Launch) (hst : l.stackTraces = false) (dC : Nat → ClassId) (dI : Nat → Nat → Nat) (cyI cyZ : ClassId) (H0 : Heap) (q0 q1 q2 q3 q4 q5 q6 : Nat) (wc wl sc sl cl ct : Nat → Int32) (rw co sk ss sq : Int32) (hP : va_P (dC, dI) vwCl (wX cyI cyZ q0 q1 q2 q3 q4 q5 q6 wc wl sc sl cl ct rw co sk ss sq) H0) (hD0 : va_D (fun _ => True) (wX cyI cyZ q0 q1 q2 q3 q4 q5 q6 wc wl sc sl cl ct rw co sk ss sq)) (x : Int32)  : vx_Met l yX0_swap wsX0_swap ({ frames := 7, cells := 1, slots := 6, locals := 110 }) (va_Pc [.ref q0, .int x] (pZ dC dI (tyW cyI cyZ) H0 (va_A (wX cyI cyZ q0 q1 q2 q3 q4 q5 q6 wc wl sc sl cl ct rw co sk ss sq) H0.size))) (va_Qi (fun (r : Int32) (u : Nat) => match u with | so => x = nI so ∧ so < 5 ∧ r = sl so) (fun (u : Nat) (t : State) => match u with | so => va_P (dC, dI) vwCl (wX cyI cyZ q0 q1 q2 q3 q4 q5 q6 ((swp wc sc (so * 64) 64).1) (upd wl so (sl so)) ((swp wc sc (so * 64) 64).2) (upd sl so (wl so)) cl ct rw co sk ss sq) t.heap) (va_A (wX cyI cyZ q0 q1 q2 q3 q4 q5 q6 wc wl sc sl cl ct rw co sk ss sq) H0.size)) (gx_X (fun E : String => (E = eIA ∧ ¬ (¬ x < 0 ∧ x < nI 5))) H0) 1 6 (va_A (wX cyI cyZ q0 q1 q2 q3 q4 q5 q6 wc wl sc sl cl ct rw co sk ss sq) H0.size) := by
  refine vx_ofW (cc := cX0_swap) (maxL := 5) (ret := (some .int)) (by decide) rfl ?_
  intro p e s m args below meth c s₁ B hml hne hv
  obtain ⟨rfl, rfl, hK, hz⟩ := hv
  have hx := B.exec
  have hb := B.bytes
  have hr := B.returns
  have hts := atoms_spec (ws := wsX0_swap) B.pre
  have hown : s.vm.findClass RX0 = some m.cls := findClass_of_methodNamed B.named
  have hlocks := B.notSynchronized
  have hD := hD0.self (sz := s.heap.size)
  generalize hAe : (va_A (wX cyI cyZ q0 q1 q2 q3 q4 q5 q6 wc wl sc sl cl ct rw co sk ss sq) s.heap.size) = A at hD hz ⊢
  have hA : ∀ q : Nat, s.heap.size ≤ q → A q := fun q h => by rw [← hAe]; exact Or.inr h
  have hS : va_S A s.heap s.heap [] := va_S.rf
  have hl := lv_entry ([.ref q0, .int x]) (n := 5) (Nat.le_of_ble_eq_true rfl)
  rw [lg_entry_eq]
  generalize (lg_sl ([.ref q0, .int x]) ++ List.replicate (5 - (lg_sl ([.ref q0, .int x])).length) Slot.unset).toArray = ls at hl ⊢
  have hl : lv_has ls 5 [(0, .ref q0), (1, .int x)] := hl
  have iw : ∀ w ∈ wsX00, w ∈ wsX0_swap := by decide +kernel
  refine lv_iload_n hx hb dX0_swap_0 rfl (lv_at hl 1 rfl) ?_
  refine gx_callv (vx_runS (As := [.int x]) (rest := []) ⟨hx, hb, hml, hown, hts⟩ (k_X0_requireSort l hst dC dI  _   x ) (va_cwS 1 hts gX0_swap_X0_requireSort rfl rfl rfl (by decide +kernel) ⟨Nat.le_of_ble_eq_true rfl, Nat.le_of_ble_eq_true rfl⟩) (pZ_S (hK.sub (tys' := []) [] rfl) hz hS (fun q h => hA q (Nat.le_trans hS.1 h))) rfl rfl hl.1 rfl (lv_room (Nat.le_of_ble_eq_true rfl)) dX0_swap_1 ⟨Nat.le_of_ble_eq_true rfl, Nat.le_of_ble_eq_true rfl⟩) hS (fun q h => hA q (Nat.le_trans hS.1 h)) (fun E ce q9 H1 locs1 hbad hz9 hk9 hS9 hce hcv hcl => ?_) (fun hok => ?_)
  · skip
    exact vx_out (fun y h => (hne y h).elim) hlocks hce hcv hcl (fun t ht _ => ⟨hbad, by rw [ht]; exact hz9, fun q hq => by rw [ht]; exact hk9 q hq⟩) hS9.2.2 (by decide) (by decide)
  · skip
    obtain ⟨so, hso, rfl⟩ := in_of (n := 5) (by decide) hok.1 hok.2
    refine lv_iconst (v := nI 0) hx hb dX0_swap_4 (by decide) ?_
    refine lv_istore_n (lv' := [(2, .int (nI 0)), (0, .ref q0), (1, .int (nI so))]) hx hb dX0_swap_5 rfl hl (by decide) rfl (fun ls hl => ?_)
    refine lpW (N := 64) (I := fun i H locs ls => va_P (dC, dI) vwCl (wX cyI cyZ q0 q1 q2 q3 q4 q5 q6 ((swp wc sc (so * 64) i).1) wl ((swp wc sc (so * 64) i).2) sl cl ct rw co sk ss sq) H ∧ va_D A (wX cyI cyZ q0 q1 q2 q3 q4 q5 q6 ((swp wc sc (so * 64) i).1) wl ((swp wc sc (so * 64) i).2) sl cl ct rw co sk ss sq) ∧ va_S A s.heap H locs ∧ lv_has ls 5 [(2, .int (nI i)), (0, .ref q0), (1, .int (nI so))]) (fun i hi H locs ls hI ih => ?_) (fun H locs ls hI => ?_) 0 (Nat.zero_le _) ⟨hP, hD, hS, lv_sub hl [0, 1, 2] rfl⟩
    · skip
      obtain ⟨hP, hD, hS, hl⟩ := hI
      refine lv_iload_n hx hb dX0_swap_6 rfl (lv_at hl 0 rfl) ?_
      refine lv_bipush (v := nI 64) hx hb dX0_swap_7 (by decide) ?_
      refine lv_icmp_ge (tgt := 52) hx hb dX0_swap_9 (by decide) (fun c_1 => ?_) (fun c_1 => ?_)
      · skip
        exact absurd c_1 (nI_ge (by omega) (by omega))
      · skip
        refine lv_iload_n hx hb dX0_swap_12 rfl (lv_at hl 2 rfl) ?_
        refine lv_iload_n hx hb dX0_swap_13 rfl (lv_at hl 0 rfl) ?_
        refine gx_calli (va_runS (As := [.int (nI so), .int (nI i)]) (rest := []) ⟨hx, hb, hml, hown, hts⟩ (k_X0_reelIndex l dC dI  _   so i ) (va_cwS 2 hts gX0_swap_X0_reelIndex rfl rfl rfl (by decide +kernel) ⟨Nat.le_of_ble_eq_true rfl, Nat.le_of_ble_eq_true rfl⟩) (pK_S (hK.sub (tys' := []) [] rfl)) rfl rfl hl.1 rfl (lv_room (Nat.le_of_ble_eq_true rfl)) dX0_swap_14 ⟨Nat.le_of_ble_eq_true rfl, Nat.le_of_ble_eq_true rfl⟩) (fun r_2 hr_2 => ?_)
        subst hr_2
        refine lv_istore_n (lv' := [(3, .int (nI (so * 64 + i))), (2, .int (nI i)), (0, .ref q0), (1, .int (nI so))]) hx hb dX0_swap_17 rfl hl (by decide) rfl (fun ls hl => ?_)
        refine lv_aload_n hx hb dX0_swap_18 rfl (lv_at hl 2 rfl) ?_
        refine va_get (D := (dC, dI)) (ci := 0) (v := .ref q1) (C := RX0) (T := TX0) (N := 11) hx hb hts iw hown hK hP 0 rfl rfl 0 (by decide) (hts (.fieldLink RX0 9 "ReelLoom" "workingCells" "[I") (by decide +kernel)) (fun _ h9 => h9) rfl dX0_swap_19 ?_
        refine lv_iload_n hx hb dX0_swap_22 rfl (lv_at hl 0 rfl) ?_
        refine va_iald hx hb hK hP 1 0 rfl rfl (vp_in_nI (by omega) (by omega)) dX0_swap_23 ?_
        rw [nI_clamp (show (so * 64 + i) < 2 ^ 31 by omega)]
        refine lv_istore (lv' := [(4, .int (((swp wc sc (so * 64) i).1) ((so * 64 + i)))), (3, .int (nI (so * 64 + i))), (2, .int (nI i)), (0, .ref q0), (1, .int (nI so))]) hx hb dX0_swap_24 hl (by decide) rfl (fun ls hl => ?_)
        refine lv_aload_n hx hb dX0_swap_26 rfl (lv_at hl 3 rfl) ?_
        refine va_get (D := (dC, dI)) (ci := 0) (v := .ref q1) (C := RX0) (T := TX0) (N := 11) hx hb hts iw hown hK hP 0 rfl rfl 0 (by decide) (hts (.fieldLink RX0 9 "ReelLoom" "workingCells" "[I") (by decide +kernel)) (fun _ h9 => h9) rfl dX0_swap_27 ?_
        refine lv_iload_n hx hb dX0_swap_30 rfl (lv_at hl 1 rfl) ?_
        refine lv_aload_n hx hb dX0_swap_31 rfl (lv_at hl 3 rfl) ?_
        refine va_get (D := (dC, dI)) (ci := 0) (v := .ref q3) (C := RX0) (T := TX0) (N := 11) hx hb hts iw hown hK hP 0 rfl rfl 2 (by decide) (hts (.fieldLink RX0 16 "ReelLoom" "spareCells" "[I") (by decide +kernel)) (fun _ h9 => h9) rfl dX0_swap_32 ?_
        refine lv_iload_n hx hb dX0_swap_35 rfl (lv_at hl 1 rfl) ?_
        refine va_iald hx hb hK hP 3 0 rfl rfl (vp_in_nI (by omega) (by omega)) dX0_swap_36 ?_
        rw [nI_clamp (show (so * 64 + i) < 2 ^ 31 by omega)]
        refine va_iast hx hb hK hP hD hS 1 0 rfl rfl (vp_in_nI (by omega) (by omega)) dX0_swap_37 (fun H locs hP hD hS => ?_)
        rw [nI_clamp (show (so * 64 + i) < 2 ^ 31 by omega)] at hP hD
        have hP : va_P (dC, dI) vwCl (wX cyI cyZ q0 q1 q2 q3 q4 q5 q6 (upd ((swp wc sc (so * 64) i).1) ((so * 64 + i)) (((swp wc sc (so * 64) i).2) ((so * 64 + i)))) wl ((swp wc sc (so * 64) i).2) sl cl ct rw co sk ss sq) H := hP
        have hD : va_D A (wX cyI cyZ q0 q1 q2 q3 q4 q5 q6 (upd ((swp wc sc (so * 64) i).1) ((so * 64 + i)) (((swp wc sc (so * 64) i).2) ((so * 64 + i)))) wl ((swp wc sc (so * 64) i).2) sl cl ct rw co sk ss sq) := hD
        refine lv_aload_n hx hb dX0_swap_38 rfl (lv_at hl 3 rfl) ?_
        refine va_get (D := (dC, dI)) (ci := 0) (v := .ref q3) (C := RX0) (T := TX0) (N := 11) hx hb hts iw hown hK hP 0 rfl rfl 2 (by decide) (hts (.fieldLink RX0 16 "ReelLoom" "spareCells" "[I") (by decide +kernel)) (fun _ h9 => h9) rfl dX0_swap_39 ?_
        refine lv_iload_n hx hb dX0_swap_42 rfl (lv_at hl 1 rfl) ?_
        refine lv_iload hx hb dX0_swap_43 (lv_at hl 0 rfl) ?_
        refine va_iast hx hb hK hP hD hS 3 0 rfl rfl (vp_in_nI (by omega) (by omega)) dX0_swap_45 (fun H locs hP hD hS => ?_)
        rw [nI_clamp (show (so * 64 + i) < 2 ^ 31 by omega)] at hP hD
        have hP : va_P (dC, dI) vwCl (wX cyI cyZ q0 q1 q2 q3 q4 q5 q6 (upd ((swp wc sc (so * 64) i).1) ((so * 64 + i)) (((swp wc sc (so * 64) i).2) ((so * 64 + i)))) wl (upd ((swp wc sc (so * 64) i).2) ((so * 64 + i)) (((swp wc sc (so * 64) i).1) ((so * 64 + i)))) sl cl ct rw co sk ss sq) H := hP
        have hD : va_D A (wX cyI cyZ q0 q1 q2 q3 q4 q5 q6 (upd ((swp wc sc (so * 64) i).1) ((so * 64 + i)) (((swp wc sc (so * 64) i).2) ((so * 64 + i)))) wl (upd ((swp wc sc (so * 64) i).2) ((so * 64 + i)) (((swp wc sc (so * 64) i).1) ((so * 64 + i)))) sl cl ct rw co sk ss sq) := hD
        refine lv_iinc (v := nI (i + 1)) (lv' := [(2, .int (nI (i + 1))), (4, .int (((swp wc sc (so * 64) i).1) ((so * 64 + i)))), (3, .int (nI (so * 64 + i))), (0, .ref q0), (1, .int (nI so))]) hx hb dX0_swap_46 hl (k := 2) rfl (nI_1 _) (by decide) rfl (fun ls hl => ?_)
        refine lv_goto (tgt := 6) hx hb dX0_swap_49 (by decide) ?_
        exact ih _ _ _ ⟨hP, hD, hS, lv_sub hl [0, 3, 4] rfl⟩
    · skip
      obtain ⟨hP, hD, hS, hl⟩ := hI
      refine lv_iload_n hx hb dX0_swap_6 rfl (lv_at hl 0 rfl) ?_
      refine lv_bipush (v := nI 64) hx hb dX0_swap_7 (by decide) ?_
      refine lv_icmp_ge (tgt := 52) hx hb dX0_swap_9 (by decide) (fun c_3 => ?_) (fun c_3 => ?_)
      · skip
        refine lv_aload_n hx hb dX0_swap_52 rfl (lv_at hl 1 rfl) ?_
        refine va_get (D := (dC, dI)) (ci := 0) (v := .ref q2) (C := RX0) (T := TX0) (N := 11) hx hb hts iw hown hK hP 0 rfl rfl 1 (by decide) (hts (.fieldLink RX0 13 "ReelLoom" "workingLength" "[I") (by decide +kernel)) (fun _ h9 => h9) rfl dX0_swap_53 ?_
        refine lv_iload_n hx hb dX0_swap_56 rfl (lv_at hl 2 rfl) ?_
        refine va_iald hx hb hK hP 2 0 rfl rfl (vp_in_nI (by omega) (by omega)) dX0_swap_57 ?_
        rw [nI_clamp (show so < 2 ^ 31 by omega)]
        refine lv_istore_n (lv' := [(2, .int (wl so)), (0, .ref q0), (1, .int (nI so))]) hx hb dX0_swap_58 rfl hl (by decide) rfl (fun ls hl => ?_)
        refine lv_aload_n hx hb dX0_swap_59 rfl (lv_at hl 1 rfl) ?_
        refine va_get (D := (dC, dI)) (ci := 0) (v := .ref q2) (C := RX0) (T := TX0) (N := 11) hx hb hts iw hown hK hP 0 rfl rfl 1 (by decide) (hts (.fieldLink RX0 13 "ReelLoom" "workingLength" "[I") (by decide +kernel)) (fun _ h9 => h9) rfl dX0_swap_60 ?_
        refine lv_iload_n hx hb dX0_swap_63 rfl (lv_at hl 2 rfl) ?_
        refine lv_aload_n hx hb dX0_swap_64 rfl (lv_at hl 1 rfl) ?_
        refine va_get (D := (dC, dI)) (ci := 0) (v := .ref q4) (C := RX0) (T := TX0) (N := 11) hx hb hts iw hown hK hP 0 rfl rfl 3 (by decide) (hts (.fieldLink RX0 19 "ReelLoom" "spareLength" "[I") (by decide +kernel)) (fun _ h9 => h9) rfl dX0_swap_65 ?_
        refine lv_iload_n hx hb dX0_swap_68 rfl (lv_at hl 2 rfl) ?_
        refine va_iald hx hb hK hP 4 0 rfl rfl (vp_in_nI (by omega) (by omega)) dX0_swap_69 ?_
        rw [nI_clamp (show so < 2 ^ 31 by omega)]
        refine va_iast hx hb hK hP hD hS 2 0 rfl rfl (vp_in_nI (by omega) (by omega)) dX0_swap_70 (fun H locs hP hD hS => ?_)
        rw [nI_clamp (show so < 2 ^ 31 by omega)] at hP hD
        have hP : va_P (dC, dI) vwCl (wX cyI cyZ q0 q1 q2 q3 q4 q5 q6 ((swp wc sc (so * 64) 64).1) (upd wl so (sl so)) ((swp wc sc (so * 64) 64).2) sl cl ct rw co sk ss sq) H := hP
        have hD : va_D A (wX cyI cyZ q0 q1 q2 q3 q4 q5 q6 ((swp wc sc (so * 64) 64).1) (upd wl so (sl so)) ((swp wc sc (so * 64) 64).2) sl cl ct rw co sk ss sq) := hD
        refine lv_aload_n hx hb dX0_swap_71 rfl (lv_at hl 1 rfl) ?_
        refine va_get (D := (dC, dI)) (ci := 0) (v := .ref q4) (C := RX0) (T := TX0) (N := 11) hx hb hts iw hown hK hP 0 rfl rfl 3 (by decide) (hts (.fieldLink RX0 19 "ReelLoom" "spareLength" "[I") (by decide +kernel)) (fun _ h9 => h9) rfl dX0_swap_72 ?_
        refine lv_iload_n hx hb dX0_swap_75 rfl (lv_at hl 2 rfl) ?_
        refine lv_iload_n hx hb dX0_swap_76 rfl (lv_at hl 0 rfl) ?_
        refine va_iast hx hb hK hP hD hS 4 0 rfl rfl (vp_in_nI (by omega) (by omega)) dX0_swap_77 (fun H locs hP hD hS => ?_)
        rw [nI_clamp (show so < 2 ^ 31 by omega)] at hP hD
        have hP : va_P (dC, dI) vwCl (wX cyI cyZ q0 q1 q2 q3 q4 q5 q6 ((swp wc sc (so * 64) 64).1) (upd wl so (sl so)) ((swp wc sc (so * 64) 64).2) (upd sl so (wl so)) cl ct rw co sk ss sq) H := hP
        have hD : va_D A (wX cyI cyZ q0 q1 q2 q3 q4 q5 q6 ((swp wc sc (so * 64) 64).1) (upd wl so (sl so)) ((swp wc sc (so * 64) 64).2) (upd sl so (wl so)) cl ct rw co sk ss sq) := hD
        refine lv_aload_n hx hb dX0_swap_78 rfl (lv_at hl 1 rfl) ?_
        refine va_get (D := (dC, dI)) (ci := 0) (v := .ref q2) (C := RX0) (T := TX0) (N := 11) hx hb hts iw hown hK hP 0 rfl rfl 1 (by decide) (hts (.fieldLink RX0 13 "ReelLoom" "workingLength" "[I") (by decide +kernel)) (fun _ h9 => h9) rfl dX0_swap_79 ?_
        refine lv_iload_n hx hb dX0_swap_82 rfl (lv_at hl 2 rfl) ?_
        refine va_iald hx hb hK hP 2 0 rfl rfl (vp_in_nI (by omega) (by omega)) dX0_swap_83 ?_
        rw [nI_clamp (show so < 2 ^ 31 by omega)]
        refine vx_ret ?_
        refine W.widen (k := 1) (n := 6) (by decide) (by decide) ?_
        exact W.iret (v := ((upd wl so (sl so)) so)) hx hb hr (fun t ht hW => ⟨⟨((upd wl so (sl so)) so), so, rfl, ⟨rfl, hso, pk_us⟩, by show va_P (dC, dI) vwCl (wX cyI cyZ q0 q1 q2 q3 q4 q5 q6 ((swp wc sc (so * 64) 64).1) (upd wl so (sl so)) ((swp wc sc (so * 64) 64).2) (upd sl so (wl so)) cl ct rw co sk ss sq) t.heap; rw [ht]; exact hP⟩, hS.F ht⟩) hS.2.2 dX0_swap_84
      · skip
        exact absurd (nI_le (Nat.le_refl _) (by omega)) c_3
set_option maxHeartbeats 4000000 in
set_option maxRecDepth 100000 in
theorem k_X0_copy (l : Launch) (hst : l.stackTraces = false) (dC : Nat → ClassId) (dI : Nat → Nat → Nat) (cyI cyZ : ClassId) (H0 : Heap) (q0 q1 q2 q3 q4 q5 q6 : Nat) (wc wl sc sl cl ct : Nat → Int32) (rw co sk ss sq : Int32) (hP : va_P (dC, dI) vwCl (wX cyI cyZ q0 q1 q2 q3 q4 q5 q6 wc wl sc sl cl ct rw co sk ss sq) H0) (hD0 : va_D (fun _ => True) (wX cyI cyZ q0 q1 q2 q3 q4 q5 q6 wc wl sc sl cl ct rw co sk ss sq)) (x : Int32) (hwl : ∀ k, k < 5 → wl k = -1 ∨ ∃ n : Nat, n ≤ 64 ∧ wl k = nI n) : vx_Met l yX0_copy wsX0_copy ({ frames := 7, cells := 1, slots := 6, locals := 111 }) (va_Pc [.ref q0, .int x] (pZ dC dI (tyW cyI cyZ) H0 (va_A (wX cyI cyZ q0 q1 q2 q3 q4 q5 q6 wc wl sc sl cl ct rw co sk ss sq) H0.size))) (va_Qi (fun (r : Int32) (u : Nat × Nat) => match u with | (so, nn) => x = nI so ∧ so < 5 ∧ nn ≤ 64 ∧ wl so = nI nn ∧ r = nI nn) (fun (u : Nat × Nat) (t : State) => match u with | (so, nn) => va_P (dC, dI) vwCl (wX cyI cyZ q0 q1 q2 q3 q4 q5 q6 wc wl (cpn sc wc (so * 64) nn) (upd sl so (nI nn)) cl ct rw co sk ss sq) t.heap) (va_A (wX cyI cyZ q0 q1 q2 q3 q4 q5 q6 wc wl sc sl cl ct rw co sk ss sq) H0.size)) (gx_X (fun E : String => (E = eIA ∧ ¬ (¬ x < 0 ∧ x < nI 5)) ∨ (E = eIS ∧ ∃ so : Nat, so < 5 ∧ x = nI so ∧ wl so = -1)) H0) 1 6 (va_A (wX cyI cyZ q0 q1 q2 q3 q4 q5 q6 wc wl sc sl cl ct rw co sk ss sq) H0.size) := by
  refine vx_ofW (cc := cX0_copy) (maxL := 5) (ret := (some .int)) (by decide) rfl ?_
  intro p e s m args below meth c s₁ B hml hne hv
  obtain ⟨rfl, rfl, hK, hz⟩ := hv
  have hx := B.exec
  have hb := B.bytes
  have hr := B.returns
  have hts := atoms_spec (ws := wsX0_copy) B.pre
  have hown : s.vm.findClass RX0 = some m.cls := findClass_of_methodNamed B.named
  have hlocks := B.notSynchronized
  have hD := hD0.self (sz := s.heap.size)
  generalize hAe : (va_A (wX cyI cyZ q0 q1 q2 q3 q4 q5 q6 wc wl sc sl cl ct rw co sk ss sq) s.heap.size) = A at hD hz ⊢
  have hA : ∀ q : Nat, s.heap.size ≤ q → A q := fun q h => by rw [← hAe]; exact Or.inr h
  have hS : va_S A s.heap s.heap [] := va_S.rf
  have hl := lv_entry ([.ref q0, .int x]) (n := 5) (Nat.le_of_ble_eq_true rfl)
  rw [lg_entry_eq]
  generalize (lg_sl ([.ref q0, .int x]) ++ List.replicate (5 - (lg_sl ([.ref q0, .int x])).length) Slot.unset).toArray = ls at hl ⊢
  have hl : lv_has ls 5 [(0, .ref q0), (1, .int x)] := hl
  have iw : ∀ w ∈ wsX00, w ∈ wsX0_copy := by decide +kernel
  refine lv_iload_n hx hb dX0_copy_0 rfl (lv_at hl 1 rfl) ?_
  refine gx_callv (vx_runS (As := [.int x]) (rest := []) ⟨hx, hb, hml, hown, hts⟩ (k_X0_requireSort l hst dC dI  _   x ) (va_cwS 1 hts gX0_copy_X0_requireSort rfl rfl rfl (by decide +kernel) ⟨Nat.le_of_ble_eq_true rfl, Nat.le_of_ble_eq_true rfl⟩) (pZ_S (hK.sub (tys' := []) [] rfl) hz hS (fun q h => hA q (Nat.le_trans hS.1 h))) rfl rfl hl.1 rfl (lv_room (Nat.le_of_ble_eq_true rfl)) dX0_copy_1 ⟨Nat.le_of_ble_eq_true rfl, Nat.le_of_ble_eq_true rfl⟩) hS (fun q h => hA q (Nat.le_trans hS.1 h)) (fun E ce q9 H1 locs1 hbad hz9 hk9 hS9 hce hcv hcl => ?_) (fun hok => ?_)
  · skip
    exact vx_out (fun y h => (hne y h).elim) hlocks hce hcv hcl (fun t ht _ => ⟨Or.inl ⟨hbad.1, hbad.2⟩, by rw [ht]; exact hz9, fun q hq => by rw [ht]; exact hk9 q hq⟩) hS9.2.2 (by decide) (by decide)
  · skip
    obtain ⟨so, hso, rfl⟩ := in_of (n := 5) (by decide) hok.1 hok.2
    refine lv_aload_n hx hb dX0_copy_4 rfl (lv_at hl 0 rfl) ?_
    refine lv_iload_n hx hb dX0_copy_5 rfl (lv_at hl 1 rfl) ?_
    refine gx_callv (vx_runV (As := [.int (nI so)]) (rest := []) ⟨hx, hb, hml, hown, hts⟩ (k_X0_requireMounted l hst dC dI cyI cyZ _ q0 q1 q2 q3 q4 q5 q6 wc wl sc sl cl ct rw co sk ss sq hP (hD.weaken (fun _ _ _ _ => trivial)) so (by omega)) (cwV 1 hts gX0_copy_X0_requireMounted rfl rfl rfl (by decide +kernel) ⟨Nat.le_of_ble_eq_true rfl, Nat.le_of_ble_eq_true rfl⟩) (pZ_V hK hz hS (fun q h => hA q (Nat.le_trans hS.1 h)) (va_recv hK hP (ci := 0) (q0 := 0) rfl rfl)) rfl rfl hl.1 rfl (lv_room (Nat.le_of_ble_eq_true rfl)) dX0_copy_6 ⟨Nat.le_of_ble_eq_true rfl, Nat.le_of_ble_eq_true rfl⟩) hS (fun q h => hA q (Nat.le_trans hS.1 h)) (fun E ce q9 H1 locs1 hbad hz9 hk9 hS9 hce hcv hcl => ?_) (fun hok => ?_)
    · skip
      exact vx_out (fun y h => (hne y h).elim) hlocks hce hcv hcl (fun t ht _ => ⟨Or.inr ⟨hbad.1, so, hso, rfl, hbad.2⟩, by rw [ht]; exact hz9, fun q hq => by rw [ht]; exact hk9 q hq⟩) hS9.2.2 (by decide) (by decide)
    · skip
      have hmt := hok
      obtain ⟨nn, hnn, hwn⟩ : ∃ n : Nat, n ≤ 64 ∧ wl so = nI n := by rcases hwl so hso with e | e; exact absurd e hmt; exact e
      refine lv_aload_n hx hb dX0_copy_9 rfl (lv_at hl 0 rfl) ?_
      refine va_get (D := (dC, dI)) (ci := 0) (v := .ref q2) (C := RX0) (T := TX0) (N := 11) hx hb hts iw hown hK hP 0 rfl rfl 1 (by decide) (hts (.fieldLink RX0 13 "ReelLoom" "workingLength" "[I") (by decide +kernel)) (fun _ h9 => h9) rfl dX0_copy_10 ?_
      refine lv_iload_n hx hb dX0_copy_13 rfl (lv_at hl 1 rfl) ?_
      refine va_iald hx hb hK hP 2 0 rfl rfl (vp_in_nI (by omega) (by omega)) dX0_copy_14 ?_
      rw [nI_clamp (show so < 2 ^ 31 by omega)]
      rw [hwn]
      refine lv_istore_n (lv' := [(2, .int (nI nn)), (0, .ref q0), (1, .int (nI so))]) hx hb dX0_copy_15 rfl hl (by decide) rfl (fun ls hl => ?_)
      refine lv_iconst (v := nI 0) hx hb dX0_copy_16 (by decide) ?_
      refine lv_istore_n (lv' := [(3, .int (nI 0)), (2, .int (nI nn)), (0, .ref q0), (1, .int (nI so))]) hx hb dX0_copy_17 rfl hl (by decide) rfl (fun ls hl => ?_)
      refine lpW (N := nn) (I := fun i H locs ls => va_P (dC, dI) vwCl (wX cyI cyZ q0 q1 q2 q3 q4 q5 q6 wc wl (cpn sc wc (so * 64) i) sl cl ct rw co sk ss sq) H ∧ va_D A (wX cyI cyZ q0 q1 q2 q3 q4 q5 q6 wc wl (cpn sc wc (so * 64) i) sl cl ct rw co sk ss sq) ∧ va_S A s.heap H locs ∧ lv_has ls 5 [(3, .int (nI i)), (2, .int (nI nn)), (0, .ref q0), (1, .int (nI so))]) (fun i hi H locs ls hI ih => ?_) (fun H locs ls hI => ?_) 0 (Nat.zero_le _) ⟨hP, hD, hS, lv_sub hl [0, 1, 2, 3] rfl⟩
      · skip
        obtain ⟨hP, hD, hS, hl⟩ := hI
        refine lv_iload_n hx hb dX0_copy_18 rfl (lv_at hl 0 rfl) ?_
        refine lv_iload_n hx hb dX0_copy_19 rfl (lv_at hl 1 rfl) ?_
        refine lv_icmp_ge (tgt := 50) hx hb dX0_copy_20 (by decide) (fun c_1 => ?_) (fun c_1 => ?_)
        · skip
          exact absurd c_1 (nI_ge (by omega) (by omega))
        · skip
          refine lv_iload_n hx hb dX0_copy_23 rfl (lv_at hl 3 rfl) ?_
          refine lv_iload_n hx hb dX0_copy_24 rfl (lv_at hl 0 rfl) ?_
          refine gx_calli (va_runS (As := [.int (nI so), .int (nI i)]) (rest := []) ⟨hx, hb, hml, hown, hts⟩ (k_X0_reelIndex l dC dI  _   so i ) (va_cwS 2 hts gX0_copy_X0_reelIndex rfl rfl rfl (by decide +kernel) ⟨Nat.le_of_ble_eq_true rfl, Nat.le_of_ble_eq_true rfl⟩) (pK_S (hK.sub (tys' := []) [] rfl)) rfl rfl hl.1 rfl (lv_room (Nat.le_of_ble_eq_true rfl)) dX0_copy_25 ⟨Nat.le_of_ble_eq_true rfl, Nat.le_of_ble_eq_true rfl⟩) (fun r_2 hr_2 => ?_)
          subst hr_2
          refine lv_istore (lv' := [(4, .int (nI (so * 64 + i))), (3, .int (nI i)), (2, .int (nI nn)), (0, .ref q0), (1, .int (nI so))]) hx hb dX0_copy_28 hl (by decide) rfl (fun ls hl => ?_)
          refine lv_aload_n hx hb dX0_copy_30 rfl (lv_at hl 3 rfl) ?_
          refine va_get (D := (dC, dI)) (ci := 0) (v := .ref q3) (C := RX0) (T := TX0) (N := 11) hx hb hts iw hown hK hP 0 rfl rfl 2 (by decide) (hts (.fieldLink RX0 16 "ReelLoom" "spareCells" "[I") (by decide +kernel)) (fun _ h9 => h9) rfl dX0_copy_31 ?_
          refine lv_iload hx hb dX0_copy_34 (lv_at hl 0 rfl) ?_
          refine lv_aload_n hx hb dX0_copy_36 rfl (lv_at hl 3 rfl) ?_
          refine va_get (D := (dC, dI)) (ci := 0) (v := .ref q1) (C := RX0) (T := TX0) (N := 11) hx hb hts iw hown hK hP 0 rfl rfl 0 (by decide) (hts (.fieldLink RX0 9 "ReelLoom" "workingCells" "[I") (by decide +kernel)) (fun _ h9 => h9) rfl dX0_copy_37 ?_
          refine lv_iload hx hb dX0_copy_40 (lv_at hl 0 rfl) ?_
          refine va_iald hx hb hK hP 1 0 rfl rfl (vp_in_nI (by omega) (by omega)) dX0_copy_42 ?_
          rw [nI_clamp (show (so * 64 + i) < 2 ^ 31 by omega)]
          refine va_iast hx hb hK hP hD hS 3 0 rfl rfl (vp_in_nI (by omega) (by omega)) dX0_copy_43 (fun H locs hP hD hS => ?_)
          rw [nI_clamp (show (so * 64 + i) < 2 ^ 31 by omega)] at hP hD
          have hP : va_P (dC, dI) vwCl (wX cyI cyZ q0 q1 q2 q3 q4 q5 q6 wc wl (cpn sc wc (so * 64) (i + 1)) sl cl ct rw co sk ss sq) H := hP
          have hD : va_D A (wX cyI cyZ q0 q1 q2 q3 q4 q5 q6 wc wl (cpn sc wc (so * 64) (i + 1)) sl cl ct rw co sk ss sq) := hD
          refine lv_iinc (v := nI (i + 1)) (lv' := [(3, .int (nI (i + 1))), (4, .int (nI (so * 64 + i))), (2, .int (nI nn)), (0, .ref q0), (1, .int (nI so))]) hx hb dX0_copy_44 hl (k := 1) rfl (nI_1 _) (by decide) rfl (fun ls hl => ?_)
          refine lv_goto (tgt := 18) hx hb dX0_copy_47 (by decide) ?_
          exact ih _ _ _ ⟨hP, hD, hS, lv_sub hl [0, 2, 3, 4] rfl⟩
      · skip
        obtain ⟨hP, hD, hS, hl⟩ := hI
        refine lv_iload_n hx hb dX0_copy_18 rfl (lv_at hl 0 rfl) ?_
        refine lv_iload_n hx hb dX0_copy_19 rfl (lv_at hl 1 rfl) ?_
        refine lv_icmp_ge (tgt := 50) hx hb dX0_copy_20 (by decide) (fun c_3 => ?_) (fun c_3 => ?_)
        · skip
          refine lv_aload_n hx hb dX0_copy_50 rfl (lv_at hl 2 rfl) ?_
          refine va_get (D := (dC, dI)) (ci := 0) (v := .ref q4) (C := RX0) (T := TX0) (N := 11) hx hb hts iw hown hK hP 0 rfl rfl 3 (by decide) (hts (.fieldLink RX0 19 "ReelLoom" "spareLength" "[I") (by decide +kernel)) (fun _ h9 => h9) rfl dX0_copy_51 ?_
          refine lv_iload_n hx hb dX0_copy_54 rfl (lv_at hl 3 rfl) ?_
          refine lv_iload_n hx hb dX0_copy_55 rfl (lv_at hl 1 rfl) ?_
          refine va_iast hx hb hK hP hD hS 4 0 rfl rfl (vp_in_nI (by omega) (by omega)) dX0_copy_56 (fun H locs hP hD hS => ?_)
          rw [nI_clamp (show so < 2 ^ 31 by omega)] at hP hD
          have hP : va_P (dC, dI) vwCl (wX cyI cyZ q0 q1 q2 q3 q4 q5 q6 wc wl (cpn sc wc (so * 64) nn) (upd sl so (nI nn)) cl ct rw co sk ss sq) H := hP
          have hD : va_D A (wX cyI cyZ q0 q1 q2 q3 q4 q5 q6 wc wl (cpn sc wc (so * 64) nn) (upd sl so (nI nn)) cl ct rw co sk ss sq) := hD
          refine lv_iload_n hx hb dX0_copy_57 rfl (lv_at hl 1 rfl) ?_
          refine vx_ret ?_
          refine W.widen (k := 1) (n := 6) (by decide) (by decide) ?_
          exact W.iret (v := (nI nn)) hx hb hr (fun t ht hW => ⟨⟨(nI nn), (so, nn), rfl, ⟨rfl, hso, hnn, hwn, rfl⟩, by show va_P (dC, dI) vwCl (wX cyI cyZ q0 q1 q2 q3 q4 q5 q6 wc wl (cpn sc wc (so * 64) nn) (upd sl so (nI nn)) cl ct rw co sk ss sq) t.heap; rw [ht]; exact hP⟩, hS.F ht⟩) hS.2.2 dX0_copy_58
        · skip
          exact absurd (nI_le (Nat.le_refl _) (by omega)) c_3
set_option maxHeartbeats 4000000 in
set_option maxRecDepth 100000 in
theorem k_X0_size (l : Launch) (hst : l.stackTraces = false) (dC : Nat → ClassId) (dI : Nat → Nat → Nat) (cyI cyZ : ClassId) (H0 : Heap) (q0 q1 q2 q3 q4 q5 q6 : Nat) (wc wl sc sl cl ct : Nat → Int32) (rw co sk ss sq : Int32) (hP : va_P (dC, dI) vwCl (wX cyI cyZ q0 q1 q2 q3 q4 q5 q6 wc wl sc sl cl ct rw co sk ss sq) H0) (hD0 : va_D (fun _ => True) (wX cyI cyZ q0 q1 q2 q3 q4 q5 q6 wc wl sc sl cl ct rw co sk ss sq)) (x : Int32) (y : Int32)  : vx_Met l yX0_size wsX0_size ({ frames := 7, cells := 1, slots := 6, locals := 110 }) (va_Pc [.ref q0, .int x, .int y] (pZ dC dI (tyW cyI cyZ) H0 (va_A (wX cyI cyZ q0 q1 q2 q3 q4 q5 q6 wc wl sc sl cl ct rw co sk ss sq) H0.size))) (va_Qi (fun (r : Int32) (u : Nat) => match u with | so => x = nI so ∧ so < 5 ∧ r = (if y = 0 then wl so else sl so)) (fun (u : Nat) (t : State) => match u with | so => va_P (dC, dI) vwCl (wX cyI cyZ q0 q1 q2 q3 q4 q5 q6 wc wl sc sl cl ct rw co sk ss sq) t.heap) (va_A (wX cyI cyZ q0 q1 q2 q3 q4 q5 q6 wc wl sc sl cl ct rw co sk ss sq) H0.size)) (gx_X (fun E : String => (E = eIA ∧ ¬ (¬ x < 0 ∧ x < nI 5))) H0) 1 6 (va_A (wX cyI cyZ q0 q1 q2 q3 q4 q5 q6 wc wl sc sl cl ct rw co sk ss sq) H0.size) := by
  refine vx_ofW (cc := cX0_size) (maxL := 3) (ret := (some .int)) (by decide) rfl ?_
  intro p e s m args below meth c s₁ B hml hne hv
  obtain ⟨rfl, rfl, hK, hz⟩ := hv
  have hx := B.exec
  have hb := B.bytes
  have hr := B.returns
  have hts := atoms_spec (ws := wsX0_size) B.pre
  have hown : s.vm.findClass RX0 = some m.cls := findClass_of_methodNamed B.named
  have hlocks := B.notSynchronized
  have hD := hD0.self (sz := s.heap.size)
  generalize hAe : (va_A (wX cyI cyZ q0 q1 q2 q3 q4 q5 q6 wc wl sc sl cl ct rw co sk ss sq) s.heap.size) = A at hD hz ⊢
  have hA : ∀ q : Nat, s.heap.size ≤ q → A q := fun q h => by rw [← hAe]; exact Or.inr h
  have hS : va_S A s.heap s.heap [] := va_S.rf
  have hl := lv_entry ([.ref q0, .int x, .int y]) (n := 3) (Nat.le_of_ble_eq_true rfl)
  rw [lg_entry_eq]
  generalize (lg_sl ([.ref q0, .int x, .int y]) ++ List.replicate (3 - (lg_sl ([.ref q0, .int x, .int y])).length) Slot.unset).toArray = ls at hl ⊢
  have hl : lv_has ls 3 [(0, .ref q0), (1, .int x), (2, .int y)] := hl
  have iw : ∀ w ∈ wsX00, w ∈ wsX0_size := by decide +kernel
  refine lv_iload_n hx hb dX0_size_0 rfl (lv_at hl 1 rfl) ?_
  refine gx_callv (vx_runS (As := [.int x]) (rest := []) ⟨hx, hb, hml, hown, hts⟩ (k_X0_requireSort l hst dC dI  _   x ) (va_cwS 1 hts gX0_size_X0_requireSort rfl rfl rfl (by decide +kernel) ⟨Nat.le_of_ble_eq_true rfl, Nat.le_of_ble_eq_true rfl⟩) (pZ_S (hK.sub (tys' := []) [] rfl) hz hS (fun q h => hA q (Nat.le_trans hS.1 h))) rfl rfl hl.1 rfl (lv_room (Nat.le_of_ble_eq_true rfl)) dX0_size_1 ⟨Nat.le_of_ble_eq_true rfl, Nat.le_of_ble_eq_true rfl⟩) hS (fun q h => hA q (Nat.le_trans hS.1 h)) (fun E ce q9 H1 locs1 hbad hz9 hk9 hS9 hce hcv hcl => ?_) (fun hok => ?_)
  · skip
    exact vx_out (fun y h => (hne y h).elim) hlocks hce hcv hcl (fun t ht _ => ⟨hbad, by rw [ht]; exact hz9, fun q hq => by rw [ht]; exact hk9 q hq⟩) hS9.2.2 (by decide) (by decide)
  · skip
    obtain ⟨so, hso, rfl⟩ := in_of (n := 5) (by decide) hok.1 hok.2
    refine lv_iload_n hx hb dX0_size_4 rfl (lv_at hl 2 rfl) ?_
    refine lv_if_eq (tgt := 17) hx hb dX0_size_5 (by decide) (fun h5 => ?_) (fun h5 => ?_)
    · skip
      refine lv_aload_n hx hb dX0_size_17 rfl (lv_at hl 0 rfl) ?_
      refine va_get (D := (dC, dI)) (ci := 0) (v := .ref q2) (C := RX0) (T := TX0) (N := 11) hx hb hts iw hown hK hP 0 rfl rfl 1 (by decide) (hts (.fieldLink RX0 13 "ReelLoom" "workingLength" "[I") (by decide +kernel)) (fun _ h9 => h9) rfl dX0_size_18 ?_
      refine lv_iload_n hx hb dX0_size_21 rfl (lv_at hl 1 rfl) ?_
      refine va_iald hx hb hK hP 2 0 rfl rfl (vp_in_nI (by omega) (by omega)) dX0_size_22 ?_
      rw [nI_clamp (show so < 2 ^ 31 by omega)]
      refine vx_ret ?_
      refine W.widen (k := 1) (n := 6) (by decide) (by decide) ?_
      exact W.iret (v := (wl so)) hx hb hr (fun t ht hW => ⟨⟨(wl so), so, rfl, ⟨rfl, hso, by first | rw [if_pos h5] | rw [if_neg h5]⟩, by show va_P (dC, dI) vwCl (wX cyI cyZ q0 q1 q2 q3 q4 q5 q6 wc wl sc sl cl ct rw co sk ss sq) t.heap; rw [ht]; exact hP⟩, hS.F ht⟩) hS.2.2 dX0_size_23
    · skip
      refine lv_aload_n hx hb dX0_size_8 rfl (lv_at hl 0 rfl) ?_
      refine va_get (D := (dC, dI)) (ci := 0) (v := .ref q4) (C := RX0) (T := TX0) (N := 11) hx hb hts iw hown hK hP 0 rfl rfl 3 (by decide) (hts (.fieldLink RX0 19 "ReelLoom" "spareLength" "[I") (by decide +kernel)) (fun _ h9 => h9) rfl dX0_size_9 ?_
      refine lv_iload_n hx hb dX0_size_12 rfl (lv_at hl 1 rfl) ?_
      refine va_iald hx hb hK hP 4 0 rfl rfl (vp_in_nI (by omega) (by omega)) dX0_size_13 ?_
      rw [nI_clamp (show so < 2 ^ 31 by omega)]
      refine lv_goto (tgt := 23) hx hb dX0_size_14 (by decide) ?_
      refine vx_ret ?_
      refine W.widen (k := 1) (n := 6) (by decide) (by decide) ?_
      exact W.iret (v := (sl so)) hx hb hr (fun t ht hW => ⟨⟨(sl so), so, rfl, ⟨rfl, hso, by first | rw [if_pos h5] | rw [if_neg h5]⟩, by show va_P (dC, dI) vwCl (wX cyI cyZ q0 q1 q2 q3 q4 q5 q6 wc wl sc sl cl ct rw co sk ss sq) t.heap; rw [ht]; exact hP⟩, hS.F ht⟩) hS.2.2 dX0_size_23
set_option maxHeartbeats 4000000 in
set_option maxRecDepth 100000 in
theorem k_X0_get (l : Launch) (hst : l.stackTraces = false) (dC : Nat → ClassId) (dI : Nat → Nat → Nat) (cyI cyZ : ClassId) (H0 : Heap) (q0 q1 q2 q3 q4 q5 q6 : Nat) (wc wl sc sl cl ct : Nat → Int32) (rw co sk ss sq : Int32) (hP : va_P (dC, dI) vwCl (wX cyI cyZ q0 q1 q2 q3 q4 q5 q6 wc wl sc sl cl ct rw co sk ss sq) H0) (hD0 : va_D (fun _ => True) (wX cyI cyZ q0 q1 q2 q3 q4 q5 q6 wc wl sc sl cl ct rw co sk ss sq)) (x : Int32) (y : Int32) (hwl : ∀ k, k < 5 → wl k = -1 ∨ ∃ n : Nat, n ≤ 64 ∧ wl k = nI n) : vx_Met l yX0_get wsX0_get ({ frames := 7, cells := 1, slots := 6, locals := 112 }) (va_Pc [.ref q0, .int x, .int y] (pZ dC dI (tyW cyI cyZ) H0 (va_A (wX cyI cyZ q0 q1 q2 q3 q4 q5 q6 wc wl sc sl cl ct rw co sk ss sq) H0.size))) (va_Qi (fun (r : Int32) (u : Nat × Nat) => match u with | (so, i) => x = nI so ∧ so < 5 ∧ y = nI i ∧ i < 64 ∧ ¬ wl so = -1 ∧ nI i < wl so ∧ r = wc (so * 64 + i)) (fun (u : Nat × Nat) (t : State) => match u with | (so, i) => va_P (dC, dI) vwCl (wX cyI cyZ q0 q1 q2 q3 q4 q5 q6 wc wl sc sl cl ct rw co sk ss sq) t.heap) (va_A (wX cyI cyZ q0 q1 q2 q3 q4 q5 q6 wc wl sc sl cl ct rw co sk ss sq) H0.size)) (gx_X (fun E : String => (E = eIA ∧ ¬ (¬ x < 0 ∧ x < nI 5)) ∨ (E = eIS ∧ ∃ so : Nat, so < 5 ∧ x = nI so ∧ wl so = -1) ∨ (E = eIO ∧ ∃ so : Nat, so < 5 ∧ x = nI so ∧ ¬ wl so = -1 ∧ ¬ (¬ y < 0 ∧ y < wl so))) H0) 1 6 (va_A (wX cyI cyZ q0 q1 q2 q3 q4 q5 q6 wc wl sc sl cl ct rw co sk ss sq) H0.size) := by
  refine vx_ofW (cc := cX0_get) (maxL := 3) (ret := (some .int)) (by decide) rfl ?_
  intro p e s m args below meth c s₁ B hml hne hv
  obtain ⟨rfl, rfl, hK, hz⟩ := hv
  have hx := B.exec
  have hb := B.bytes
  have hr := B.returns
  have hts := atoms_spec (ws := wsX0_get) B.pre
  have hown : s.vm.findClass RX0 = some m.cls := findClass_of_methodNamed B.named
  have hlocks := B.notSynchronized
  have hD := hD0.self (sz := s.heap.size)
  generalize hAe : (va_A (wX cyI cyZ q0 q1 q2 q3 q4 q5 q6 wc wl sc sl cl ct rw co sk ss sq) s.heap.size) = A at hD hz ⊢
  have hA : ∀ q : Nat, s.heap.size ≤ q → A q := fun q h => by rw [← hAe]; exact Or.inr h
  have hS : va_S A s.heap s.heap [] := va_S.rf
  have hl := lv_entry ([.ref q0, .int x, .int y]) (n := 3) (Nat.le_of_ble_eq_true rfl)
  rw [lg_entry_eq]
  generalize (lg_sl ([.ref q0, .int x, .int y]) ++ List.replicate (3 - (lg_sl ([.ref q0, .int x, .int y])).length) Slot.unset).toArray = ls at hl ⊢
  have hl : lv_has ls 3 [(0, .ref q0), (1, .int x), (2, .int y)] := hl
  have iw : ∀ w ∈ wsX00, w ∈ wsX0_get := by decide +kernel
  refine lv_iload_n hx hb dX0_get_0 rfl (lv_at hl 1 rfl) ?_
  refine gx_callv (vx_runS (As := [.int x]) (rest := []) ⟨hx, hb, hml, hown, hts⟩ (k_X0_requireSort l hst dC dI  _   x ) (va_cwS 1 hts gX0_get_X0_requireSort rfl rfl rfl (by decide +kernel) ⟨Nat.le_of_ble_eq_true rfl, Nat.le_of_ble_eq_true rfl⟩) (pZ_S (hK.sub (tys' := []) [] rfl) hz hS (fun q h => hA q (Nat.le_trans hS.1 h))) rfl rfl hl.1 rfl (lv_room (Nat.le_of_ble_eq_true rfl)) dX0_get_1 ⟨Nat.le_of_ble_eq_true rfl, Nat.le_of_ble_eq_true rfl⟩) hS (fun q h => hA q (Nat.le_trans hS.1 h)) (fun E ce q9 H1 locs1 hbad hz9 hk9 hS9 hce hcv hcl => ?_) (fun hok => ?_)
  · skip
    exact vx_out (fun y h => (hne y h).elim) hlocks hce hcv hcl (fun t ht _ => ⟨Or.inl ⟨hbad.1, hbad.2⟩, by rw [ht]; exact hz9, fun q hq => by rw [ht]; exact hk9 q hq⟩) hS9.2.2 (by decide) (by decide)
  · skip
    obtain ⟨so, hso, rfl⟩ := in_of (n := 5) (by decide) hok.1 hok.2
    refine lv_aload_n hx hb dX0_get_4 rfl (lv_at hl 0 rfl) ?_
    refine lv_iload_n hx hb dX0_get_5 rfl (lv_at hl 1 rfl) ?_
    refine gx_callv (vx_runV (As := [.int (nI so)]) (rest := []) ⟨hx, hb, hml, hown, hts⟩ (k_X0_requireMounted l hst dC dI cyI cyZ _ q0 q1 q2 q3 q4 q5 q6 wc wl sc sl cl ct rw co sk ss sq hP (hD.weaken (fun _ _ _ _ => trivial)) so (by omega)) (cwV 1 hts gX0_get_X0_requireMounted rfl rfl rfl (by decide +kernel) ⟨Nat.le_of_ble_eq_true rfl, Nat.le_of_ble_eq_true rfl⟩) (pZ_V hK hz hS (fun q h => hA q (Nat.le_trans hS.1 h)) (va_recv hK hP (ci := 0) (q0 := 0) rfl rfl)) rfl rfl hl.1 rfl (lv_room (Nat.le_of_ble_eq_true rfl)) dX0_get_6 ⟨Nat.le_of_ble_eq_true rfl, Nat.le_of_ble_eq_true rfl⟩) hS (fun q h => hA q (Nat.le_trans hS.1 h)) (fun E ce q9 H1 locs1 hbad hz9 hk9 hS9 hce hcv hcl => ?_) (fun hok => ?_)
    · skip
      exact vx_out (fun y h => (hne y h).elim) hlocks hce hcv hcl (fun t ht _ => ⟨Or.inr (Or.inl ⟨hbad.1, so, hso, rfl, hbad.2⟩), by rw [ht]; exact hz9, fun q hq => by rw [ht]; exact hk9 q hq⟩) hS9.2.2 (by decide) (by decide)
    · skip
      have hmt := hok
      refine lv_aload_n hx hb dX0_get_9 rfl (lv_at hl 0 rfl) ?_
      refine lv_iload_n hx hb dX0_get_10 rfl (lv_at hl 1 rfl) ?_
      refine lv_iload_n hx hb dX0_get_11 rfl (lv_at hl 2 rfl) ?_
      refine gx_callv (vx_runV (As := [.int (nI so), .int y]) (rest := []) ⟨hx, hb, hml, hown, hts⟩ (k_X0_requireCell l hst dC dI cyI cyZ _ q0 q1 q2 q3 q4 q5 q6 wc wl sc sl cl ct rw co sk ss sq hP (hD.weaken (fun _ _ _ _ => trivial)) so y (by omega)) (cwV 2 hts gX0_get_X0_requireCell rfl rfl rfl (by decide +kernel) ⟨Nat.le_of_ble_eq_true rfl, Nat.le_of_ble_eq_true rfl⟩) (pZ_V hK hz hS (fun q h => hA q (Nat.le_trans hS.1 h)) (va_recv hK hP (ci := 0) (q0 := 0) rfl rfl)) rfl rfl hl.1 rfl (lv_room (Nat.le_of_ble_eq_true rfl)) dX0_get_12 ⟨Nat.le_of_ble_eq_true rfl, Nat.le_of_ble_eq_true rfl⟩) hS (fun q h => hA q (Nat.le_trans hS.1 h)) (fun E ce q9 H1 locs1 hbad hz9 hk9 hS9 hce hcv hcl => ?_) (fun hok => ?_)
      · skip
        exact vx_out (fun y h => (hne y h).elim) hlocks hce hcv hcl (fun t ht _ => ⟨Or.inr (Or.inr ⟨hbad.1, so, hso, rfl, hmt, hbad.2⟩), by rw [ht]; exact hz9, fun q hq => by rw [ht]; exact hk9 q hq⟩) hS9.2.2 (by decide) (by decide)
      · skip
        have hcl := hok
        obtain ⟨i, hi64, rfl⟩ := in_of (n := 64) (by decide) hok.1 (i_lt hok.2 (wlB hwl hso))
        refine lv_aload_n hx hb dX0_get_15 rfl (lv_at hl 0 rfl) ?_
        refine va_get (D := (dC, dI)) (ci := 0) (v := .ref q1) (C := RX0) (T := TX0) (N := 11) hx hb hts iw hown hK hP 0 rfl rfl 0 (by decide) (hts (.fieldLink RX0 9 "ReelLoom" "workingCells" "[I") (by decide +kernel)) (fun _ h9 => h9) rfl dX0_get_16 ?_
        refine lv_iload_n hx hb dX0_get_19 rfl (lv_at hl 1 rfl) ?_
        refine lv_iload_n hx hb dX0_get_20 rfl (lv_at hl 2 rfl) ?_
        refine gx_calli (va_runS (As := [.int (nI so), .int (nI i)]) (rest := [.ref q1]) ⟨hx, hb, hml, hown, hts⟩ (k_X0_reelIndex l dC dI  _   so i ) (va_cwS 2 hts gX0_get_X0_reelIndex rfl rfl rfl (by decide +kernel) ⟨Nat.le_of_ble_eq_true rfl, Nat.le_of_ble_eq_true rfl⟩) (pK_S (hK.sub (tys' := []) [] rfl)) rfl rfl hl.1 rfl (lv_room (Nat.le_of_ble_eq_true rfl)) dX0_get_21 ⟨Nat.le_of_ble_eq_true rfl, Nat.le_of_ble_eq_true rfl⟩) (fun r_1 hr_1 => ?_)
        subst hr_1
        refine va_iald hx hb hK hP 1 0 rfl rfl (vp_in_nI (by omega) (by omega)) dX0_get_24 ?_
        rw [nI_clamp (show (so * 64 + i) < 2 ^ 31 by omega)]
        refine vx_ret ?_
        refine W.widen (k := 1) (n := 6) (by decide) (by decide) ?_
        exact W.iret (v := (wc ((so * 64 + i)))) hx hb hr (fun t ht hW => ⟨⟨(wc ((so * 64 + i))), (so, i), rfl, ⟨rfl, hso, rfl, hi64, hmt, hcl.2, rfl⟩, by show va_P (dC, dI) vwCl (wX cyI cyZ q0 q1 q2 q3 q4 q5 q6 wc wl sc sl cl ct rw co sk ss sq) t.heap; rw [ht]; exact hP⟩, hS.F ht⟩) hS.2.2 dX0_get_25
set_option maxHeartbeats 4000000 in
set_option maxRecDepth 100000 in
theorem k_X0_set (l : Launch) (hst : l.stackTraces = false) (dC : Nat → ClassId) (dI : Nat → Nat → Nat) (cyI cyZ : ClassId) (H0 : Heap) (q0 q1 q2 q3 q4 q5 q6 : Nat) (wc wl sc sl cl ct : Nat → Int32) (rw co sk ss sq : Int32) (hP : va_P (dC, dI) vwCl (wX cyI cyZ q0 q1 q2 q3 q4 q5 q6 wc wl sc sl cl ct rw co sk ss sq) H0) (hD0 : va_D (fun _ => True) (wX cyI cyZ q0 q1 q2 q3 q4 q5 q6 wc wl sc sl cl ct rw co sk ss sq)) (x : Int32) (y : Int32) (v : Int32) (hwl : ∀ k, k < 5 → wl k = -1 ∨ ∃ n : Nat, n ≤ 64 ∧ wl k = nI n) : vx_Met l yX0_set wsX0_set ({ frames := 7, cells := 1, slots := 6, locals := 112 }) (va_Pc [.ref q0, .int x, .int y, .int v] (pZ dC dI (tyW cyI cyZ) H0 (va_A (wX cyI cyZ q0 q1 q2 q3 q4 q5 q6 wc wl sc sl cl ct rw co sk ss sq) H0.size))) (va_Qi (fun (r : Int32) (u : Nat × Nat) => match u with | (so, i) => x = nI so ∧ so < 5 ∧ y = nI i ∧ i < 64 ∧ ¬ wl so = -1 ∧ nI i < wl so ∧ r = ft so v) (fun (u : Nat × Nat) (t : State) => match u with | (so, i) => va_P (dC, dI) vwCl (wX cyI cyZ q0 q1 q2 q3 q4 q5 q6 (upd wc (so * 64 + i) (ft so v)) wl sc sl cl ct rw co sk ss sq) t.heap) (va_A (wX cyI cyZ q0 q1 q2 q3 q4 q5 q6 wc wl sc sl cl ct rw co sk ss sq) H0.size)) (gx_X (fun E : String => (E = eIA ∧ ¬ (¬ x < 0 ∧ x < nI 5)) ∨ (E = eIS ∧ ∃ so : Nat, so < 5 ∧ x = nI so ∧ wl so = -1) ∨ (E = eIO ∧ ∃ so : Nat, so < 5 ∧ x = nI so ∧ ¬ wl so = -1 ∧ ¬ (¬ y < 0 ∧ y < wl so))) H0) 1 6 (va_A (wX cyI cyZ q0 q1 q2 q3 q4 q5 q6 wc wl sc sl cl ct rw co sk ss sq) H0.size) := by
  refine vx_ofW (cc := cX0_set) (maxL := 4) (ret := (some .int)) (by decide) rfl ?_
  intro p e s m args below meth c s₁ B hml hne hv
  obtain ⟨rfl, rfl, hK, hz⟩ := hv
  have hx := B.exec
  have hb := B.bytes
  have hr := B.returns
  have hts := atoms_spec (ws := wsX0_set) B.pre
  have hown : s.vm.findClass RX0 = some m.cls := findClass_of_methodNamed B.named
  have hlocks := B.notSynchronized
  have hD := hD0.self (sz := s.heap.size)
  generalize hAe : (va_A (wX cyI cyZ q0 q1 q2 q3 q4 q5 q6 wc wl sc sl cl ct rw co sk ss sq) s.heap.size) = A at hD hz ⊢
  have hA : ∀ q : Nat, s.heap.size ≤ q → A q := fun q h => by rw [← hAe]; exact Or.inr h
  have hS : va_S A s.heap s.heap [] := va_S.rf
  have hl := lv_entry ([.ref q0, .int x, .int y, .int v]) (n := 4) (Nat.le_of_ble_eq_true rfl)
  rw [lg_entry_eq]
  generalize (lg_sl ([.ref q0, .int x, .int y, .int v]) ++ List.replicate (4 - (lg_sl ([.ref q0, .int x, .int y, .int v])).length) Slot.unset).toArray = ls at hl ⊢
  have hl : lv_has ls 4 [(0, .ref q0), (1, .int x), (2, .int y), (3, .int v)] := hl
  refine lv_iload_n hx hb dX0_set_0 rfl (lv_at hl 1 rfl) ?_
  refine gx_callv (vx_runS (As := [.int x]) (rest := []) ⟨hx, hb, hml, hown, hts⟩ (k_X0_requireSort l hst dC dI  _   x ) (va_cwS 1 hts gX0_set_X0_requireSort rfl rfl rfl (by decide +kernel) ⟨Nat.le_of_ble_eq_true rfl, Nat.le_of_ble_eq_true rfl⟩) (pZ_S (hK.sub (tys' := []) [] rfl) hz hS (fun q h => hA q (Nat.le_trans hS.1 h))) rfl rfl hl.1 rfl (lv_room (Nat.le_of_ble_eq_true rfl)) dX0_set_1 ⟨Nat.le_of_ble_eq_true rfl, Nat.le_of_ble_eq_true rfl⟩) hS (fun q h => hA q (Nat.le_trans hS.1 h)) (fun E ce q9 H1 locs1 hbad hz9 hk9 hS9 hce hcv hcl => ?_) (fun hok => ?_)
  · skip
    exact vx_out (fun y h => (hne y h).elim) hlocks hce hcv hcl (fun t ht _ => ⟨Or.inl ⟨hbad.1, hbad.2⟩, by rw [ht]; exact hz9, fun q hq => by rw [ht]; exact hk9 q hq⟩) hS9.2.2 (by decide) (by decide)
  · skip
    obtain ⟨so, hso, rfl⟩ := in_of (n := 5) (by decide) hok.1 hok.2
    refine lv_aload_n hx hb dX0_set_4 rfl (lv_at hl 0 rfl) ?_
    refine lv_iload_n hx hb dX0_set_5 rfl (lv_at hl 1 rfl) ?_
    refine gx_callv (vx_runV (As := [.int (nI so)]) (rest := []) ⟨hx, hb, hml, hown, hts⟩ (k_X0_requireMounted l hst dC dI cyI cyZ _ q0 q1 q2 q3 q4 q5 q6 wc wl sc sl cl ct rw co sk ss sq hP (hD.weaken (fun _ _ _ _ => trivial)) so (by omega)) (cwV 1 hts gX0_set_X0_requireMounted rfl rfl rfl (by decide +kernel) ⟨Nat.le_of_ble_eq_true rfl, Nat.le_of_ble_eq_true rfl⟩) (pZ_V hK hz hS (fun q h => hA q (Nat.le_trans hS.1 h)) (va_recv hK hP (ci := 0) (q0 := 0) rfl rfl)) rfl rfl hl.1 rfl (lv_room (Nat.le_of_ble_eq_true rfl)) dX0_set_6 ⟨Nat.le_of_ble_eq_true rfl, Nat.le_of_ble_eq_true rfl⟩) hS (fun q h => hA q (Nat.le_trans hS.1 h)) (fun E ce q9 H1 locs1 hbad hz9 hk9 hS9 hce hcv hcl => ?_) (fun hok => ?_)
    · skip
      exact vx_out (fun y h => (hne y h).elim) hlocks hce hcv hcl (fun t ht _ => ⟨Or.inr (Or.inl ⟨hbad.1, so, hso, rfl, hbad.2⟩), by rw [ht]; exact hz9, fun q hq => by rw [ht]; exact hk9 q hq⟩) hS9.2.2 (by decide) (by decide)
    · skip
      have hmt := hok
      refine lv_aload_n hx hb dX0_set_9 rfl (lv_at hl 0 rfl) ?_
      refine lv_iload_n hx hb dX0_set_10 rfl (lv_at hl 1 rfl) ?_
      refine lv_iload_n hx hb dX0_set_11 rfl (lv_at hl 2 rfl) ?_
      refine gx_callv (vx_runV (As := [.int (nI so), .int y]) (rest := []) ⟨hx, hb, hml, hown, hts⟩ (k_X0_requireCell l hst dC dI cyI cyZ _ q0 q1 q2 q3 q4 q5 q6 wc wl sc sl cl ct rw co sk ss sq hP (hD.weaken (fun _ _ _ _ => trivial)) so y (by omega)) (cwV 2 hts gX0_set_X0_requireCell rfl rfl rfl (by decide +kernel) ⟨Nat.le_of_ble_eq_true rfl, Nat.le_of_ble_eq_true rfl⟩) (pZ_V hK hz hS (fun q h => hA q (Nat.le_trans hS.1 h)) (va_recv hK hP (ci := 0) (q0 := 0) rfl rfl)) rfl rfl hl.1 rfl (lv_room (Nat.le_of_ble_eq_true rfl)) dX0_set_12 ⟨Nat.le_of_ble_eq_true rfl, Nat.le_of_ble_eq_true rfl⟩) hS (fun q h => hA q (Nat.le_trans hS.1 h)) (fun E ce q9 H1 locs1 hbad hz9 hk9 hS9 hce hcv hcl => ?_) (fun hok => ?_)
      · skip
        exact vx_out (fun y h => (hne y h).elim) hlocks hce hcv hcl (fun t ht _ => ⟨Or.inr (Or.inr ⟨hbad.1, so, hso, rfl, hmt, hbad.2⟩), by rw [ht]; exact hz9, fun q hq => by rw [ht]; exact hk9 q hq⟩) hS9.2.2 (by decide) (by decide)
      · skip
        have hcl := hok
        obtain ⟨i, hi64, rfl⟩ := in_of (n := 64) (by decide) hok.1 (i_lt hok.2 (wlB hwl hso))
        refine lv_aload_n hx hb dX0_set_15 rfl (lv_at hl 0 rfl) ?_
        refine lv_iload_n hx hb dX0_set_16 rfl (lv_at hl 1 rfl) ?_
        refine lv_iload_n hx hb dX0_set_17 rfl (lv_at hl 2 rfl) ?_
        refine lv_iload_n hx hb dX0_set_18 rfl (lv_at hl 3 rfl) ?_
        have hFc := va_free (wc := wX cyI cyZ q0 q1 q2 q3 q4 q5 q6 wc wl sc sl cl ct rw co sk ss sq) hD hS hA [0, 1, 2, 3, 4, 5, 6] rfl
        refine va_calli (va_runV (As := [.int (nI so), .int (nI i), .int v]) (rest := []) ⟨hx, hb, hml, hown, hts⟩ (k_X0_put l dC dI cyI cyZ _ q0 q1 q2 q3 q4 q5 q6 wc wl sc sl cl ct rw co sk ss sq hP (hD.weaken (fun _ _ _ _ => trivial)) so i v (by omega) (by omega)) (cwV 3 hts gX0_set_X0_put rfl rfl rfl (by decide +kernel) ⟨Nat.le_of_ble_eq_true rfl, Nat.le_of_ble_eq_true rfl⟩) (pK_V hK (va_recv hK hP (ci := 0) (q0 := 0) rfl rfl)) rfl rfl hl.1 rfl (lv_room (Nat.le_of_ble_eq_true rfl)) dX0_set_19 ⟨Nat.le_of_ble_eq_true rfl, Nat.le_of_ble_eq_true rfl⟩) hS (fun q _ h => hFc q h) hFc (fun r19 u t H1 locs ht hvm hw hB hz1 hk1 hS => ?_)
        have hP : va_P (dC, dI) vwCl (wX cyI cyZ q0 q1 q2 q3 q4 q5 q6 (upd wc (so * 64 + i) (ft so v)) wl sc sl cl ct rw co sk ss sq) t.heap := hB
        rw [ht] at hP
        have hD : va_D A (wX cyI cyZ q0 q1 q2 q3 q4 q5 q6 (upd wc (so * 64 + i) (ft so v)) wl sc sl cl ct rw co sk ss sq) := wX_D hD
        clear hB
        generalize H1 = H at hP hS ⊢
        refine vx_ret ?_
        refine W.widen (k := 1) (n := 6) (by decide) (by decide) ?_
        exact W.iret (v := r19) hx hb hr (fun t ht hW => ⟨⟨r19, (so, i), rfl, ⟨rfl, hso, rfl, hi64, hmt, hcl.2, hw⟩, by show va_P (dC, dI) vwCl (wX cyI cyZ q0 q1 q2 q3 q4 q5 q6 (upd wc (so * 64 + i) (ft so v)) wl sc sl cl ct rw co sk ss sq) t.heap; rw [ht]; exact hP⟩, hS.F ht⟩) hS.2.2 dX0_set_22
set_option maxHeartbeats 4000000 in
set_option maxRecDepth 100000 in
theorem k_X0_alter (l : Launch) (hst : l.stackTraces = false) (dC : Nat → ClassId) (dI : Nat → Nat → Nat) (cyI cyZ : ClassId) (H0 : Heap) (q0 q1 q2 q3 q4 q5 q6 : Nat) (wc wl sc sl cl ct : Nat → Int32) (rw co sk ss sq : Int32) (hP : va_P (dC, dI) vwCl (wX cyI cyZ q0 q1 q2 q3 q4 q5 q6 wc wl sc sl cl ct rw co sk ss sq) H0) (hD0 : va_D (fun _ => True) (wX cyI cyZ q0 q1 q2 q3 q4 q5 q6 wc wl sc sl cl ct rw co sk ss sq)) (x : Int32) (y : Int32) (h : Int32) (v : Int32) (hwl : ∀ k, k < 5 → wl k = -1 ∨ ∃ n : Nat, n ≤ 64 ∧ wl k = nI n) : vx_Met l yX0_alter wsX0_alter ({ frames := 8, cells := 1, slots := 6, locals := 132 }) (va_Pc [.ref q0, .int x, .int y, .int h, .int v] (pZ dC dI (tyW cyI cyZ) H0 (va_A (wX cyI cyZ q0 q1 q2 q3 q4 q5 q6 wc wl sc sl cl ct rw co sk ss sq) H0.size))) (va_Qi (fun (r : Int32) (u : Nat × Nat) => match u with | (so, i) => x = nI so ∧ so < 5 ∧ y = nI i ∧ i < 64 ∧ okA so h v ∧ ¬ wl so = -1 ∧ nI i < wl so ∧ r = ft so (cb (wc (so * 64 + i)) h (opd so v))) (fun (u : Nat × Nat) (t : State) => match u with | (so, i) => va_P (dC, dI) vwCl (wX cyI cyZ q0 q1 q2 q3 q4 q5 q6 (upd wc (so * 64 + i) (ft so (cb (wc (so * 64 + i)) h (opd so v)))) wl sc sl cl ct rw co sk ss sq) t.heap) (va_A (wX cyI cyZ q0 q1 q2 q3 q4 q5 q6 wc wl sc sl cl ct rw co sk ss sq) H0.size)) (gx_X (fun E : String => (E = eIA ∧ (¬ (¬ x < 0 ∧ x < nI 5) ∨ ∃ so : Nat, so < 5 ∧ x = nI so ∧ ¬ okA so h v)) ∨ (E = eIS ∧ ∃ so : Nat, so < 5 ∧ x = nI so ∧ okA so h v ∧ wl so = -1) ∨ (E = eIO ∧ ∃ so : Nat, so < 5 ∧ x = nI so ∧ okA so h v ∧ ¬ wl so = -1 ∧ ¬ (¬ y < 0 ∧ y < wl so))) H0) 1 6 (va_A (wX cyI cyZ q0 q1 q2 q3 q4 q5 q6 wc wl sc sl cl ct rw co sk ss sq) H0.size) := by
  refine vx_ofW (cc := cX0_alter) (maxL := 6) (ret := (some .int)) (by decide) rfl ?_
  intro p e s m args below meth c s₁ B hml hne hv
  obtain ⟨rfl, rfl, hK, hz⟩ := hv
  have hx := B.exec
  have hb := B.bytes
  have hr := B.returns
  have hts := atoms_spec (ws := wsX0_alter) B.pre
  have hown : s.vm.findClass RX0 = some m.cls := findClass_of_methodNamed B.named
  have hlocks := B.notSynchronized
  have hD := hD0.self (sz := s.heap.size)
  generalize hAe : (va_A (wX cyI cyZ q0 q1 q2 q3 q4 q5 q6 wc wl sc sl cl ct rw co sk ss sq) s.heap.size) = A at hD hz ⊢
  have hA : ∀ q : Nat, s.heap.size ≤ q → A q := fun q h => by rw [← hAe]; exact Or.inr h
  have hS : va_S A s.heap s.heap [] := va_S.rf
  have hl := lv_entry ([.ref q0, .int x, .int y, .int h, .int v]) (n := 6) (Nat.le_of_ble_eq_true rfl)
  rw [lg_entry_eq]
  generalize (lg_sl ([.ref q0, .int x, .int y, .int h, .int v]) ++ List.replicate (6 - (lg_sl ([.ref q0, .int x, .int y, .int h, .int v])).length) Slot.unset).toArray = ls at hl ⊢
  have hl : lv_has ls 6 [(0, .ref q0), (1, .int x), (2, .int y), (3, .int h), (4, .int v)] := hl
  have iw : ∀ w ∈ wsX00, w ∈ wsX0_alter := by decide +kernel
  refine lv_iload_n hx hb dX0_alter_0 rfl (lv_at hl 1 rfl) ?_
  refine gx_callv (vx_runS (As := [.int x]) (rest := []) ⟨hx, hb, hml, hown, hts⟩ (k_X0_requireSort l hst dC dI  _   x ) (va_cwS 1 hts gX0_alter_X0_requireSort rfl rfl rfl (by decide +kernel) ⟨Nat.le_of_ble_eq_true rfl, Nat.le_of_ble_eq_true rfl⟩) (pZ_S (hK.sub (tys' := []) [] rfl) hz hS (fun q h => hA q (Nat.le_trans hS.1 h))) rfl rfl hl.1 rfl (lv_room (Nat.le_of_ble_eq_true rfl)) dX0_alter_1 ⟨Nat.le_of_ble_eq_true rfl, Nat.le_of_ble_eq_true rfl⟩) hS (fun q h => hA q (Nat.le_trans hS.1 h)) (fun E ce q9 H1 locs1 hbad hz9 hk9 hS9 hce hcv hcl => ?_) (fun hok => ?_)
  · skip
    exact vx_out (fun y h => (hne y h).elim) hlocks hce hcv hcl (fun t ht _ => ⟨Or.inl ⟨hbad.1, Or.inl hbad.2⟩, by rw [ht]; exact hz9, fun q hq => by rw [ht]; exact hk9 q hq⟩) hS9.2.2 (by decide) (by decide)
  · skip
    obtain ⟨so, hso, rfl⟩ := in_of (n := 5) (by decide) hok.1 hok.2
    refine lv_iload_n hx hb dX0_alter_4 rfl (lv_at hl 1 rfl) ?_
    refine lv_iload_n hx hb dX0_alter_5 rfl (lv_at hl 3 rfl) ?_
    refine lv_iload hx hb dX0_alter_6 (lv_at hl 4 rfl) ?_
    refine gx_callv (vx_runS (As := [.int (nI so), .int h, .int v]) (rest := []) ⟨hx, hb, hml, hown, hts⟩ (k_X0_requireAlterable l hst dC dI  _   so h v (by omega)) (va_cwS 3 hts gX0_alter_X0_requireAlterable rfl rfl rfl (by decide +kernel) ⟨Nat.le_of_ble_eq_true rfl, Nat.le_of_ble_eq_true rfl⟩) (pZ_S (hK.sub (tys' := []) [] rfl) hz hS (fun q h => hA q (Nat.le_trans hS.1 h))) rfl rfl hl.1 rfl (lv_room (Nat.le_of_ble_eq_true rfl)) dX0_alter_8 ⟨Nat.le_of_ble_eq_true rfl, Nat.le_of_ble_eq_true rfl⟩) hS (fun q h => hA q (Nat.le_trans hS.1 h)) (fun E ce q9 H1 locs1 hbad hz9 hk9 hS9 hce hcv hcl => ?_) (fun hok => ?_)
    · skip
      exact vx_out (fun y h => (hne y h).elim) hlocks hce hcv hcl (fun t ht _ => ⟨Or.inl ⟨hbad.1, Or.inr ⟨so, hso, rfl, hbad.2⟩⟩, by rw [ht]; exact hz9, fun q hq => by rw [ht]; exact hk9 q hq⟩) hS9.2.2 (by decide) (by decide)
    · skip
      have hal := hok
      refine lv_aload_n hx hb dX0_alter_11 rfl (lv_at hl 0 rfl) ?_
      refine lv_iload_n hx hb dX0_alter_12 rfl (lv_at hl 1 rfl) ?_
      refine gx_callv (vx_runV (As := [.int (nI so)]) (rest := []) ⟨hx, hb, hml, hown, hts⟩ (k_X0_requireMounted l hst dC dI cyI cyZ _ q0 q1 q2 q3 q4 q5 q6 wc wl sc sl cl ct rw co sk ss sq hP (hD.weaken (fun _ _ _ _ => trivial)) so (by omega)) (cwV 1 hts gX0_alter_X0_requireMounted rfl rfl rfl (by decide +kernel) ⟨Nat.le_of_ble_eq_true rfl, Nat.le_of_ble_eq_true rfl⟩) (pZ_V hK hz hS (fun q h => hA q (Nat.le_trans hS.1 h)) (va_recv hK hP (ci := 0) (q0 := 0) rfl rfl)) rfl rfl hl.1 rfl (lv_room (Nat.le_of_ble_eq_true rfl)) dX0_alter_13 ⟨Nat.le_of_ble_eq_true rfl, Nat.le_of_ble_eq_true rfl⟩) hS (fun q h => hA q (Nat.le_trans hS.1 h)) (fun E ce q9 H1 locs1 hbad hz9 hk9 hS9 hce hcv hcl => ?_) (fun hok => ?_)
      · skip
        exact vx_out (fun y h => (hne y h).elim) hlocks hce hcv hcl (fun t ht _ => ⟨Or.inr (Or.inl ⟨hbad.1, so, hso, rfl, hal, hbad.2⟩), by rw [ht]; exact hz9, fun q hq => by rw [ht]; exact hk9 q hq⟩) hS9.2.2 (by decide) (by decide)
      · skip
        have hmt := hok
        refine lv_aload_n hx hb dX0_alter_16 rfl (lv_at hl 0 rfl) ?_
        refine lv_iload_n hx hb dX0_alter_17 rfl (lv_at hl 1 rfl) ?_
        refine lv_iload_n hx hb dX0_alter_18 rfl (lv_at hl 2 rfl) ?_
        refine gx_callv (vx_runV (As := [.int (nI so), .int y]) (rest := []) ⟨hx, hb, hml, hown, hts⟩ (k_X0_requireCell l hst dC dI cyI cyZ _ q0 q1 q2 q3 q4 q5 q6 wc wl sc sl cl ct rw co sk ss sq hP (hD.weaken (fun _ _ _ _ => trivial)) so y (by omega)) (cwV 2 hts gX0_alter_X0_requireCell rfl rfl rfl (by decide +kernel) ⟨Nat.le_of_ble_eq_true rfl, Nat.le_of_ble_eq_true rfl⟩) (pZ_V hK hz hS (fun q h => hA q (Nat.le_trans hS.1 h)) (va_recv hK hP (ci := 0) (q0 := 0) rfl rfl)) rfl rfl hl.1 rfl (lv_room (Nat.le_of_ble_eq_true rfl)) dX0_alter_19 ⟨Nat.le_of_ble_eq_true rfl, Nat.le_of_ble_eq_true rfl⟩) hS (fun q h => hA q (Nat.le_trans hS.1 h)) (fun E ce q9 H1 locs1 hbad hz9 hk9 hS9 hce hcv hcl => ?_) (fun hok => ?_)
        · skip
          exact vx_out (fun y h => (hne y h).elim) hlocks hce hcv hcl (fun t ht _ => ⟨Or.inr (Or.inr ⟨hbad.1, so, hso, rfl, hal, hmt, hbad.2⟩), by rw [ht]; exact hz9, fun q hq => by rw [ht]; exact hk9 q hq⟩) hS9.2.2 (by decide) (by decide)
        · skip
          have hcl := hok
          obtain ⟨i, hi64, rfl⟩ := in_of (n := 64) (by decide) hok.1 (i_lt hok.2 (wlB hwl hso))
          refine lv_iload_n hx hb dX0_alter_22 rfl (lv_at hl 1 rfl) ?_
          refine lv_iconst (v := nI 3) hx hb dX0_alter_23 (by decide) ?_
          refine lv_icmp_ne (tgt := 36) hx hb dX0_alter_24 (by decide) (fun h24 => ?_) (fun h24 => ?_)
          · skip
            rw [nI_eq (by omega) (by omega)] at h24
            refine lv_iload hx hb dX0_alter_36 (lv_at hl 4 rfl) ?_
            refine lv_topi (fun y9 ey9 => ?_)
            have ey9 : y9 = opd so v := by unfold opd; first | rw [if_pos h24]; exact ey9 | rw [if_neg h24]; exact ey9
            subst ey9
            refine lv_istore (lv' := [(5, .int (opd so v)), (0, .ref q0), (1, .int (nI so)), (2, .int (nI i)), (3, .int h), (4, .int v)]) hx hb dX0_alter_38 hl (by decide) rfl (fun ls hl => ?_)
            refine lv_aload_n hx hb dX0_alter_40 rfl (lv_at hl 1 rfl) ?_
            refine lv_iload_n hx hb dX0_alter_41 rfl (lv_at hl 2 rfl) ?_
            refine lv_iload_n hx hb dX0_alter_42 rfl (lv_at hl 3 rfl) ?_
            refine lv_aload_n hx hb dX0_alter_43 rfl (lv_at hl 1 rfl) ?_
            refine va_get (D := (dC, dI)) (ci := 0) (v := .ref q1) (C := RX0) (T := TX0) (N := 11) hx hb hts iw hown hK hP 0 rfl rfl 0 (by decide) (hts (.fieldLink RX0 9 "ReelLoom" "workingCells" "[I") (by decide +kernel)) (fun _ h9 => h9) rfl dX0_alter_44 ?_
            refine lv_iload_n hx hb dX0_alter_47 rfl (lv_at hl 2 rfl) ?_
            refine lv_iload_n hx hb dX0_alter_48 rfl (lv_at hl 3 rfl) ?_
            refine gx_calli (va_runS (As := [.int (nI so), .int (nI i)]) (rest := [.ref q1, .int (nI i), .int (nI so), .ref q0]) ⟨hx, hb, hml, hown, hts⟩ (k_X0_reelIndex l dC dI  _   so i ) (va_cwS 2 hts gX0_alter_X0_reelIndex rfl rfl rfl (by decide +kernel) ⟨Nat.le_of_ble_eq_true rfl, Nat.le_of_ble_eq_true rfl⟩) (pK_S (hK.sub (tys' := []) [] rfl)) rfl rfl hl.1 rfl (lv_room (Nat.le_of_ble_eq_true rfl)) dX0_alter_49 ⟨Nat.le_of_ble_eq_true rfl, Nat.le_of_ble_eq_true rfl⟩) (fun r_2 hr_2 => ?_)
            subst hr_2
            refine va_iald hx hb hK hP 1 0 rfl rfl (vp_in_nI (by omega) (by omega)) dX0_alter_52 ?_
            rw [nI_clamp (show (so * 64 + i) < 2 ^ 31 by omega)]
            refine lv_iload_n hx hb dX0_alter_53 rfl (lv_at hl 4 rfl) ?_
            refine lv_iload hx hb dX0_alter_54 (lv_at hl 0 rfl) ?_
            refine gx_calli (va_runS (As := [.int (wc ((so * 64 + i))), .int h, .int (opd so v)]) (rest := [.int (nI i), .int (nI so), .ref q0]) ⟨hx, hb, hml, hown, hts⟩ (k_X0_combined l dC dI  _   (wc ((so * 64 + i))) h (opd so v) ) (va_cwS 3 hts gX0_alter_X0_combined rfl rfl rfl (by decide +kernel) ⟨Nat.le_of_ble_eq_true rfl, Nat.le_of_ble_eq_true rfl⟩) (pK_S (hK.sub (tys' := []) [] rfl)) rfl rfl hl.1 rfl (lv_room (Nat.le_of_ble_eq_true rfl)) dX0_alter_56 ⟨Nat.le_of_ble_eq_true rfl, Nat.le_of_ble_eq_true rfl⟩) (fun r_3 hr_3 => ?_)
            subst hr_3
            have hFc := va_free (wc := wX cyI cyZ q0 q1 q2 q3 q4 q5 q6 wc wl sc sl cl ct rw co sk ss sq) hD hS hA [0, 1, 2, 3, 4, 5, 6] rfl
            refine va_calli (va_runV (As := [.int (nI so), .int (nI i), .int (cb ((wc ((so * 64 + i)))) h ((opd so v)))]) (rest := []) ⟨hx, hb, hml, hown, hts⟩ (k_X0_put l dC dI cyI cyZ _ q0 q1 q2 q3 q4 q5 q6 wc wl sc sl cl ct rw co sk ss sq hP (hD.weaken (fun _ _ _ _ => trivial)) so i (cb ((wc ((so * 64 + i)))) h ((opd so v))) (by omega) (by omega)) (cwV 3 hts gX0_alter_X0_put rfl rfl rfl (by decide +kernel) ⟨Nat.le_of_ble_eq_true rfl, Nat.le_of_ble_eq_true rfl⟩) (pK_V hK (va_recv hK hP (ci := 0) (q0 := 0) rfl rfl)) rfl rfl hl.1 rfl (lv_room (Nat.le_of_ble_eq_true rfl)) dX0_alter_59 ⟨Nat.le_of_ble_eq_true rfl, Nat.le_of_ble_eq_true rfl⟩) hS (fun q _ h => hFc q h) hFc (fun r59 u t H1 locs ht hvm hw hB hz1 hk1 hS => ?_)
            have hP : va_P (dC, dI) vwCl (wX cyI cyZ q0 q1 q2 q3 q4 q5 q6 (upd wc (so * 64 + i) (ft so ((cb ((wc ((so * 64 + i)))) h ((opd so v)))))) wl sc sl cl ct rw co sk ss sq) t.heap := hB
            rw [ht] at hP
            have hD : va_D A (wX cyI cyZ q0 q1 q2 q3 q4 q5 q6 (upd wc (so * 64 + i) (ft so ((cb ((wc ((so * 64 + i)))) h ((opd so v)))))) wl sc sl cl ct rw co sk ss sq) := wX_D hD
            clear hB
            generalize H1 = H at hP hS ⊢
            refine vx_ret ?_
            refine W.widen (k := 1) (n := 6) (by decide) (by decide) ?_
            exact W.iret (v := r59) hx hb hr (fun t ht hW => ⟨⟨r59, (so, i), rfl, ⟨rfl, hso, rfl, hi64, hal, hmt, hcl.2, hw⟩, by show va_P (dC, dI) vwCl (wX cyI cyZ q0 q1 q2 q3 q4 q5 q6 (upd wc (so * 64 + i) (ft so ((cb ((wc ((so * 64 + i)))) h ((opd so v)))))) wl sc sl cl ct rw co sk ss sq) t.heap; rw [ht]; exact hP⟩, hS.F ht⟩) hS.2.2 dX0_alter_62
          · skip
            rw [nI_eq (by omega) (by omega)] at h24
            refine lv_iconst (v := nI 3) hx hb dX0_alter_27 (by decide) ?_
            refine lv_iload hx hb dX0_alter_28 (lv_at hl 4 rfl) ?_
            refine gx_calli (va_runS (As := [.int (nI 3), .int v]) (rest := []) ⟨hx, hb, hml, hown, hts⟩ (k_X0_fitted l dC dI  _   3 v (by omega)) (va_cwS 2 hts gX0_alter_X0_fitted rfl rfl rfl (by decide +kernel) ⟨Nat.le_of_ble_eq_true rfl, Nat.le_of_ble_eq_true rfl⟩) (pK_S (hK.sub (tys' := []) [] rfl)) rfl rfl hl.1 rfl (lv_room (Nat.le_of_ble_eq_true rfl)) dX0_alter_30 ⟨Nat.le_of_ble_eq_true rfl, Nat.le_of_ble_eq_true rfl⟩) (fun r_5 hr_5 => ?_)
            subst hr_5
            refine lv_goto (tgt := 38) hx hb dX0_alter_33 (by decide) ?_
            refine lv_topi (fun y9 ey9 => ?_)
            have ey9 : y9 = opd so v := by unfold opd; first | rw [if_pos h24]; exact ey9 | rw [if_neg h24]; exact ey9
            subst ey9
            refine lv_istore (lv' := [(5, .int (opd so v)), (0, .ref q0), (1, .int (nI so)), (2, .int (nI i)), (3, .int h), (4, .int v)]) hx hb dX0_alter_38 hl (by decide) rfl (fun ls hl => ?_)
            refine lv_aload_n hx hb dX0_alter_40 rfl (lv_at hl 1 rfl) ?_
            refine lv_iload_n hx hb dX0_alter_41 rfl (lv_at hl 2 rfl) ?_
            refine lv_iload_n hx hb dX0_alter_42 rfl (lv_at hl 3 rfl) ?_
            refine lv_aload_n hx hb dX0_alter_43 rfl (lv_at hl 1 rfl) ?_
            refine va_get (D := (dC, dI)) (ci := 0) (v := .ref q1) (C := RX0) (T := TX0) (N := 11) hx hb hts iw hown hK hP 0 rfl rfl 0 (by decide) (hts (.fieldLink RX0 9 "ReelLoom" "workingCells" "[I") (by decide +kernel)) (fun _ h9 => h9) rfl dX0_alter_44 ?_
            refine lv_iload_n hx hb dX0_alter_47 rfl (lv_at hl 2 rfl) ?_
            refine lv_iload_n hx hb dX0_alter_48 rfl (lv_at hl 3 rfl) ?_
            refine gx_calli (va_runS (As := [.int (nI so), .int (nI i)]) (rest := [.ref q1, .int (nI i), .int (nI so), .ref q0]) ⟨hx, hb, hml, hown, hts⟩ (k_X0_reelIndex l dC dI  _   so i ) (va_cwS 2 hts gX0_alter_X0_reelIndex rfl rfl rfl (by decide +kernel) ⟨Nat.le_of_ble_eq_true rfl, Nat.le_of_ble_eq_true rfl⟩) (pK_S (hK.sub (tys' := []) [] rfl)) rfl rfl hl.1 rfl (lv_room (Nat.le_of_ble_eq_true rfl)) dX0_alter_49 ⟨Nat.le_of_ble_eq_true rfl, Nat.le_of_ble_eq_true rfl⟩) (fun r_6 hr_6 => ?_)
            subst hr_6
            refine va_iald hx hb hK hP 1 0 rfl rfl (vp_in_nI (by omega) (by omega)) dX0_alter_52 ?_
            rw [nI_clamp (show (so * 64 + i) < 2 ^ 31 by omega)]
            refine lv_iload_n hx hb dX0_alter_53 rfl (lv_at hl 4 rfl) ?_
            refine lv_iload hx hb dX0_alter_54 (lv_at hl 0 rfl) ?_
            refine gx_calli (va_runS (As := [.int (wc ((so * 64 + i))), .int h, .int (opd so v)]) (rest := [.int (nI i), .int (nI so), .ref q0]) ⟨hx, hb, hml, hown, hts⟩ (k_X0_combined l dC dI  _   (wc ((so * 64 + i))) h (opd so v) ) (va_cwS 3 hts gX0_alter_X0_combined rfl rfl rfl (by decide +kernel) ⟨Nat.le_of_ble_eq_true rfl, Nat.le_of_ble_eq_true rfl⟩) (pK_S (hK.sub (tys' := []) [] rfl)) rfl rfl hl.1 rfl (lv_room (Nat.le_of_ble_eq_true rfl)) dX0_alter_56 ⟨Nat.le_of_ble_eq_true rfl, Nat.le_of_ble_eq_true rfl⟩) (fun r_7 hr_7 => ?_)
            subst hr_7
            have hFc := va_free (wc := wX cyI cyZ q0 q1 q2 q3 q4 q5 q6 wc wl sc sl cl ct rw co sk ss sq) hD hS hA [0, 1, 2, 3, 4, 5, 6] rfl
            refine va_calli (va_runV (As := [.int (nI so), .int (nI i), .int (cb ((wc ((so * 64 + i)))) h ((opd so v)))]) (rest := []) ⟨hx, hb, hml, hown, hts⟩ (k_X0_put l dC dI cyI cyZ _ q0 q1 q2 q3 q4 q5 q6 wc wl sc sl cl ct rw co sk ss sq hP (hD.weaken (fun _ _ _ _ => trivial)) so i (cb ((wc ((so * 64 + i)))) h ((opd so v))) (by omega) (by omega)) (cwV 3 hts gX0_alter_X0_put rfl rfl rfl (by decide +kernel) ⟨Nat.le_of_ble_eq_true rfl, Nat.le_of_ble_eq_true rfl⟩) (pK_V hK (va_recv hK hP (ci := 0) (q0 := 0) rfl rfl)) rfl rfl hl.1 rfl (lv_room (Nat.le_of_ble_eq_true rfl)) dX0_alter_59 ⟨Nat.le_of_ble_eq_true rfl, Nat.le_of_ble_eq_true rfl⟩) hS (fun q _ h => hFc q h) hFc (fun r59 u t H1 locs ht hvm hw hB hz1 hk1 hS => ?_)
            have hP : va_P (dC, dI) vwCl (wX cyI cyZ q0 q1 q2 q3 q4 q5 q6 (upd wc (so * 64 + i) (ft so ((cb ((wc ((so * 64 + i)))) h ((opd so v)))))) wl sc sl cl ct rw co sk ss sq) t.heap := hB
            rw [ht] at hP
            have hD : va_D A (wX cyI cyZ q0 q1 q2 q3 q4 q5 q6 (upd wc (so * 64 + i) (ft so ((cb ((wc ((so * 64 + i)))) h ((opd so v)))))) wl sc sl cl ct rw co sk ss sq) := wX_D hD
            clear hB
            generalize H1 = H at hP hS ⊢
            refine vx_ret ?_
            refine W.widen (k := 1) (n := 6) (by decide) (by decide) ?_
            exact W.iret (v := r59) hx hb hr (fun t ht hW => ⟨⟨r59, (so, i), rfl, ⟨rfl, hso, rfl, hi64, hal, hmt, hcl.2, hw⟩, by show va_P (dC, dI) vwCl (wX cyI cyZ q0 q1 q2 q3 q4 q5 q6 (upd wc (so * 64 + i) (ft so ((cb ((wc ((so * 64 + i)))) h ((opd so v)))))) wl sc sl cl ct rw co sk ss sq) t.heap; rw [ht]; exact hP⟩, hS.F ht⟩) hS.2.2 dX0_alter_62
