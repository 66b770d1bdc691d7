theorem and15 (x : Int32) : ∃ j : Nat, j < 16 ∧ x &&& 15 = nI j := by
  refine ⟨x.toBitVec.toNat % 16, Nat.mod_lt _ (by decide), ?_⟩
  apply Int32.toBitVec_inj.mp
  apply BitVec.eq_of_toNat_eq
  show (x.toBitVec &&& 15#32).toNat = (Int32.ofNat (x.toBitVec.toNat % 16)).toBitVec.toNat
  rw [BitVec.toNat_and]
  have e : (Int32.ofNat (x.toBitVec.toNat % 16)).toBitVec = BitVec.ofNat 32 (x.toBitVec.toNat % 16) := rfl
  rw [e]
  show x.toBitVec.toNat &&& (2 ^ 4 - 1) = (x.toBitVec.toNat % 16) % 2 ^ 32
  rw [Nat.and_two_pow_sub_one_eq_mod]
  omega
theorem lg_cmp_self (x : Int64) : lg_cmp x x = 0 := by simp [lg_cmp]
theorem nI_5 (t : Nat) : nI (5 * t) + Int32.ofInt 5 = nI (5 * (t + 1)) := nI_add (5 * t) 5
abbrev wL (cyI cyZ cyJ : ClassId) (q0 q1 q2 q3 q4 q5 q6 qo p0 p1 p2 p3 p4 : Nat) (wc wl sc sl cl ct : Nat → Int32) (rw co sk ss sq : Int32) (oo : Nat → Int64) (mn me ml mt : Nat → Int32) (th wo mr mo mk mz mq : Int32) : va_W :=
  [(q0, .inr (0, [.ref q1, .ref q2, .ref q3, .ref q4, .ref q5, .ref q6, .int rw, .int co, .int sk, .int ss, .int sq])), (q1, .inl (cyI, 320, .inl wc)), (q2, .inl (cyI, 5, .inl wl)), (q3, .inl (cyI, 320, .inl sc)), (q4, .inl (cyI, 5, .inl sl)), (q5, .inl (cyI, 1600, .inl cl)), (q6, .inl (cyZ, 40, .inl ct)), (qo, .inl (cyJ, 1, .inr (.inl oo))), (p0, .inr (1, [.int th, .ref p1, .ref p2, .int wo, .int mr, .int mo, .ref p3, .ref p4, .int mk, .int mz, .int mq])), (p1, .inl (cyI, 10, .inl mn)), (p2, .inl (cyI, 640, .inl me)), (p3, .inl (cyI, 1600, .inl ml)), (p4, .inl (cyZ, 40, .inl mt))]
theorem wO_D {A : Nat → Prop} {cyI cyZ cyJ : ClassId} {q0 q1 q2 q3 q4 q5 q6 qo : Nat} {wc wl sc sl cl ct : Nat → Int32} {rw co sk ss sq : Int32} {oo : Nat → Int64} {wc2 wl2 sc2 sl2 cl2 ct2 : Nat → Int32} {rw2 co2 sk2 ss2 sq2 : Int32} {oo2 : Nat → Int64} (h : va_D A (wXO cyI cyZ cyJ q0 q1 q2 q3 q4 q5 q6 qo wc wl sc sl cl ct rw co sk ss sq oo)) : va_D A (wXO cyI cyZ cyJ q0 q1 q2 q3 q4 q5 q6 qo wc2 wl2 sc2 sl2 cl2 ct2 rw2 co2 sk2 ss2 sq2 oo2) := h.addr rfl
def lwI (dC : Nat → ClassId) (dI : Nat → Nat → Nat) (cyI cyZ cyJ : ClassId) (A : Nat → Prop) (s : State) (b : Nat) (q0 q1 q2 q3 q4 q5 q6 qo p0 p1 p2 p3 p4 : Nat) (t : Nat) (H : Heap) (locs : List Loc) (ls : Array Slot) : Prop :=
  ∃ (wc wl sc sl cl ct : Nat → Int32) (rw co sk ss sq : Int32) (oo : Nat → Int64) (mn me ml mt : Nat → Int32) (th wo mr mo mk mz mq : Int32), va_P (dC, dI) vwCl (wL cyI cyZ cyJ q0 q1 q2 q3 q4 q5 q6 qo p0 p1 p2 p3 p4 wc wl sc sl cl ct rw co sk ss sq oo mn me ml mt th wo mr mo mk mz mq) H ∧ va_D A (wL cyI cyZ cyJ q0 q1 q2 q3 q4 q5 q6 qo p0 p1 p2 p3 p4 wc wl sc sl cl ct rw co sk ss sq oo mn me ml mt th wo mr mo mk mz mq) ∧ Rel wc wl sc sl cl ct rw co sk ss sq mn me ml mt wo mr mo mk mz mq ∧ va_S A s.heap H locs ∧ lv_has ls 7 [(4, .int (nI (5 * t))), (3, .ref qo), (2, .ref p0), (1, .ref q0), (0, .ref b)]
def lwC (p : Program) (l : Launch) (s : State) (m : MethodId) (c : Code) (dC : Nat → ClassId) (dI : Nat → Nat → Nat) (cyI cyZ cyJ : ClassId) (A : Nat → Prop) (b L : Nat) (xs : Nat → Int32) : Prop :=
  p.tables.exec = Jvm.exec ∧ c.code = cL_law ∧ c.maxLocals = 7 ∧ s.vm.findClass RL = some m.cls ∧ (∀ w ∈ wsL_law, w.before #[Value.ref b] s = true) ∧ va_X b L xs s s.heap ∧ b < s.heap.size ∧ ¬ A b ∧ (∀ q : Nat, s.heap.size ≤ q → A q) ∧ va_K (dC, dI) vwCl (tyO cyI cyZ cyJ) s ∧ zT A s ∧ L ≤ 2560 ∧ l.stackTraces = false
set_option maxHeartbeats 4000000 in
/-- a turn's end -/
theorem lc_tail {p : Program} {l : Launch} {e : Env} {s : State} {m : MethodId} {below : List Frame} {meth : Method} {c : Code} {dC : Nat → ClassId} {dI : Nat → Nat → Nat} {cyI cyZ cyJ : ClassId} {A : Nat → Prop} {b L : Nat} {xs : Nat → Int32} {Q : State → Prop} {q0 q1 q2 q3 q4 q5 q6 qo p0 p1 p2 p3 p4 : Nat} {wc wl sc sl cl ct : Nat → Int32} {rw co sk ss sq : Int32} {oo : Nat → Int64} {mn me ml mt : Nat → Int32} {th wo mr mo mk mz mq : Int32} {t : Nat} {H : Heap} {locs : List Loc} {ls : Array Slot} {cells slots : Nat} {k v : Int32} (hc : lwC p l s m c dC dI cyI cyZ cyJ A b L xs) (h1 : cells ≤ 13 + (t + 1)) (h2 : slots ≤ 4603 + 6 * (t + 1)) (hP : va_P (dC, dI) vwCl (wL cyI cyZ cyJ q0 q1 q2 q3 q4 q5 q6 qo p0 p1 p2 p3 p4 wc wl sc sl cl ct rw co sk ss sq oo mn me ml mt th wo mr mo mk mz mq) H) (hD : va_D A (wL cyI cyZ cyJ q0 q1 q2 q3 q4 q5 q6 qo p0 p1 p2 p3 p4 wc wl sc sl cl ct rw co sk ss sq oo mn me ml mt th wo mr mo mk mz mq)) (hR : Rel wc wl sc sl cl ct rw co sk ss sq mn me ml mt wo mr mo mk mz mq) (hS : va_S A s.heap H locs) (hl : lv_has ls 7 [(6, .int v), (5, .int k), (4, .int (nI (5 * t))), (3, .ref qo), (2, .ref p0), (1, .ref q0), (0, .ref b)])
    (ih : ∀ (H : Heap) (locs : List Loc) (ls : Array Slot), lwI dC dI cyI cyZ cyJ A s b q0 q1 q2 q3 q4 q5 q6 qo p0 p1 p2 p3 p4 (t + 1) H locs ls → W p l e room_1 s m #[Value.ref b] below meth c H locs (13 + (t + 1)) (4603 + 6 * (t + 1)) Q (F0 m 23 ls [])) : W p l e room_1 s m #[Value.ref b] below meth c H locs (cells) (slots) Q (F0 m 1208 ls []) := by
  obtain ⟨hx, hb, hml, hown, hts, hX, hbl, hbA, hA, hK, hz, hL, hst⟩ := hc
  refine lv_iinc (v := nI (5 * (t + 1))) (lv' := [(4, .int (nI (5 * (t + 1)))), (6, .int v), (5, .int k), (3, .ref qo), (2, .ref p0), (1, .ref q0), (0, .ref b)]) hx hb dL_law_1208 hl (k := 2) rfl (nI_5 t) (by decide) rfl (fun ls hl => ?_)
  refine lv_goto (tgt := 23) hx hb dL_law_1211 (by decide) ?_
  refine W.widen h1 h2 ?_
  exact ih _ _ _ ⟨_, _, _, _, _, _, _, _, _, _, _, _, _, _, _, _, _, _, _, _, _, _, _, hP, hD, hR, hS, lv_sub hl [0, 3, 4, 5, 6] rfl⟩
set_option maxHeartbeats 4000000 in
set_option maxRecDepth 100000 in
theorem lc_mount {p : Program} {l : Launch} {e : Env} {s : State} {m : MethodId} {below : List Frame} {meth : Method} {c : Code} {dC : Nat → ClassId} {dI : Nat → Nat → Nat} {cyI cyZ cyJ : ClassId} {A : Nat → Prop} {b L : Nat} {xs : Nat → Int32} {Q : State → Prop} {q0 q1 q2 q3 q4 q5 q6 qo p0 p1 p2 p3 p4 : Nat} {wc wl sc sl cl ct : Nat → Int32} {rw co sk ss sq : Int32} {oo : Nat → Int64} {mn me ml mt : Nat → Int32} {th wo mr mo mk mz mq : Int32} {t : Nat} {H : Heap} {locs : List Loc} {ls : Array Slot} (hc : lwC p l s m c dC dI cyI cyZ cyJ A b L xs) (ht : 5 * t + 5 ≤ L) (hP : va_P (dC, dI) vwCl (wL cyI cyZ cyJ q0 q1 q2 q3 q4 q5 q6 qo p0 p1 p2 p3 p4 wc wl sc sl cl ct rw co sk ss sq oo mn me ml mt th wo mr mo mk mz mq) H) (hD : va_D A (wL cyI cyZ cyJ q0 q1 q2 q3 q4 q5 q6 qo p0 p1 p2 p3 p4 wc wl sc sl cl ct rw co sk ss sq oo mn me ml mt th wo mr mo mk mz mq)) (hR : Rel wc wl sc sl cl ct rw co sk ss sq mn me ml mt wo mr mo mk mz mq) (hS : va_S A s.heap H locs) (hl : lv_has ls 7 [(4, .int (nI (5 * t))), (3, .ref qo), (2, .ref p0), (1, .ref q0), (0, .ref b)])
    (ih : ∀ (H : Heap) (locs : List Loc) (ls : Array Slot), lwI dC dI cyI cyZ cyJ A s b q0 q1 q2 q3 q4 q5 q6 qo p0 p1 p2 p3 p4 (t + 1) H locs ls → W p l e room_1 s m #[Value.ref b] below meth c H locs (13 + (t + 1)) (4603 + 6 * (t + 1)) Q (F0 m 23 ls [])) : W p l e room_1 s m #[Value.ref b] below meth c H locs (13 + t) (4603 + 6 * t) Q (F0 m 116 ls []) := by
  have hc0 := hc
  obtain ⟨hx, hb, hml, hown, hts, hX, hbl, hbA, hA, hK, hz, hL, hst⟩ := hc
  have hKm := hK.sub (tys' := tyW cyI cyZ) [0, 1] rfl
  obtain ⟨x, ex⟩ : ∃ z, xs (5 * t + 1) = z := ⟨_, rfl⟩
  obtain ⟨y, ey⟩ : ∃ z, xs (5 * t + 2) = z := ⟨_, rfl⟩
  refine lv_aload_n hx hb dL_law_116 rfl (lv_at hl 3 rfl) ?_
  refine lv_aload_n hx hb dL_law_117 rfl (lv_at hl 4 rfl) ?_
  refine lv_iload hx hb dL_law_118 (lv_at hl 0 rfl) ?_
  refine lv_iconst (v := nI 1) hx hb dL_law_120 (by decide) ?_
  refine lv_iadd hx hb dL_law_121 ?_
  rw [nI_add]
  refine va_sld hx hb hX hbl hbA hS (vp_in_nI (by omega) (by omega)) dL_law_122 ?_
  rw [nI_clamp (show 5 * t + 1 < 2 ^ 31 by omega), ex]
  refine lv_aload_n hx hb dL_law_123 rfl (lv_at hl 4 rfl) ?_
  refine lv_iload hx hb dL_law_124 (lv_at hl 0 rfl) ?_
  refine lv_iconst (v := nI 2) hx hb dL_law_126 (by decide) ?_
  refine lv_iadd hx hb dL_law_127 ?_
  rw [nI_add]
  refine va_sld hx hb hX hbl hbA hS (vp_in_nI (by omega) (by omega)) dL_law_128 ?_
  rw [nI_clamp (show 5 * t + 2 < 2 ^ 31 by omega), ey]
  refine lv_aload_n hx hb dL_law_129 rfl (lv_at hl 1 rfl) ?_
  have hPx := hP.sub (ws' := wXO cyI cyZ cyJ q0 q1 q2 q3 q4 q5 q6 qo wc wl sc sl cl ct rw co sk ss sq oo) [0, 1, 2, 3, 4, 5, 6, 7] rfl
  have hDs := hD.sub (ws' := wXO cyI cyZ cyJ q0 q1 q2 q3 q4 q5 q6 qo wc wl sc sl cl ct rw co sk ss sq oo) [0, 1, 2, 3, 4, 5, 6, 7] (by decide) rfl
  have hFc := va_free (wc := wXO cyI cyZ cyJ q0 q1 q2 q3 q4 q5 q6 qo wc wl sc sl cl ct rw co sk ss sq oo) hD hS hA [0, 1, 2, 3, 4, 5, 6, 7] rfl
  refine va_calli (vx_runSW (As := [.ref q0, .int x, .int y, .ref qo]) (rest := []) ⟨hx, hb, hml, hown, hts⟩ (k_L_mount l hst dC dI cyI cyZ cyJ _ q0 q1 q2 q3 q4 q5 q6 qo wc wl sc sl cl ct rw co sk ss sq oo hPx (hDs.weaken (fun _ _ _ _ => trivial)) x y ) (vx_cwSW 4 hts gL_law_L_mount rfl rfl rfl (by decide +kernel) ⟨Nat.le_of_ble_eq_true rfl, Nat.le_of_ble_eq_true rfl⟩) (pZ_S hK hz hS hFc) rfl rfl hl.1 rfl (lv_room (Nat.le_of_ble_eq_true rfl)) dL_law_130 ⟨show 13 + t + 1 ≤ 1054 by omega, show 4603 + 6 * t + 6 ≤ 12897 by omega⟩) hS (fun q _ h => hFc q h) hFc (fun k u t9 H locs ht9 hvm hw hB hz1 hk1 hS => ?_)
  obtain ⟨wc9, wl9, oo9⟩ := u
  have hw : ((¬ ((¬ x < 0 ∧ x < nI 5) ∧ ¬ y < 0 ∧ y ≤ nI 64)) ∧ k = 1 ∧ wc9 = wc ∧ wl9 = wl ∧ oo9 = oo) ∨ (k = 0 ∧ ∃ (rr : Int32) (so : Nat) (nn : Nat), (x = nI so ∧ so < 5 ∧ y = nI nn ∧ nn ≤ 64 ∧ rr = wl so) ∧ wc9 = fl wc (so * 64) 0 nn ∧ wl9 = upd wl so (nI nn) ∧ oo9 = vp_updL oo 0 rr.toInt64) := hw
  have hB : va_P (dC, dI) vwCl (wXO cyI cyZ cyJ q0 q1 q2 q3 q4 q5 q6 qo wc9 wl9 sc sl cl ct rw co sk ss sq oo9) t9.heap := hB
  rw [ht9] at hB
  obtain ⟨hP, hD⟩ := va_join (w1 := wXO cyI cyZ cyJ q0 q1 q2 q3 q4 q5 q6 qo wc9 wl9 sc sl cl ct rw co sk ss sq oo9) (wr := wM cyI cyZ p0 p1 p2 p3 p4 mn me ml mt th wo mr mo mk mz mq) hP hD [0, 1, 2, 3, 4, 5, 6, 7] [8, 9, 10, 11, 12] rfl rfl (by decide) (by decide) hk1 hFc hB (wO_D (hDs.self (sz := _)))
  have hP : va_P (dC, dI) vwCl (wL cyI cyZ cyJ q0 q1 q2 q3 q4 q5 q6 qo p0 p1 p2 p3 p4 wc9 wl9 sc sl cl ct rw co sk ss sq oo9 mn me ml mt th wo mr mo mk mz mq) H := hP.sub (ws' := wL cyI cyZ cyJ q0 q1 q2 q3 q4 q5 q6 qo p0 p1 p2 p3 p4 wc9 wl9 sc sl cl ct rw co sk ss sq oo9 mn me ml mt th wo mr mo mk mz mq) [5, 6, 7, 8, 9, 10, 11, 12, 0, 1, 2, 3, 4] rfl
  have hD : va_D A (wL cyI cyZ cyJ q0 q1 q2 q3 q4 q5 q6 qo p0 p1 p2 p3 p4 wc9 wl9 sc sl cl ct rw co sk ss sq oo9 mn me ml mt th wo mr mo mk mz mq) := hD.sub (ws' := wL cyI cyZ cyJ q0 q1 q2 q3 q4 q5 q6 qo p0 p1 p2 p3 p4 wc9 wl9 sc sl cl ct rw co sk ss sq oo9 mn me ml mt th wo mr mo mk mz mq) [5, 6, 7, 8, 9, 10, 11, 12, 0, 1, 2, 3, 4] (by decide) rfl
  clear hB hk1 hz1 hPx hDs hFc ht9 hvm
  refine lv_istore (lv' := [(5, .int k), (4, .int (nI (5 * t))), (3, .ref qo), (2, .ref p0), (1, .ref q0), (0, .ref b)]) hx hb dL_law_133 hl (by decide) rfl (fun ls hl => ?_)
  refine lv_aload_n hx hb dL_law_135 rfl (lv_at hl 3 rfl) ?_
  refine lv_aload_n hx hb dL_law_136 rfl (lv_at hl 5 rfl) ?_
  refine lv_iload hx hb dL_law_137 (lv_at hl 1 rfl) ?_
  refine lv_iconst (v := nI 1) hx hb dL_law_139 (by decide) ?_
  refine lv_iadd hx hb dL_law_140 ?_
  rw [nI_add]
  refine va_sld hx hb hX hbl hbA hS (vp_in_nI (by omega) (by omega)) dL_law_141 ?_
  rw [nI_clamp (show 5 * t + 1 < 2 ^ 31 by omega), ex]
  refine lv_aload_n hx hb dL_law_142 rfl (lv_at hl 5 rfl) ?_
  refine lv_iload hx hb dL_law_143 (lv_at hl 1 rfl) ?_
  refine lv_iconst (v := nI 2) hx hb dL_law_145 (by decide) ?_
  refine lv_iadd hx hb dL_law_146 ?_
  rw [nI_add]
  refine va_sld hx hb hX hbl hbA hS (vp_in_nI (by omega) (by omega)) dL_law_147 ?_
  rw [nI_clamp (show 5 * t + 2 < 2 ^ 31 by omega), ey]
  have hPm := hP.sub (ws' := wM cyI cyZ p0 p1 p2 p3 p4 mn me ml mt th wo mr mo mk mz mq) [8, 9, 10, 11, 12] rfl
  have hDm := hD.sub (ws' := wM cyI cyZ p0 p1 p2 p3 p4 mn me ml mt th wo mr mo mk mz mq) [8, 9, 10, 11, 12] (by decide) rfl
  have hFm := va_free (wc := wM cyI cyZ p0 p1 p2 p3 p4 mn me ml mt th wo mr mo mk mz mq) hD hS hA [8, 9, 10, 11, 12] rfl
  refine va_calli (va_runV (As := [.int x, .int y]) (rest := []) ⟨hx, hb, hml, hown, hts⟩ (k_X1_mount l dC dI cyI cyZ _ p0 p1 p2 p3 p4 mn me ml mt th wo mr mo mk mz mq hPm (hDm.weaken (fun _ _ _ _ => trivial)) x y ) (cwV 2 hts gL_law_X1_mount rfl rfl rfl (by decide +kernel) ⟨Nat.le_of_ble_eq_true rfl, Nat.le_of_ble_eq_true rfl⟩) (pK_V hKm (va_recv hK hP (ci := 1) (q0 := 8) rfl rfl)) rfl rfl hl.1 rfl (lv_room (Nat.le_of_ble_eq_true rfl)) dL_law_148 ⟨show 13 + t + 1 + 0 ≤ 1054 by omega, show 4603 + 6 * t + 6 + 0 ≤ 12897 by omega⟩) hS (fun q _ h => hFm q h) hFm (fun v9 u t9 H locs ht9 hvm hm hB hz1 hk1 hS => ?_)
  obtain ⟨th2, mn2, me2⟩ := u
  have hm : (¬ (okS x ∧ ¬ y < 0 ∧ y ≤ nI 64) ∧ th2 = 1 ∧ mn2 = mn ∧ me2 = me) ∨ (th2 = 0 ∧ ∃ so nn : Nat, so < 5 ∧ x = nI so ∧ nn ≤ 64 ∧ y = nI nn ∧ v9 = mn (2 * so) ∧ mn2 = upd mn (2 * so) (nI nn) ∧ me2 = fl me (64 * (2 * so)) 0 nn) := hm
  have hB : va_P (dC, dI) vwCl (wM cyI cyZ p0 p1 p2 p3 p4 mn2 me2 ml mt th2 wo mr mo mk mz mq) t9.heap := hB
  rw [ht9] at hB
  obtain ⟨hP, hD⟩ := va_join (w1 := wM cyI cyZ p0 p1 p2 p3 p4 mn2 me2 ml mt th2 wo mr mo mk mz mq) (wr := wXO cyI cyZ cyJ q0 q1 q2 q3 q4 q5 q6 qo wc9 wl9 sc sl cl ct rw co sk ss sq oo9) hP hD [8, 9, 10, 11, 12] [0, 1, 2, 3, 4, 5, 6, 7] rfl rfl (by decide) (by decide) hk1 hFm hB (wM_D (hDm.self (sz := _)))
  have hP : va_P (dC, dI) vwCl (wL cyI cyZ cyJ q0 q1 q2 q3 q4 q5 q6 qo p0 p1 p2 p3 p4 wc9 wl9 sc sl cl ct rw co sk ss sq oo9 mn2 me2 ml mt th2 wo mr mo mk mz mq) H := hP
  have hD : va_D A (wL cyI cyZ cyJ q0 q1 q2 q3 q4 q5 q6 qo p0 p1 p2 p3 p4 wc9 wl9 sc sl cl ct rw co sk ss sq oo9 mn2 me2 ml mt th2 wo mr mo mk mz mq) := hD
  clear hB hk1 hz1 hPm hDm hFm ht9 hvm
  obtain ⟨e1, e2, hR⟩ := rel_mount hR hw hm
  clear hw hm
  refine lv_istore (lv' := [(6, .int v9), (5, .int k), (4, .int (nI (5 * t))), (3, .ref qo), (2, .ref p0), (1, .ref q0), (0, .ref b)]) hx hb dL_law_151 hl (by decide) rfl (fun ls hl => ?_)
  refine lv_aload_n hx hb dL_law_153 rfl (lv_at hl 4 rfl) ?_
  have hPm := hP.sub (ws' := wM cyI cyZ p0 p1 p2 p3 p4 mn2 me2 ml mt th2 wo mr mo mk mz mq) [8, 9, 10, 11, 12] rfl
  have hDm := hD.sub (ws' := wM cyI cyZ p0 p1 p2 p3 p4 mn2 me2 ml mt th2 wo mr mo mk mz mq) [8, 9, 10, 11, 12] (by decide) rfl
  refine gx_calli (va_runV (As := []) (rest := []) ⟨hx, hb, hml, hown, hts⟩ (k_X1_thrown l dC dI cyI cyZ _ p0 p1 p2 p3 p4 mn2 me2 ml mt th2 wo mr mo mk mz mq hPm (hDm.weaken (fun _ _ _ _ => trivial))) (cwV 0 hts gL_law_X1_thrown rfl rfl rfl (by decide +kernel) ⟨Nat.le_of_ble_eq_true rfl, Nat.le_of_ble_eq_true rfl⟩) (pK_V hKm (va_recv hK hP (ci := 1) (q0 := 8) rfl rfl)) rfl rfl hl.1 rfl (lv_room (Nat.le_of_ble_eq_true rfl)) dL_law_154 ⟨show 13 + t + 1 + 0 + 0 ≤ 1054 by omega, show 4603 + 6 * t + 6 + 0 + 0 ≤ 12897 by omega⟩) (fun r9 hr9 => ?_)
  subst hr9
  refine lv_iload hx hb dL_law_157 (lv_at hl 1 rfl) ?_
  refine lv_icmp_eq (tgt := 164) hx hb dL_law_159 (by decide) (fun _ => ?_) (fun c1 => absurd e1.symm c1)
  refine lv_iload hx hb dL_law_164 (lv_at hl 1 rfl) ?_
  refine lv_if_ne (tgt := 181) hx hb dL_law_166 (by decide) (fun _ => ?_) (fun c2 => ?_)
  · refine lv_goto (tgt := 1208) hx hb dL_law_181 (by decide) ?_
    exact lc_tail hc0 (by omega) (by omega) hP hD hR hS hl ih
  · skip
    refine lv_aload_n hx hb dL_law_169 rfl (lv_at hl 3 rfl) ?_
    refine lv_iconst (v := nI 0) hx hb dL_law_170 (by decide) ?_
    refine va_lald hx hb hK hP 7 2 rfl rfl (vp_in_nI (by omega) (by omega)) dL_law_171 ?_
    rw [nI_clamp (show 0 < 2 ^ 31 by omega), e2 c2]
    refine lv_iload hx hb dL_law_172 (lv_at hl 0 rfl) ?_
    refine lv_i2l hx hb dL_law_174 rfl ?_
    refine W.lcmp hx hb dL_law_175 ?_
    rw [lg_cmp_self]
    refine lv_if_eq (tgt := 181) hx hb dL_law_176 (by decide) (fun _ => ?_) (fun c3 => absurd rfl c3)
    refine lv_goto (tgt := 1208) hx hb dL_law_181 (by decide) ?_
    exact lc_tail hc0 (by omega) (by omega) hP hD hR hS hl ih
set_option maxHeartbeats 4000000 in
set_option maxRecDepth 100000 in
theorem lc_off {p : Program} {l : Launch} {e : Env} {s : State} {m : MethodId} {below : List Frame} {meth : Method} {c : Code} {dC : Nat → ClassId} {dI : Nat → Nat → Nat} {cyI cyZ cyJ : ClassId} {A : Nat → Prop} {b L : Nat} {xs : Nat → Int32} {Q : State → Prop} {q0 q1 q2 q3 q4 q5 q6 qo p0 p1 p2 p3 p4 : Nat} {wc wl sc sl cl ct : Nat → Int32} {rw co sk ss sq : Int32} {oo : Nat → Int64} {mn me ml mt : Nat → Int32} {th wo mr mo mk mz mq : Int32} {t : Nat} {H : Heap} {locs : List Loc} {ls : Array Slot} (hc : lwC p l s m c dC dI cyI cyZ cyJ A b L xs) (ht : 5 * t + 5 ≤ L) (hP : va_P (dC, dI) vwCl (wL cyI cyZ cyJ q0 q1 q2 q3 q4 q5 q6 qo p0 p1 p2 p3 p4 wc wl sc sl cl ct rw co sk ss sq oo mn me ml mt th wo mr mo mk mz mq) H) (hD : va_D A (wL cyI cyZ cyJ q0 q1 q2 q3 q4 q5 q6 qo p0 p1 p2 p3 p4 wc wl sc sl cl ct rw co sk ss sq oo mn me ml mt th wo mr mo mk mz mq)) (hR : Rel wc wl sc sl cl ct rw co sk ss sq mn me ml mt wo mr mo mk mz mq) (hS : va_S A s.heap H locs) (hl : lv_has ls 7 [(4, .int (nI (5 * t))), (3, .ref qo), (2, .ref p0), (1, .ref q0), (0, .ref b)])
    (ih : ∀ (H : Heap) (locs : List Loc) (ls : Array Slot), lwI dC dI cyI cyZ cyJ A s b q0 q1 q2 q3 q4 q5 q6 qo p0 p1 p2 p3 p4 (t + 1) H locs ls → W p l e room_1 s m #[Value.ref b] below meth c H locs (13 + (t + 1)) (4603 + 6 * (t + 1)) Q (F0 m 23 ls [])) : W p l e room_1 s m #[Value.ref b] below meth c H locs (13 + t) (4603 + 6 * t) Q (F0 m 184 ls []) := by
  have hc0 := hc
  obtain ⟨hx, hb, hml, hown, hts, hX, hbl, hbA, hA, hK, hz, hL, hst⟩ := hc
  have hKm := hK.sub (tys' := tyW cyI cyZ) [0, 1] rfl
  obtain ⟨x, ex⟩ : ∃ z, xs (5 * t + 1) = z := ⟨_, rfl⟩
  refine lv_aload_n hx hb dL_law_184 rfl (lv_at hl 3 rfl) ?_
  refine lv_aload_n hx hb dL_law_185 rfl (lv_at hl 4 rfl) ?_
  refine lv_iload hx hb dL_law_186 (lv_at hl 0 rfl) ?_
  refine lv_iconst (v := nI 1) hx hb dL_law_188 (by decide) ?_
  refine lv_iadd hx hb dL_law_189 ?_
  rw [nI_add]
  refine va_sld hx hb hX hbl hbA hS (vp_in_nI (by omega) (by omega)) dL_law_190 ?_
  rw [nI_clamp (show 5 * t + 1 < 2 ^ 31 by omega), ex]
  refine lv_aload_n hx hb dL_law_191 rfl (lv_at hl 1 rfl) ?_
  have hPx := hP.sub (ws' := wXO cyI cyZ cyJ q0 q1 q2 q3 q4 q5 q6 qo wc wl sc sl cl ct rw co sk ss sq oo) [0, 1, 2, 3, 4, 5, 6, 7] rfl
  have hDs := hD.sub (ws' := wXO cyI cyZ cyJ q0 q1 q2 q3 q4 q5 q6 qo wc wl sc sl cl ct rw co sk ss sq oo) [0, 1, 2, 3, 4, 5, 6, 7] (by decide) rfl
  have hFc := va_free (wc := wXO cyI cyZ cyJ q0 q1 q2 q3 q4 q5 q6 qo wc wl sc sl cl ct rw co sk ss sq oo) hD hS hA [0, 1, 2, 3, 4, 5, 6, 7] rfl
  refine va_calli (vx_runSW (As := [.ref q0, .int x, .ref qo]) (rest := []) ⟨hx, hb, hml, hown, hts⟩ (k_L_off l hst dC dI cyI cyZ cyJ _ q0 q1 q2 q3 q4 q5 q6 qo wc wl sc sl cl ct rw co sk ss sq oo hPx (hDs.weaken (fun _ _ _ _ => trivial)) x ) (vx_cwSW 3 hts gL_law_L_off rfl rfl rfl (by decide +kernel) ⟨Nat.le_of_ble_eq_true rfl, Nat.le_of_ble_eq_true rfl⟩) (pZ_S hK hz hS hFc) rfl rfl hl.1 rfl (lv_room (Nat.le_of_ble_eq_true rfl)) dL_law_192 ⟨show 13 + t + 1 ≤ 1054 by omega, show 4603 + 6 * t + 6 ≤ 12897 by omega⟩) hS (fun q _ h => hFc q h) hFc (fun k u t9 H locs ht9 hvm hw hB hz1 hk1 hS => ?_)
  obtain ⟨wl9, oo9⟩ := u
  have hw : ((¬ (¬ x < 0 ∧ x < nI 5)) ∧ k = 1 ∧ wl9 = wl ∧ oo9 = oo) ∨ ((∃ so : Nat, so < 5 ∧ x = nI so ∧ wl so = -1) ∧ k = 2 ∧ wl9 = wl ∧ oo9 = oo) ∨ (k = 0 ∧ ∃ (rr : Int32) (so : Nat), (x = nI so ∧ so < 5 ∧ ¬ wl so = -1 ∧ rr = wl so) ∧ wl9 = upd wl so (-1) ∧ oo9 = vp_updL oo 0 rr.toInt64) := hw
  have hB : va_P (dC, dI) vwCl (wXO cyI cyZ cyJ q0 q1 q2 q3 q4 q5 q6 qo wc wl9 sc sl cl ct rw co sk ss sq oo9) t9.heap := hB
  rw [ht9] at hB
  obtain ⟨hP, hD⟩ := va_join (w1 := wXO cyI cyZ cyJ q0 q1 q2 q3 q4 q5 q6 qo wc wl9 sc sl cl ct rw co sk ss sq oo9) (wr := wM cyI cyZ p0 p1 p2 p3 p4 mn me ml mt th wo mr mo mk mz mq) hP hD [0, 1, 2, 3, 4, 5, 6, 7] [8, 9, 10, 11, 12] rfl rfl (by decide) (by decide) hk1 hFc hB (wO_D (hDs.self (sz := _)))
  have hP : va_P (dC, dI) vwCl (wL cyI cyZ cyJ q0 q1 q2 q3 q4 q5 q6 qo p0 p1 p2 p3 p4 wc wl9 sc sl cl ct rw co sk ss sq oo9 mn me ml mt th wo mr mo mk mz mq) H := hP.sub (ws' := wL cyI cyZ cyJ q0 q1 q2 q3 q4 q5 q6 qo p0 p1 p2 p3 p4 wc wl9 sc sl cl ct rw co sk ss sq oo9 mn me ml mt th wo mr mo mk mz mq) [5, 6, 7, 8, 9, 10, 11, 12, 0, 1, 2, 3, 4] rfl
  have hD : va_D A (wL cyI cyZ cyJ q0 q1 q2 q3 q4 q5 q6 qo p0 p1 p2 p3 p4 wc wl9 sc sl cl ct rw co sk ss sq oo9 mn me ml mt th wo mr mo mk mz mq) := hD.sub (ws' := wL cyI cyZ cyJ q0 q1 q2 q3 q4 q5 q6 qo p0 p1 p2 p3 p4 wc wl9 sc sl cl ct rw co sk ss sq oo9 mn me ml mt th wo mr mo mk mz mq) [5, 6, 7, 8, 9, 10, 11, 12, 0, 1, 2, 3, 4] (by decide) rfl
  clear hB hk1 hz1 hPx hDs hFc ht9 hvm
  refine lv_istore (lv' := [(5, .int k), (4, .int (nI (5 * t))), (3, .ref qo), (2, .ref p0), (1, .ref q0), (0, .ref b)]) hx hb dL_law_195 hl (by decide) rfl (fun ls hl => ?_)
  refine lv_aload_n hx hb dL_law_197 rfl (lv_at hl 3 rfl) ?_
  refine lv_aload_n hx hb dL_law_198 rfl (lv_at hl 5 rfl) ?_
  refine lv_iload hx hb dL_law_199 (lv_at hl 1 rfl) ?_
  refine lv_iconst (v := nI 1) hx hb dL_law_201 (by decide) ?_
  refine lv_iadd hx hb dL_law_202 ?_
  rw [nI_add]
  refine va_sld hx hb hX hbl hbA hS (vp_in_nI (by omega) (by omega)) dL_law_203 ?_
  rw [nI_clamp (show 5 * t + 1 < 2 ^ 31 by omega), ex]
  have hPm := hP.sub (ws' := wM cyI cyZ p0 p1 p2 p3 p4 mn me ml mt th wo mr mo mk mz mq) [8, 9, 10, 11, 12] rfl
  have hDm := hD.sub (ws' := wM cyI cyZ p0 p1 p2 p3 p4 mn me ml mt th wo mr mo mk mz mq) [8, 9, 10, 11, 12] (by decide) rfl
  have hFm := va_free (wc := wM cyI cyZ p0 p1 p2 p3 p4 mn me ml mt th wo mr mo mk mz mq) hD hS hA [8, 9, 10, 11, 12] rfl
  refine va_calli (va_runV (As := [.int x]) (rest := []) ⟨hx, hb, hml, hown, hts⟩ (k_X1_off l dC dI cyI cyZ _ p0 p1 p2 p3 p4 mn me ml mt th wo mr mo mk mz mq hPm (hDm.weaken (fun _ _ _ _ => trivial)) x ) (cwV 1 hts gL_law_X1_off rfl rfl rfl (by decide +kernel) ⟨Nat.le_of_ble_eq_true rfl, Nat.le_of_ble_eq_true rfl⟩) (pK_V hKm (va_recv hK hP (ci := 1) (q0 := 8) rfl rfl)) rfl rfl hl.1 rfl (lv_room (Nat.le_of_ble_eq_true rfl)) dL_law_204 ⟨show 13 + t + 1 + 0 ≤ 1054 by omega, show 4603 + 6 * t + 6 + 0 ≤ 12897 by omega⟩) hS (fun q _ h => hFm q h) hFm (fun v9 u t9 H locs ht9 hvm hm hB hz1 hk1 hS => ?_)
  obtain ⟨th2, mn2⟩ := u
  have hm : (¬ okS x ∧ th2 = 1 ∧ mn2 = mn) ∨ ∃ so : Nat, so < 5 ∧ x = nI so ∧ ((mn (2 * so) = -1 ∧ th2 = 2 ∧ mn2 = mn) ∨ (¬ mn (2 * so) = -1 ∧ th2 = 0 ∧ v9 = mn (2 * so) ∧ mn2 = upd mn (2 * so) (-1))) := hm
  have hB : va_P (dC, dI) vwCl (wM cyI cyZ p0 p1 p2 p3 p4 mn2 me ml mt th2 wo mr mo mk mz mq) t9.heap := hB
  rw [ht9] at hB
  obtain ⟨hP, hD⟩ := va_join (w1 := wM cyI cyZ p0 p1 p2 p3 p4 mn2 me ml mt th2 wo mr mo mk mz mq) (wr := wXO cyI cyZ cyJ q0 q1 q2 q3 q4 q5 q6 qo wc wl9 sc sl cl ct rw co sk ss sq oo9) hP hD [8, 9, 10, 11, 12] [0, 1, 2, 3, 4, 5, 6, 7] rfl rfl (by decide) (by decide) hk1 hFm hB (wM_D (hDm.self (sz := _)))
  have hP : va_P (dC, dI) vwCl (wL cyI cyZ cyJ q0 q1 q2 q3 q4 q5 q6 qo p0 p1 p2 p3 p4 wc wl9 sc sl cl ct rw co sk ss sq oo9 mn2 me ml mt th2 wo mr mo mk mz mq) H := hP
  have hD : va_D A (wL cyI cyZ cyJ q0 q1 q2 q3 q4 q5 q6 qo p0 p1 p2 p3 p4 wc wl9 sc sl cl ct rw co sk ss sq oo9 mn2 me ml mt th2 wo mr mo mk mz mq) := hD
  clear hB hk1 hz1 hPm hDm hFm ht9 hvm
  obtain ⟨e1, e2, hR⟩ := rel_off hR hw hm
  clear hw hm
  refine lv_istore (lv' := [(6, .int v9), (5, .int k), (4, .int (nI (5 * t))), (3, .ref qo), (2, .ref p0), (1, .ref q0), (0, .ref b)]) hx hb dL_law_207 hl (by decide) rfl (fun ls hl => ?_)
  refine lv_aload_n hx hb dL_law_209 rfl (lv_at hl 4 rfl) ?_
  have hPm := hP.sub (ws' := wM cyI cyZ p0 p1 p2 p3 p4 mn2 me ml mt th2 wo mr mo mk mz mq) [8, 9, 10, 11, 12] rfl
  have hDm := hD.sub (ws' := wM cyI cyZ p0 p1 p2 p3 p4 mn2 me ml mt th2 wo mr mo mk mz mq) [8, 9, 10, 11, 12] (by decide) rfl
  refine gx_calli (va_runV (As := []) (rest := []) ⟨hx, hb, hml, hown, hts⟩ (k_X1_thrown l dC dI cyI cyZ _ p0 p1 p2 p3 p4 mn2 me ml mt th2 wo mr mo mk mz mq hPm (hDm.weaken (fun _ _ _ _ => trivial))) (cwV 0 hts gL_law_X1_thrown rfl rfl rfl (by decide +kernel) ⟨Nat.le_of_ble_eq_true rfl, Nat.le_of_ble_eq_true rfl⟩) (pK_V hKm (va_recv hK hP (ci := 1) (q0 := 8) rfl rfl)) rfl rfl hl.1 rfl (lv_room (Nat.le_of_ble_eq_true rfl)) dL_law_210 ⟨show 13 + t + 1 + 0 + 0 ≤ 1054 by omega, show 4603 + 6 * t + 6 + 0 + 0 ≤ 12897 by omega⟩) (fun r9 hr9 => ?_)
  subst hr9
  refine lv_iload hx hb dL_law_213 (lv_at hl 1 rfl) ?_
  refine lv_icmp_eq (tgt := 220) hx hb dL_law_215 (by decide) (fun _ => ?_) (fun c1 => absurd e1.symm c1)
  refine lv_iload hx hb dL_law_220 (lv_at hl 1 rfl) ?_
  refine lv_if_ne (tgt := 237) hx hb dL_law_222 (by decide) (fun _ => ?_) (fun c2 => ?_)
  · refine lv_goto (tgt := 1208) hx hb dL_law_237 (by decide) ?_
    exact lc_tail hc0 (by omega) (by omega) hP hD hR hS hl ih
  · skip
    refine lv_aload_n hx hb dL_law_225 rfl (lv_at hl 3 rfl) ?_
    refine lv_iconst (v := nI 0) hx hb dL_law_226 (by decide) ?_
    refine va_lald hx hb hK hP 7 2 rfl rfl (vp_in_nI (by omega) (by omega)) dL_law_227 ?_
    rw [nI_clamp (show 0 < 2 ^ 31 by omega), e2 c2]
    refine lv_iload hx hb dL_law_228 (lv_at hl 0 rfl) ?_
    refine lv_i2l hx hb dL_law_230 rfl ?_
    refine W.lcmp hx hb dL_law_231 ?_
    rw [lg_cmp_self]
    refine lv_if_eq (tgt := 237) hx hb dL_law_232 (by decide) (fun _ => ?_) (fun c3 => absurd rfl c3)
    refine lv_goto (tgt := 1208) hx hb dL_law_237 (by decide) ?_
    exact lc_tail hc0 (by omega) (by omega) hP hD hR hS hl ih
set_option maxHeartbeats 4000000 in
set_option maxRecDepth 100000 in
theorem lc_swap {p : Program} {l : Launch} {e : Env} {s : State} {m : MethodId} {below : List Frame} {meth : Method} {c : Code} {dC : Nat → ClassId} {dI : Nat → Nat → Nat} {cyI cyZ cyJ : ClassId} {A : Nat → Prop} {b L : Nat} {xs : Nat → Int32} {Q : State → Prop} {q0 q1 q2 q3 q4 q5 q6 qo p0 p1 p2 p3 p4 : Nat} {wc wl sc sl cl ct : Nat → Int32} {rw co sk ss sq : Int32} {oo : Nat → Int64} {mn me ml mt : Nat → Int32} {th wo mr mo mk mz mq : Int32} {t : Nat} {H : Heap} {locs : List Loc} {ls : Array Slot} (hc : lwC p l s m c dC dI cyI cyZ cyJ A b L xs) (ht : 5 * t + 5 ≤ L) (hP : va_P (dC, dI) vwCl (wL cyI cyZ cyJ q0 q1 q2 q3 q4 q5 q6 qo p0 p1 p2 p3 p4 wc wl sc sl cl ct rw co sk ss sq oo mn me ml mt th wo mr mo mk mz mq) H) (hD : va_D A (wL cyI cyZ cyJ q0 q1 q2 q3 q4 q5 q6 qo p0 p1 p2 p3 p4 wc wl sc sl cl ct rw co sk ss sq oo mn me ml mt th wo mr mo mk mz mq)) (hR : Rel wc wl sc sl cl ct rw co sk ss sq mn me ml mt wo mr mo mk mz mq) (hS : va_S A s.heap H locs) (hl : lv_has ls 7 [(4, .int (nI (5 * t))), (3, .ref qo), (2, .ref p0), (1, .ref q0), (0, .ref b)])
    (ih : ∀ (H : Heap) (locs : List Loc) (ls : Array Slot), lwI dC dI cyI cyZ cyJ A s b q0 q1 q2 q3 q4 q5 q6 qo p0 p1 p2 p3 p4 (t + 1) H locs ls → W p l e room_1 s m #[Value.ref b] below meth c H locs (13 + (t + 1)) (4603 + 6 * (t + 1)) Q (F0 m 23 ls [])) : W p l e room_1 s m #[Value.ref b] below meth c H locs (13 + t) (4603 + 6 * t) Q (F0 m 240 ls []) := by
  have hc0 := hc
  obtain ⟨hx, hb, hml, hown, hts, hX, hbl, hbA, hA, hK, hz, hL, hst⟩ := hc
  have hKm := hK.sub (tys' := tyW cyI cyZ) [0, 1] rfl
  obtain ⟨x, ex⟩ : ∃ z, xs (5 * t + 1) = z := ⟨_, rfl⟩
  refine lv_aload_n hx hb dL_law_240 rfl (lv_at hl 3 rfl) ?_
  refine lv_aload_n hx hb dL_law_241 rfl (lv_at hl 4 rfl) ?_
  refine lv_iload hx hb dL_law_242 (lv_at hl 0 rfl) ?_
  refine lv_iconst (v := nI 1) hx hb dL_law_244 (by decide) ?_
  refine lv_iadd hx hb dL_law_245 ?_
  rw [nI_add]
  refine va_sld hx hb hX hbl hbA hS (vp_in_nI (by omega) (by omega)) dL_law_246 ?_
  rw [nI_clamp (show 5 * t + 1 < 2 ^ 31 by omega), ex]
  refine lv_aload_n hx hb dL_law_247 rfl (lv_at hl 1 rfl) ?_
  have hPx := hP.sub (ws' := wXO cyI cyZ cyJ q0 q1 q2 q3 q4 q5 q6 qo wc wl sc sl cl ct rw co sk ss sq oo) [0, 1, 2, 3, 4, 5, 6, 7] rfl
  have hDs := hD.sub (ws' := wXO cyI cyZ cyJ q0 q1 q2 q3 q4 q5 q6 qo wc wl sc sl cl ct rw co sk ss sq oo) [0, 1, 2, 3, 4, 5, 6, 7] (by decide) rfl
  have hFc := va_free (wc := wXO cyI cyZ cyJ q0 q1 q2 q3 q4 q5 q6 qo wc wl sc sl cl ct rw co sk ss sq oo) hD hS hA [0, 1, 2, 3, 4, 5, 6, 7] rfl
  refine va_calli (vx_runSW (As := [.ref q0, .int x, .ref qo]) (rest := []) ⟨hx, hb, hml, hown, hts⟩ (k_L_swap l hst dC dI cyI cyZ cyJ _ q0 q1 q2 q3 q4 q5 q6 qo wc wl sc sl cl ct rw co sk ss sq oo hPx (hDs.weaken (fun _ _ _ _ => trivial)) x ) (vx_cwSW 3 hts gL_law_L_swap rfl rfl rfl (by decide +kernel) ⟨Nat.le_of_ble_eq_true rfl, Nat.le_of_ble_eq_true rfl⟩) (pZ_S hK hz hS hFc) rfl rfl hl.1 rfl (lv_room (Nat.le_of_ble_eq_true rfl)) dL_law_248 ⟨show 13 + t + 1 ≤ 1054 by omega, show 4603 + 6 * t + 6 ≤ 12897 by omega⟩) hS (fun q _ h => hFc q h) hFc (fun k u t9 H locs ht9 hvm hw hB hz1 hk1 hS => ?_)
  obtain ⟨wc9, sc9, wl9, sl9, oo9⟩ := u
  have hw : ((¬ (¬ x < 0 ∧ x < nI 5)) ∧ k = 1 ∧ wc9 = wc ∧ sc9 = sc ∧ wl9 = wl ∧ sl9 = sl ∧ oo9 = oo) ∨ (k = 0 ∧ ∃ (rr : Int32) (so : Nat), (x = nI so ∧ so < 5 ∧ rr = sl so) ∧ wc9 = (swp wc sc (so * 64) 64).1 ∧ sc9 = (swp wc sc (so * 64) 64).2 ∧ wl9 = upd wl so (sl so) ∧ sl9 = upd sl so (wl so) ∧ oo9 = vp_updL oo 0 rr.toInt64) := hw
  have hB : va_P (dC, dI) vwCl (wXO cyI cyZ cyJ q0 q1 q2 q3 q4 q5 q6 qo wc9 wl9 sc9 sl9 cl ct rw co sk ss sq oo9) t9.heap := hB
  rw [ht9] at hB
  obtain ⟨hP, hD⟩ := va_join (w1 := wXO cyI cyZ cyJ q0 q1 q2 q3 q4 q5 q6 qo wc9 wl9 sc9 sl9 cl ct rw co sk ss sq oo9) (wr := wM cyI cyZ p0 p1 p2 p3 p4 mn me ml mt th wo mr mo mk mz mq) hP hD [0, 1, 2, 3, 4, 5, 6, 7] [8, 9, 10, 11, 12] rfl rfl (by decide) (by decide) hk1 hFc hB (wO_D (hDs.self (sz := _)))
  have hP : va_P (dC, dI) vwCl (wL cyI cyZ cyJ q0 q1 q2 q3 q4 q5 q6 qo p0 p1 p2 p3 p4 wc9 wl9 sc9 sl9 cl ct rw co sk ss sq oo9 mn me ml mt th wo mr mo mk mz mq) H := hP.sub (ws' := wL cyI cyZ cyJ q0 q1 q2 q3 q4 q5 q6 qo p0 p1 p2 p3 p4 wc9 wl9 sc9 sl9 cl ct rw co sk ss sq oo9 mn me ml mt th wo mr mo mk mz mq) [5, 6, 7, 8, 9, 10, 11, 12, 0, 1, 2, 3, 4] rfl
  have hD : va_D A (wL cyI cyZ cyJ q0 q1 q2 q3 q4 q5 q6 qo p0 p1 p2 p3 p4 wc9 wl9 sc9 sl9 cl ct rw co sk ss sq oo9 mn me ml mt th wo mr mo mk mz mq) := hD.sub (ws' := wL cyI cyZ cyJ q0 q1 q2 q3 q4 q5 q6 qo p0 p1 p2 p3 p4 wc9 wl9 sc9 sl9 cl ct rw co sk ss sq oo9 mn me ml mt th wo mr mo mk mz mq) [5, 6, 7, 8, 9, 10, 11, 12, 0, 1, 2, 3, 4] (by decide) rfl
  clear hB hk1 hz1 hPx hDs hFc ht9 hvm
  refine lv_istore (lv' := [(5, .int k), (4, .int (nI (5 * t))), (3, .ref qo), (2, .ref p0), (1, .ref q0), (0, .ref b)]) hx hb dL_law_251 hl (by decide) rfl (fun ls hl => ?_)
  refine lv_aload_n hx hb dL_law_253 rfl (lv_at hl 3 rfl) ?_
  refine lv_aload_n hx hb dL_law_254 rfl (lv_at hl 5 rfl) ?_
  refine lv_iload hx hb dL_law_255 (lv_at hl 1 rfl) ?_
  refine lv_iconst (v := nI 1) hx hb dL_law_257 (by decide) ?_
  refine lv_iadd hx hb dL_law_258 ?_
  rw [nI_add]
  refine va_sld hx hb hX hbl hbA hS (vp_in_nI (by omega) (by omega)) dL_law_259 ?_
  rw [nI_clamp (show 5 * t + 1 < 2 ^ 31 by omega), ex]
  have hPm := hP.sub (ws' := wM cyI cyZ p0 p1 p2 p3 p4 mn me ml mt th wo mr mo mk mz mq) [8, 9, 10, 11, 12] rfl
  have hDm := hD.sub (ws' := wM cyI cyZ p0 p1 p2 p3 p4 mn me ml mt th wo mr mo mk mz mq) [8, 9, 10, 11, 12] (by decide) rfl
  have hFm := va_free (wc := wM cyI cyZ p0 p1 p2 p3 p4 mn me ml mt th wo mr mo mk mz mq) hD hS hA [8, 9, 10, 11, 12] rfl
  refine va_calli (va_runV (As := [.int x]) (rest := []) ⟨hx, hb, hml, hown, hts⟩ (k_X1_swap l dC dI cyI cyZ _ p0 p1 p2 p3 p4 mn me ml mt th wo mr mo mk mz mq hPm (hDm.weaken (fun _ _ _ _ => trivial)) x ) (cwV 1 hts gL_law_X1_swap rfl rfl rfl (by decide +kernel) ⟨Nat.le_of_ble_eq_true rfl, Nat.le_of_ble_eq_true rfl⟩) (pK_V hKm (va_recv hK hP (ci := 1) (q0 := 8) rfl rfl)) rfl rfl hl.1 rfl (lv_room (Nat.le_of_ble_eq_true rfl)) dL_law_260 ⟨show 13 + t + 1 + 0 ≤ 1054 by omega, show 4603 + 6 * t + 6 + 0 ≤ 12897 by omega⟩) hS (fun q _ h => hFm q h) hFm (fun v9 u t9 H locs ht9 hvm hm hB hz1 hk1 hS => ?_)
  obtain ⟨th2, mn2, me2⟩ := u
  have hm : (¬ okS x ∧ th2 = 1 ∧ mn2 = mn ∧ me2 = me) ∨ ∃ so : Nat, so < 5 ∧ x = nI so ∧ th2 = 0 ∧ v9 = mn (2 * so + 1) ∧ mn2 = upd (upd mn (2 * so) (mn (2 * so + 1))) (2 * so + 1) (mn (2 * so)) ∧ me2 = swm me (64 * (2 * so)) 64 := hm
  have hB : va_P (dC, dI) vwCl (wM cyI cyZ p0 p1 p2 p3 p4 mn2 me2 ml mt th2 wo mr mo mk mz mq) t9.heap := hB
  rw [ht9] at hB
  obtain ⟨hP, hD⟩ := va_join (w1 := wM cyI cyZ p0 p1 p2 p3 p4 mn2 me2 ml mt th2 wo mr mo mk mz mq) (wr := wXO cyI cyZ cyJ q0 q1 q2 q3 q4 q5 q6 qo wc9 wl9 sc9 sl9 cl ct rw co sk ss sq oo9) hP hD [8, 9, 10, 11, 12] [0, 1, 2, 3, 4, 5, 6, 7] rfl rfl (by decide) (by decide) hk1 hFm hB (wM_D (hDm.self (sz := _)))
  have hP : va_P (dC, dI) vwCl (wL cyI cyZ cyJ q0 q1 q2 q3 q4 q5 q6 qo p0 p1 p2 p3 p4 wc9 wl9 sc9 sl9 cl ct rw co sk ss sq oo9 mn2 me2 ml mt th2 wo mr mo mk mz mq) H := hP
  have hD : va_D A (wL cyI cyZ cyJ q0 q1 q2 q3 q4 q5 q6 qo p0 p1 p2 p3 p4 wc9 wl9 sc9 sl9 cl ct rw co sk ss sq oo9 mn2 me2 ml mt th2 wo mr mo mk mz mq) := hD
  clear hB hk1 hz1 hPm hDm hFm ht9 hvm
  obtain ⟨e1, e2, hR⟩ := rel_swap hR hw hm
  clear hw hm
  refine lv_istore (lv' := [(6, .int v9), (5, .int k), (4, .int (nI (5 * t))), (3, .ref qo), (2, .ref p0), (1, .ref q0), (0, .ref b)]) hx hb dL_law_263 hl (by decide) rfl (fun ls hl => ?_)
  refine lv_aload_n hx hb dL_law_265 rfl (lv_at hl 4 rfl) ?_
  have hPm := hP.sub (ws' := wM cyI cyZ p0 p1 p2 p3 p4 mn2 me2 ml mt th2 wo mr mo mk mz mq) [8, 9, 10, 11, 12] rfl
  have hDm := hD.sub (ws' := wM cyI cyZ p0 p1 p2 p3 p4 mn2 me2 ml mt th2 wo mr mo mk mz mq) [8, 9, 10, 11, 12] (by decide) rfl
  refine gx_calli (va_runV (As := []) (rest := []) ⟨hx, hb, hml, hown, hts⟩ (k_X1_thrown l dC dI cyI cyZ _ p0 p1 p2 p3 p4 mn2 me2 ml mt th2 wo mr mo mk mz mq hPm (hDm.weaken (fun _ _ _ _ => trivial))) (cwV 0 hts gL_law_X1_thrown rfl rfl rfl (by decide +kernel) ⟨Nat.le_of_ble_eq_true rfl, Nat.le_of_ble_eq_true rfl⟩) (pK_V hKm (va_recv hK hP (ci := 1) (q0 := 8) rfl rfl)) rfl rfl hl.1 rfl (lv_room (Nat.le_of_ble_eq_true rfl)) dL_law_266 ⟨show 13 + t + 1 + 0 + 0 ≤ 1054 by omega, show 4603 + 6 * t + 6 + 0 + 0 ≤ 12897 by omega⟩) (fun r9 hr9 => ?_)
  subst hr9
  refine lv_iload hx hb dL_law_269 (lv_at hl 1 rfl) ?_
  refine lv_icmp_eq (tgt := 276) hx hb dL_law_271 (by decide) (fun _ => ?_) (fun c1 => absurd e1.symm c1)
  refine lv_iload hx hb dL_law_276 (lv_at hl 1 rfl) ?_
  refine lv_if_ne (tgt := 293) hx hb dL_law_278 (by decide) (fun _ => ?_) (fun c2 => ?_)
  · refine lv_goto (tgt := 1208) hx hb dL_law_293 (by decide) ?_
    exact lc_tail hc0 (by omega) (by omega) hP hD hR hS hl ih
  · skip
    refine lv_aload_n hx hb dL_law_281 rfl (lv_at hl 3 rfl) ?_
    refine lv_iconst (v := nI 0) hx hb dL_law_282 (by decide) ?_
    refine va_lald hx hb hK hP 7 2 rfl rfl (vp_in_nI (by omega) (by omega)) dL_law_283 ?_
    rw [nI_clamp (show 0 < 2 ^ 31 by omega), e2 c2]
    refine lv_iload hx hb dL_law_284 (lv_at hl 0 rfl) ?_
    refine lv_i2l hx hb dL_law_286 rfl ?_
    refine W.lcmp hx hb dL_law_287 ?_
    rw [lg_cmp_self]
    refine lv_if_eq (tgt := 293) hx hb dL_law_288 (by decide) (fun _ => ?_) (fun c3 => absurd rfl c3)
    refine lv_goto (tgt := 1208) hx hb dL_law_293 (by decide) ?_
    exact lc_tail hc0 (by omega) (by omega) hP hD hR hS hl ih
set_option maxHeartbeats 4000000 in
set_option maxRecDepth 100000 in
theorem lc_copy {p : Program} {l : Launch} {e : Env} {s : State} {m : MethodId} {below : List Frame} {meth : Method} {c : Code} {dC : Nat → ClassId} {dI : Nat → Nat → Nat} {cyI cyZ cyJ : ClassId} {A : Nat → Prop} {b L : Nat} {xs : Nat → Int32} {Q : State → Prop} {q0 q1 q2 q3 q4 q5 q6 qo p0 p1 p2 p3 p4 : Nat} {wc wl sc sl cl ct : Nat → Int32} {rw co sk ss sq : Int32} {oo : Nat → Int64} {mn me ml mt : Nat → Int32} {th wo mr mo mk mz mq : Int32} {t : Nat} {H : Heap} {locs : List Loc} {ls : Array Slot} (hc : lwC p l s m c dC dI cyI cyZ cyJ A b L xs) (ht : 5 * t + 5 ≤ L) (hP : va_P (dC, dI) vwCl (wL cyI cyZ cyJ q0 q1 q2 q3 q4 q5 q6 qo p0 p1 p2 p3 p4 wc wl sc sl cl ct rw co sk ss sq oo mn me ml mt th wo mr mo mk mz mq) H) (hD : va_D A (wL cyI cyZ cyJ q0 q1 q2 q3 q4 q5 q6 qo p0 p1 p2 p3 p4 wc wl sc sl cl ct rw co sk ss sq oo mn me ml mt th wo mr mo mk mz mq)) (hR : Rel wc wl sc sl cl ct rw co sk ss sq mn me ml mt wo mr mo mk mz mq) (hS : va_S A s.heap H locs) (hl : lv_has ls 7 [(4, .int (nI (5 * t))), (3, .ref qo), (2, .ref p0), (1, .ref q0), (0, .ref b)])
    (ih : ∀ (H : Heap) (locs : List Loc) (ls : Array Slot), lwI dC dI cyI cyZ cyJ A s b q0 q1 q2 q3 q4 q5 q6 qo p0 p1 p2 p3 p4 (t + 1) H locs ls → W p l e room_1 s m #[Value.ref b] below meth c H locs (13 + (t + 1)) (4603 + 6 * (t + 1)) Q (F0 m 23 ls [])) : W p l e room_1 s m #[Value.ref b] below meth c H locs (13 + t) (4603 + 6 * t) Q (F0 m 296 ls []) := by
  have hc0 := hc
  obtain ⟨hx, hb, hml, hown, hts, hX, hbl, hbA, hA, hK, hz, hL, hst⟩ := hc
  have hKm := hK.sub (tys' := tyW cyI cyZ) [0, 1] rfl
  obtain ⟨x, ex⟩ : ∃ z, xs (5 * t + 1) = z := ⟨_, rfl⟩
  refine lv_aload_n hx hb dL_law_296 rfl (lv_at hl 3 rfl) ?_
  refine lv_aload_n hx hb dL_law_297 rfl (lv_at hl 4 rfl) ?_
  refine lv_iload hx hb dL_law_298 (lv_at hl 0 rfl) ?_
  refine lv_iconst (v := nI 1) hx hb dL_law_300 (by decide) ?_
  refine lv_iadd hx hb dL_law_301 ?_
  rw [nI_add]
  refine va_sld hx hb hX hbl hbA hS (vp_in_nI (by omega) (by omega)) dL_law_302 ?_
  rw [nI_clamp (show 5 * t + 1 < 2 ^ 31 by omega), ex]
  refine lv_aload_n hx hb dL_law_303 rfl (lv_at hl 1 rfl) ?_
  have hPx := hP.sub (ws' := wXO cyI cyZ cyJ q0 q1 q2 q3 q4 q5 q6 qo wc wl sc sl cl ct rw co sk ss sq oo) [0, 1, 2, 3, 4, 5, 6, 7] rfl
  have hDs := hD.sub (ws' := wXO cyI cyZ cyJ q0 q1 q2 q3 q4 q5 q6 qo wc wl sc sl cl ct rw co sk ss sq oo) [0, 1, 2, 3, 4, 5, 6, 7] (by decide) rfl
  have hFc := va_free (wc := wXO cyI cyZ cyJ q0 q1 q2 q3 q4 q5 q6 qo wc wl sc sl cl ct rw co sk ss sq oo) hD hS hA [0, 1, 2, 3, 4, 5, 6, 7] rfl
  refine va_calli (vx_runSW (As := [.ref q0, .int x, .ref qo]) (rest := []) ⟨hx, hb, hml, hown, hts⟩ (k_L_copy l hst dC dI cyI cyZ cyJ _ q0 q1 q2 q3 q4 q5 q6 qo wc wl sc sl cl ct rw co sk ss sq oo hPx (hDs.weaken (fun _ _ _ _ => trivial)) x hR.hwl) (vx_cwSW 3 hts gL_law_L_copy rfl rfl rfl (by decide +kernel) ⟨Nat.le_of_ble_eq_true rfl, Nat.le_of_ble_eq_true rfl⟩) (pZ_S hK hz hS hFc) rfl rfl hl.1 rfl (lv_room (Nat.le_of_ble_eq_true rfl)) dL_law_304 ⟨show 13 + t + 1 ≤ 1054 by omega, show 4603 + 6 * t + 6 ≤ 12897 by omega⟩) hS (fun q _ h => hFc q h) hFc (fun k u t9 H locs ht9 hvm hw hB hz1 hk1 hS => ?_)
  obtain ⟨sc9, sl9, oo9⟩ := u
  have hw : ((¬ (¬ x < 0 ∧ x < nI 5)) ∧ k = 1 ∧ sc9 = sc ∧ sl9 = sl ∧ oo9 = oo) ∨ ((∃ so : Nat, so < 5 ∧ x = nI so ∧ wl so = -1) ∧ k = 2 ∧ sc9 = sc ∧ sl9 = sl ∧ oo9 = oo) ∨ (k = 0 ∧ ∃ (rr : Int32) (so : Nat) (nn : Nat), (x = nI so ∧ so < 5 ∧ nn ≤ 64 ∧ wl so = nI nn ∧ rr = nI nn) ∧ sc9 = cpn sc wc (so * 64) nn ∧ sl9 = upd sl so (nI nn) ∧ oo9 = vp_updL oo 0 rr.toInt64) := hw
  have hB : va_P (dC, dI) vwCl (wXO cyI cyZ cyJ q0 q1 q2 q3 q4 q5 q6 qo wc wl sc9 sl9 cl ct rw co sk ss sq oo9) t9.heap := hB
  rw [ht9] at hB
  obtain ⟨hP, hD⟩ := va_join (w1 := wXO cyI cyZ cyJ q0 q1 q2 q3 q4 q5 q6 qo wc wl sc9 sl9 cl ct rw co sk ss sq oo9) (wr := wM cyI cyZ p0 p1 p2 p3 p4 mn me ml mt th wo mr mo mk mz mq) hP hD [0, 1, 2, 3, 4, 5, 6, 7] [8, 9, 10, 11, 12] rfl rfl (by decide) (by decide) hk1 hFc hB (wO_D (hDs.self (sz := _)))
  have hP : va_P (dC, dI) vwCl (wL cyI cyZ cyJ q0 q1 q2 q3 q4 q5 q6 qo p0 p1 p2 p3 p4 wc wl sc9 sl9 cl ct rw co sk ss sq oo9 mn me ml mt th wo mr mo mk mz mq) H := hP.sub (ws' := wL cyI cyZ cyJ q0 q1 q2 q3 q4 q5 q6 qo p0 p1 p2 p3 p4 wc wl sc9 sl9 cl ct rw co sk ss sq oo9 mn me ml mt th wo mr mo mk mz mq) [5, 6, 7, 8, 9, 10, 11, 12, 0, 1, 2, 3, 4] rfl
  have hD : va_D A (wL cyI cyZ cyJ q0 q1 q2 q3 q4 q5 q6 qo p0 p1 p2 p3 p4 wc wl sc9 sl9 cl ct rw co sk ss sq oo9 mn me ml mt th wo mr mo mk mz mq) := hD.sub (ws' := wL cyI cyZ cyJ q0 q1 q2 q3 q4 q5 q6 qo p0 p1 p2 p3 p4 wc wl sc9 sl9 cl ct rw co sk ss sq oo9 mn me ml mt th wo mr mo mk mz mq) [5, 6, 7, 8, 9, 10, 11, 12, 0, 1, 2, 3, 4] (by decide) rfl
  clear hB hk1 hz1 hPx hDs hFc ht9 hvm
  refine lv_istore (lv' := [(5, .int k), (4, .int (nI (5 * t))), (3, .ref qo), (2, .ref p0), (1, .ref q0), (0, .ref b)]) hx hb dL_law_307 hl (by decide) rfl (fun ls hl => ?_)
  refine lv_aload_n hx hb dL_law_309 rfl (lv_at hl 3 rfl) ?_
  refine lv_aload_n hx hb dL_law_310 rfl (lv_at hl 5 rfl) ?_
  refine lv_iload hx hb dL_law_311 (lv_at hl 1 rfl) ?_
  refine lv_iconst (v := nI 1) hx hb dL_law_313 (by decide) ?_
  refine lv_iadd hx hb dL_law_314 ?_
  rw [nI_add]
  refine va_sld hx hb hX hbl hbA hS (vp_in_nI (by omega) (by omega)) dL_law_315 ?_
  rw [nI_clamp (show 5 * t + 1 < 2 ^ 31 by omega), ex]
  have hPm := hP.sub (ws' := wM cyI cyZ p0 p1 p2 p3 p4 mn me ml mt th wo mr mo mk mz mq) [8, 9, 10, 11, 12] rfl
  have hDm := hD.sub (ws' := wM cyI cyZ p0 p1 p2 p3 p4 mn me ml mt th wo mr mo mk mz mq) [8, 9, 10, 11, 12] (by decide) rfl
  have hFm := va_free (wc := wM cyI cyZ p0 p1 p2 p3 p4 mn me ml mt th wo mr mo mk mz mq) hD hS hA [8, 9, 10, 11, 12] rfl
  refine va_calli (va_runV (As := [.int x]) (rest := []) ⟨hx, hb, hml, hown, hts⟩ (k_X1_copy l dC dI cyI cyZ _ p0 p1 p2 p3 p4 mn me ml mt th wo mr mo mk mz mq hPm (hDm.weaken (fun _ _ _ _ => trivial)) x hR.hmn) (cwV 1 hts gL_law_X1_copy rfl rfl rfl (by decide +kernel) ⟨Nat.le_of_ble_eq_true rfl, Nat.le_of_ble_eq_true rfl⟩) (pK_V hKm (va_recv hK hP (ci := 1) (q0 := 8) rfl rfl)) rfl rfl hl.1 rfl (lv_room (Nat.le_of_ble_eq_true rfl)) dL_law_316 ⟨show 13 + t + 1 + 0 ≤ 1054 by omega, show 4603 + 6 * t + 6 + 0 ≤ 12897 by omega⟩) hS (fun q _ h => hFm q h) hFm (fun v9 u t9 H locs ht9 hvm hm hB hz1 hk1 hS => ?_)
  obtain ⟨th2, mn2, me2⟩ := u
  have hm : (¬ okS x ∧ th2 = 1 ∧ mn2 = mn ∧ me2 = me) ∨ ∃ so : Nat, so < 5 ∧ x = nI so ∧ ((mn (2 * so) = -1 ∧ th2 = 2 ∧ mn2 = mn ∧ me2 = me) ∨ (th2 = 0 ∧ ∃ nn : Nat, nn ≤ 64 ∧ mn (2 * so) = nI nn ∧ v9 = nI nn ∧ mn2 = upd mn (2 * so + 1) (nI nn) ∧ me2 = cpm me (64 * (2 * so)) nn)) := hm
  have hB : va_P (dC, dI) vwCl (wM cyI cyZ p0 p1 p2 p3 p4 mn2 me2 ml mt th2 wo mr mo mk mz mq) t9.heap := hB
  rw [ht9] at hB
  obtain ⟨hP, hD⟩ := va_join (w1 := wM cyI cyZ p0 p1 p2 p3 p4 mn2 me2 ml mt th2 wo mr mo mk mz mq) (wr := wXO cyI cyZ cyJ q0 q1 q2 q3 q4 q5 q6 qo wc wl sc9 sl9 cl ct rw co sk ss sq oo9) hP hD [8, 9, 10, 11, 12] [0, 1, 2, 3, 4, 5, 6, 7] rfl rfl (by decide) (by decide) hk1 hFm hB (wM_D (hDm.self (sz := _)))
  have hP : va_P (dC, dI) vwCl (wL cyI cyZ cyJ q0 q1 q2 q3 q4 q5 q6 qo p0 p1 p2 p3 p4 wc wl sc9 sl9 cl ct rw co sk ss sq oo9 mn2 me2 ml mt th2 wo mr mo mk mz mq) H := hP
  have hD : va_D A (wL cyI cyZ cyJ q0 q1 q2 q3 q4 q5 q6 qo p0 p1 p2 p3 p4 wc wl sc9 sl9 cl ct rw co sk ss sq oo9 mn2 me2 ml mt th2 wo mr mo mk mz mq) := hD
  clear hB hk1 hz1 hPm hDm hFm ht9 hvm
  obtain ⟨e1, e2, hR⟩ := rel_copy hR hw hm
  clear hw hm
  refine lv_istore (lv' := [(6, .int v9), (5, .int k), (4, .int (nI (5 * t))), (3, .ref qo), (2, .ref p0), (1, .ref q0), (0, .ref b)]) hx hb dL_law_319 hl (by decide) rfl (fun ls hl => ?_)
  refine lv_aload_n hx hb dL_law_321 rfl (lv_at hl 4 rfl) ?_
  have hPm := hP.sub (ws' := wM cyI cyZ p0 p1 p2 p3 p4 mn2 me2 ml mt th2 wo mr mo mk mz mq) [8, 9, 10, 11, 12] rfl
  have hDm := hD.sub (ws' := wM cyI cyZ p0 p1 p2 p3 p4 mn2 me2 ml mt th2 wo mr mo mk mz mq) [8, 9, 10, 11, 12] (by decide) rfl
  refine gx_calli (va_runV (As := []) (rest := []) ⟨hx, hb, hml, hown, hts⟩ (k_X1_thrown l dC dI cyI cyZ _ p0 p1 p2 p3 p4 mn2 me2 ml mt th2 wo mr mo mk mz mq hPm (hDm.weaken (fun _ _ _ _ => trivial))) (cwV 0 hts gL_law_X1_thrown rfl rfl rfl (by decide +kernel) ⟨Nat.le_of_ble_eq_true rfl, Nat.le_of_ble_eq_true rfl⟩) (pK_V hKm (va_recv hK hP (ci := 1) (q0 := 8) rfl rfl)) rfl rfl hl.1 rfl (lv_room (Nat.le_of_ble_eq_true rfl)) dL_law_322 ⟨show 13 + t + 1 + 0 + 0 ≤ 1054 by omega, show 4603 + 6 * t + 6 + 0 + 0 ≤ 12897 by omega⟩) (fun r9 hr9 => ?_)
  subst hr9
  refine lv_iload hx hb dL_law_325 (lv_at hl 1 rfl) ?_
  refine lv_icmp_eq (tgt := 332) hx hb dL_law_327 (by decide) (fun _ => ?_) (fun c1 => absurd e1.symm c1)
  refine lv_iload hx hb dL_law_332 (lv_at hl 1 rfl) ?_
  refine lv_if_ne (tgt := 349) hx hb dL_law_334 (by decide) (fun _ => ?_) (fun c2 => ?_)
  · refine lv_goto (tgt := 1208) hx hb dL_law_349 (by decide) ?_
    exact lc_tail hc0 (by omega) (by omega) hP hD hR hS hl ih
  · skip
    refine lv_aload_n hx hb dL_law_337 rfl (lv_at hl 3 rfl) ?_
    refine lv_iconst (v := nI 0) hx hb dL_law_338 (by decide) ?_
    refine va_lald hx hb hK hP 7 2 rfl rfl (vp_in_nI (by omega) (by omega)) dL_law_339 ?_
    rw [nI_clamp (show 0 < 2 ^ 31 by omega), e2 c2]
    refine lv_iload hx hb dL_law_340 (lv_at hl 0 rfl) ?_
    refine lv_i2l hx hb dL_law_342 rfl ?_
    refine W.lcmp hx hb dL_law_343 ?_
    rw [lg_cmp_self]
    refine lv_if_eq (tgt := 349) hx hb dL_law_344 (by decide) (fun _ => ?_) (fun c3 => absurd rfl c3)
    refine lv_goto (tgt := 1208) hx hb dL_law_349 (by decide) ?_
    exact lc_tail hc0 (by omega) (by omega) hP hD hR hS hl ih
set_option maxHeartbeats 4000000 in
set_option maxRecDepth 100000 in
theorem lc_size {p : Program} {l : Launch} {e : Env} {s : State} {m : MethodId} {below : List Frame} {meth : Method} {c : Code} {dC : Nat → ClassId} {dI : Nat → Nat → Nat} {cyI cyZ cyJ : ClassId} {A : Nat → Prop} {b L : Nat} {xs : Nat → Int32} {Q : State → Prop} {q0 q1 q2 q3 q4 q5 q6 qo p0 p1 p2 p3 p4 : Nat} {wc wl sc sl cl ct : Nat → Int32} {rw co sk ss sq : Int32} {oo : Nat → Int64} {mn me ml mt : Nat → Int32} {th wo mr mo mk mz mq : Int32} {t : Nat} {H : Heap} {locs : List Loc} {ls : Array Slot} (hc : lwC p l s m c dC dI cyI cyZ cyJ A b L xs) (ht : 5 * t + 5 ≤ L) (hP : va_P (dC, dI) vwCl (wL cyI cyZ cyJ q0 q1 q2 q3 q4 q5 q6 qo p0 p1 p2 p3 p4 wc wl sc sl cl ct rw co sk ss sq oo mn me ml mt th wo mr mo mk mz mq) H) (hD : va_D A (wL cyI cyZ cyJ q0 q1 q2 q3 q4 q5 q6 qo p0 p1 p2 p3 p4 wc wl sc sl cl ct rw co sk ss sq oo mn me ml mt th wo mr mo mk mz mq)) (hR : Rel wc wl sc sl cl ct rw co sk ss sq mn me ml mt wo mr mo mk mz mq) (hS : va_S A s.heap H locs) (hl : lv_has ls 7 [(4, .int (nI (5 * t))), (3, .ref qo), (2, .ref p0), (1, .ref q0), (0, .ref b)])
    (ih : ∀ (H : Heap) (locs : List Loc) (ls : Array Slot), lwI dC dI cyI cyZ cyJ A s b q0 q1 q2 q3 q4 q5 q6 qo p0 p1 p2 p3 p4 (t + 1) H locs ls → W p l e room_1 s m #[Value.ref b] below meth c H locs (13 + (t + 1)) (4603 + 6 * (t + 1)) Q (F0 m 23 ls [])) : W p l e room_1 s m #[Value.ref b] below meth c H locs (13 + t) (4603 + 6 * t) Q (F0 m 352 ls []) := by
  have hc0 := hc
  obtain ⟨hx, hb, hml, hown, hts, hX, hbl, hbA, hA, hK, hz, hL, hst⟩ := hc
  have hKm := hK.sub (tys' := tyW cyI cyZ) [0, 1] rfl
  obtain ⟨x, ex⟩ : ∃ x, xs (5 * t + 1) = x := ⟨_, rfl⟩
  obtain ⟨z, ez⟩ : ∃ z, xs (5 * t + 2) = z := ⟨_, rfl⟩
  by_cases hz0 : z = 0
  · skip
    refine lv_aload_n hx hb dL_law_352 rfl (lv_at hl 3 rfl) ?_
    refine lv_aload_n hx hb dL_law_353 rfl (lv_at hl 4 rfl) ?_
    refine lv_iload hx hb dL_law_354 (lv_at hl 0 rfl) ?_
    refine lv_iconst (v := nI 1) hx hb dL_law_356 (by decide) ?_
    refine lv_iadd hx hb dL_law_357 ?_
    rw [nI_add]
    refine va_sld hx hb hX hbl hbA hS (vp_in_nI (by omega) (by omega)) dL_law_358 ?_
    rw [nI_clamp (show 5 * t + 1 < 2 ^ 31 by omega), ex]
    refine lv_aload_n hx hb dL_law_359 rfl (lv_at hl 4 rfl) ?_
    refine lv_iload hx hb dL_law_360 (lv_at hl 0 rfl) ?_
    refine lv_iconst (v := nI 2) hx hb dL_law_362 (by decide) ?_
    refine lv_iadd hx hb dL_law_363 ?_
    rw [nI_add]
    refine va_sld hx hb hX hbl hbA hS (vp_in_nI (by omega) (by omega)) dL_law_364 ?_
    rw [nI_clamp (show 5 * t + 2 < 2 ^ 31 by omega), ez]
    refine lv_if_eq (tgt := 372) hx hb dL_law_365 (by decide) (fun _ => ?_) (fun h9 => absurd hz0 h9)
    refine lv_iconst (v := 0) hx hb dL_law_372 (by decide) ?_
    refine lv_aload_n hx hb dL_law_373 rfl (lv_at hl 1 rfl) ?_
    have hPx := hP.sub (ws' := wXO cyI cyZ cyJ q0 q1 q2 q3 q4 q5 q6 qo wc wl sc sl cl ct rw co sk ss sq oo) [0, 1, 2, 3, 4, 5, 6, 7] rfl
    have hDs := hD.sub (ws' := wXO cyI cyZ cyJ q0 q1 q2 q3 q4 q5 q6 qo wc wl sc sl cl ct rw co sk ss sq oo) [0, 1, 2, 3, 4, 5, 6, 7] (by decide) rfl
    have hFc := va_free (wc := wXO cyI cyZ cyJ q0 q1 q2 q3 q4 q5 q6 qo wc wl sc sl cl ct rw co sk ss sq oo) hD hS hA [0, 1, 2, 3, 4, 5, 6, 7] rfl
    refine va_calli (vx_runSW (As := [.ref q0, .int x, .int 0, .ref qo]) (rest := []) ⟨hx, hb, hml, hown, hts⟩ (k_L_size l hst dC dI cyI cyZ cyJ _ q0 q1 q2 q3 q4 q5 q6 qo wc wl sc sl cl ct rw co sk ss sq oo hPx (hDs.weaken (fun _ _ _ _ => trivial)) x 0 ) (vx_cwSW 4 hts gL_law_L_size rfl rfl rfl (by decide +kernel) ⟨Nat.le_of_ble_eq_true rfl, Nat.le_of_ble_eq_true rfl⟩) (pZ_S hK hz hS hFc) rfl rfl hl.1 rfl (lv_room (Nat.le_of_ble_eq_true rfl)) dL_law_374 ⟨show 13 + t + 1 ≤ 1054 by omega, show 4603 + 6 * t + 6 ≤ 12897 by omega⟩) hS (fun q _ h => hFc q h) hFc (fun k u t9 H locs ht9 hvm hw hB hz1 hk1 hS => ?_)
    obtain ⟨oo9, rfl⟩ : ∃ z, z = u := ⟨_, rfl⟩
    have hw : ((¬ (¬ x < 0 ∧ x < nI 5)) ∧ k = 1 ∧ oo9 = oo) ∨ (k = 0 ∧ ∃ (rr : Int32) (so : Nat), (x = nI so ∧ so < 5 ∧ rr = (if (0 : Int32) = 0 then wl so else sl so)) ∧ oo9 = vp_updL oo 0 rr.toInt64) := hw
    have hB : va_P (dC, dI) vwCl (wXO cyI cyZ cyJ q0 q1 q2 q3 q4 q5 q6 qo wc wl sc sl cl ct rw co sk ss sq oo9) t9.heap := hB
    rw [ht9] at hB
    obtain ⟨hP, hD⟩ := va_join (w1 := wXO cyI cyZ cyJ q0 q1 q2 q3 q4 q5 q6 qo wc wl sc sl cl ct rw co sk ss sq oo9) (wr := wM cyI cyZ p0 p1 p2 p3 p4 mn me ml mt th wo mr mo mk mz mq) hP hD [0, 1, 2, 3, 4, 5, 6, 7] [8, 9, 10, 11, 12] rfl rfl (by decide) (by decide) hk1 hFc hB (wO_D (hDs.self (sz := _)))
    have hP : va_P (dC, dI) vwCl (wL cyI cyZ cyJ q0 q1 q2 q3 q4 q5 q6 qo p0 p1 p2 p3 p4 wc wl sc sl cl ct rw co sk ss sq oo9 mn me ml mt th wo mr mo mk mz mq) H := hP.sub (ws' := wL cyI cyZ cyJ q0 q1 q2 q3 q4 q5 q6 qo p0 p1 p2 p3 p4 wc wl sc sl cl ct rw co sk ss sq oo9 mn me ml mt th wo mr mo mk mz mq) [5, 6, 7, 8, 9, 10, 11, 12, 0, 1, 2, 3, 4] rfl
    have hD : va_D A (wL cyI cyZ cyJ q0 q1 q2 q3 q4 q5 q6 qo p0 p1 p2 p3 p4 wc wl sc sl cl ct rw co sk ss sq oo9 mn me ml mt th wo mr mo mk mz mq) := hD.sub (ws' := wL cyI cyZ cyJ q0 q1 q2 q3 q4 q5 q6 qo p0 p1 p2 p3 p4 wc wl sc sl cl ct rw co sk ss sq oo9 mn me ml mt th wo mr mo mk mz mq) [5, 6, 7, 8, 9, 10, 11, 12, 0, 1, 2, 3, 4] (by decide) rfl
    clear hB hk1 hz1 hPx hDs hFc ht9 hvm
    refine lv_istore (lv' := [(5, .int k), (4, .int (nI (5 * t))), (3, .ref qo), (2, .ref p0), (1, .ref q0), (0, .ref b)]) hx hb dL_law_377 hl (by decide) rfl (fun ls hl => ?_)
    refine lv_aload_n hx hb dL_law_379 rfl (lv_at hl 3 rfl) ?_
    refine lv_aload_n hx hb dL_law_380 rfl (lv_at hl 5 rfl) ?_
    refine lv_iload hx hb dL_law_381 (lv_at hl 1 rfl) ?_
    refine lv_iconst (v := nI 1) hx hb dL_law_383 (by decide) ?_
    refine lv_iadd hx hb dL_law_384 ?_
    rw [nI_add]
    refine va_sld hx hb hX hbl hbA hS (vp_in_nI (by omega) (by omega)) dL_law_385 ?_
    rw [nI_clamp (show 5 * t + 1 < 2 ^ 31 by omega), ex]
    refine lv_aload_n hx hb dL_law_386 rfl (lv_at hl 5 rfl) ?_
    refine lv_iload hx hb dL_law_387 (lv_at hl 1 rfl) ?_
    refine lv_iconst (v := nI 2) hx hb dL_law_389 (by decide) ?_
    refine lv_iadd hx hb dL_law_390 ?_
    rw [nI_add]
    refine va_sld hx hb hX hbl hbA hS (vp_in_nI (by omega) (by omega)) dL_law_391 ?_
    rw [nI_clamp (show 5 * t + 2 < 2 ^ 31 by omega), ez]
    refine lv_if_eq (tgt := 399) hx hb dL_law_392 (by decide) (fun _ => ?_) (fun h9 => absurd hz0 h9)
    refine lv_iconst (v := 0) hx hb dL_law_399 (by decide) ?_
    have hPm := hP.sub (ws' := wM cyI cyZ p0 p1 p2 p3 p4 mn me ml mt th wo mr mo mk mz mq) [8, 9, 10, 11, 12] rfl
    have hDm := hD.sub (ws' := wM cyI cyZ p0 p1 p2 p3 p4 mn me ml mt th wo mr mo mk mz mq) [8, 9, 10, 11, 12] (by decide) rfl
    have hFm := va_free (wc := wM cyI cyZ p0 p1 p2 p3 p4 mn me ml mt th wo mr mo mk mz mq) hD hS hA [8, 9, 10, 11, 12] rfl
    refine va_calli (va_runV (As := [.int x, .int 0]) (rest := []) ⟨hx, hb, hml, hown, hts⟩ (k_X1_size l dC dI cyI cyZ _ p0 p1 p2 p3 p4 mn me ml mt th wo mr mo mk mz mq hPm (hDm.weaken (fun _ _ _ _ => trivial)) x 0 ) (cwV 2 hts gL_law_X1_size rfl rfl rfl (by decide +kernel) ⟨Nat.le_of_ble_eq_true rfl, Nat.le_of_ble_eq_true rfl⟩) (pK_V hKm (va_recv hK hP (ci := 1) (q0 := 8) rfl rfl)) rfl rfl hl.1 rfl (lv_room (Nat.le_of_ble_eq_true rfl)) dL_law_400 ⟨show 13 + t + 1 + 0 ≤ 1054 by omega, show 4603 + 6 * t + 6 + 0 ≤ 12897 by omega⟩) hS (fun q _ h => hFm q h) hFm (fun v9 u t9 H locs ht9 hvm hm hB hz1 hk1 hS => ?_)
    obtain ⟨th2, rfl⟩ : ∃ z, z = u := ⟨_, rfl⟩
    have hm : (¬ okS x ∧ th2 = 1) ∨ ∃ so : Nat, so < 5 ∧ x = nI so ∧ th2 = 0 ∧ v9 = (if (0 : Int32) = 0 then mn (2 * so) else mn (2 * so + 1)) := hm
    have hB : va_P (dC, dI) vwCl (wM cyI cyZ p0 p1 p2 p3 p4 mn me ml mt th2 wo mr mo mk mz mq) t9.heap := hB
    rw [ht9] at hB
    obtain ⟨hP, hD⟩ := va_join (w1 := wM cyI cyZ p0 p1 p2 p3 p4 mn me ml mt th2 wo mr mo mk mz mq) (wr := wXO cyI cyZ cyJ q0 q1 q2 q3 q4 q5 q6 qo wc wl sc sl cl ct rw co sk ss sq oo9) hP hD [8, 9, 10, 11, 12] [0, 1, 2, 3, 4, 5, 6, 7] rfl rfl (by decide) (by decide) hk1 hFm hB (wM_D (hDm.self (sz := _)))
    have hP : va_P (dC, dI) vwCl (wL cyI cyZ cyJ q0 q1 q2 q3 q4 q5 q6 qo p0 p1 p2 p3 p4 wc wl sc sl cl ct rw co sk ss sq oo9 mn me ml mt th2 wo mr mo mk mz mq) H := hP
    have hD : va_D A (wL cyI cyZ cyJ q0 q1 q2 q3 q4 q5 q6 qo p0 p1 p2 p3 p4 wc wl sc sl cl ct rw co sk ss sq oo9 mn me ml mt th2 wo mr mo mk mz mq) := hD
    clear hB hk1 hz1 hPm hDm hFm ht9 hvm
    obtain ⟨e1, e2, hR⟩ := rel_size hR hw hm
    clear hw hm
    refine lv_istore (lv' := [(6, .int v9), (5, .int k), (4, .int (nI (5 * t))), (3, .ref qo), (2, .ref p0), (1, .ref q0), (0, .ref b)]) hx hb dL_law_403 hl (by decide) rfl (fun ls hl => ?_)
    refine lv_aload_n hx hb dL_law_405 rfl (lv_at hl 4 rfl) ?_
    have hPm := hP.sub (ws' := wM cyI cyZ p0 p1 p2 p3 p4 mn me ml mt th2 wo mr mo mk mz mq) [8, 9, 10, 11, 12] rfl
    have hDm := hD.sub (ws' := wM cyI cyZ p0 p1 p2 p3 p4 mn me ml mt th2 wo mr mo mk mz mq) [8, 9, 10, 11, 12] (by decide) rfl
    refine gx_calli (va_runV (As := []) (rest := []) ⟨hx, hb, hml, hown, hts⟩ (k_X1_thrown l dC dI cyI cyZ _ p0 p1 p2 p3 p4 mn me ml mt th2 wo mr mo mk mz mq hPm (hDm.weaken (fun _ _ _ _ => trivial))) (cwV 0 hts gL_law_X1_thrown rfl rfl rfl (by decide +kernel) ⟨Nat.le_of_ble_eq_true rfl, Nat.le_of_ble_eq_true rfl⟩) (pK_V hKm (va_recv hK hP (ci := 1) (q0 := 8) rfl rfl)) rfl rfl hl.1 rfl (lv_room (Nat.le_of_ble_eq_true rfl)) dL_law_406 ⟨show 13 + t + 1 + 0 + 0 ≤ 1054 by omega, show 4603 + 6 * t + 6 + 0 + 0 ≤ 12897 by omega⟩) (fun r9 hr9 => ?_)
    subst hr9
    refine lv_iload hx hb dL_law_409 (lv_at hl 1 rfl) ?_
    refine lv_icmp_eq (tgt := 416) hx hb dL_law_411 (by decide) (fun _ => ?_) (fun c1 => absurd e1.symm c1)
    refine lv_iload hx hb dL_law_416 (lv_at hl 1 rfl) ?_
    refine lv_if_ne (tgt := 433) hx hb dL_law_418 (by decide) (fun _ => ?_) (fun c2 => ?_)
    · refine lv_goto (tgt := 1208) hx hb dL_law_433 (by decide) ?_
      exact lc_tail hc0 (by omega) (by omega) hP hD hR hS hl ih
    · skip
      refine lv_aload_n hx hb dL_law_421 rfl (lv_at hl 3 rfl) ?_
      refine lv_iconst (v := nI 0) hx hb dL_law_422 (by decide) ?_
      refine va_lald hx hb hK hP 7 2 rfl rfl (vp_in_nI (by omega) (by omega)) dL_law_423 ?_
      rw [nI_clamp (show 0 < 2 ^ 31 by omega), e2 c2]
      refine lv_iload hx hb dL_law_424 (lv_at hl 0 rfl) ?_
      refine lv_i2l hx hb dL_law_426 rfl ?_
      refine W.lcmp hx hb dL_law_427 ?_
      rw [lg_cmp_self]
      refine lv_if_eq (tgt := 433) hx hb dL_law_428 (by decide) (fun _ => ?_) (fun c3 => absurd rfl c3)
      refine lv_goto (tgt := 1208) hx hb dL_law_433 (by decide) ?_
      exact lc_tail hc0 (by omega) (by omega) hP hD hR hS hl ih
  · skip
    refine lv_aload_n hx hb dL_law_352 rfl (lv_at hl 3 rfl) ?_
    refine lv_aload_n hx hb dL_law_353 rfl (lv_at hl 4 rfl) ?_
    refine lv_iload hx hb dL_law_354 (lv_at hl 0 rfl) ?_
    refine lv_iconst (v := nI 1) hx hb dL_law_356 (by decide) ?_
    refine lv_iadd hx hb dL_law_357 ?_
    rw [nI_add]
    refine va_sld hx hb hX hbl hbA hS (vp_in_nI (by omega) (by omega)) dL_law_358 ?_
    rw [nI_clamp (show 5 * t + 1 < 2 ^ 31 by omega), ex]
    refine lv_aload_n hx hb dL_law_359 rfl (lv_at hl 4 rfl) ?_
    refine lv_iload hx hb dL_law_360 (lv_at hl 0 rfl) ?_
    refine lv_iconst (v := nI 2) hx hb dL_law_362 (by decide) ?_
    refine lv_iadd hx hb dL_law_363 ?_
    rw [nI_add]
    refine va_sld hx hb hX hbl hbA hS (vp_in_nI (by omega) (by omega)) dL_law_364 ?_
    rw [nI_clamp (show 5 * t + 2 < 2 ^ 31 by omega), ez]
    refine lv_if_eq (tgt := 372) hx hb dL_law_365 (by decide) (fun h9 => absurd h9 hz0) (fun _ => ?_)
    refine lv_iconst (v := 1) hx hb dL_law_368 (by decide) ?_
    refine lv_goto (tgt := 373) hx hb dL_law_369 (by decide) ?_
    refine lv_aload_n hx hb dL_law_373 rfl (lv_at hl 1 rfl) ?_
    have hPx := hP.sub (ws' := wXO cyI cyZ cyJ q0 q1 q2 q3 q4 q5 q6 qo wc wl sc sl cl ct rw co sk ss sq oo) [0, 1, 2, 3, 4, 5, 6, 7] rfl
    have hDs := hD.sub (ws' := wXO cyI cyZ cyJ q0 q1 q2 q3 q4 q5 q6 qo wc wl sc sl cl ct rw co sk ss sq oo) [0, 1, 2, 3, 4, 5, 6, 7] (by decide) rfl
    have hFc := va_free (wc := wXO cyI cyZ cyJ q0 q1 q2 q3 q4 q5 q6 qo wc wl sc sl cl ct rw co sk ss sq oo) hD hS hA [0, 1, 2, 3, 4, 5, 6, 7] rfl
    refine va_calli (vx_runSW (As := [.ref q0, .int x, .int 1, .ref qo]) (rest := []) ⟨hx, hb, hml, hown, hts⟩ (k_L_size l hst dC dI cyI cyZ cyJ _ q0 q1 q2 q3 q4 q5 q6 qo wc wl sc sl cl ct rw co sk ss sq oo hPx (hDs.weaken (fun _ _ _ _ => trivial)) x 1 ) (vx_cwSW 4 hts gL_law_L_size rfl rfl rfl (by decide +kernel) ⟨Nat.le_of_ble_eq_true rfl, Nat.le_of_ble_eq_true rfl⟩) (pZ_S hK hz hS hFc) rfl rfl hl.1 rfl (lv_room (Nat.le_of_ble_eq_true rfl)) dL_law_374 ⟨show 13 + t + 1 ≤ 1054 by omega, show 4603 + 6 * t + 6 ≤ 12897 by omega⟩) hS (fun q _ h => hFc q h) hFc (fun k u t9 H locs ht9 hvm hw hB hz1 hk1 hS => ?_)
    obtain ⟨oo9, rfl⟩ : ∃ z, z = u := ⟨_, rfl⟩
    have hw : ((¬ (¬ x < 0 ∧ x < nI 5)) ∧ k = 1 ∧ oo9 = oo) ∨ (k = 0 ∧ ∃ (rr : Int32) (so : Nat), (x = nI so ∧ so < 5 ∧ rr = (if (1 : Int32) = 0 then wl so else sl so)) ∧ oo9 = vp_updL oo 0 rr.toInt64) := hw
    have hB : va_P (dC, dI) vwCl (wXO cyI cyZ cyJ q0 q1 q2 q3 q4 q5 q6 qo wc wl sc sl cl ct rw co sk ss sq oo9) t9.heap := hB
    rw [ht9] at hB
    obtain ⟨hP, hD⟩ := va_join (w1 := wXO cyI cyZ cyJ q0 q1 q2 q3 q4 q5 q6 qo wc wl sc sl cl ct rw co sk ss sq oo9) (wr := wM cyI cyZ p0 p1 p2 p3 p4 mn me ml mt th wo mr mo mk mz mq) hP hD [0, 1, 2, 3, 4, 5, 6, 7] [8, 9, 10, 11, 12] rfl rfl (by decide) (by decide) hk1 hFc hB (wO_D (hDs.self (sz := _)))
    have hP : va_P (dC, dI) vwCl (wL cyI cyZ cyJ q0 q1 q2 q3 q4 q5 q6 qo p0 p1 p2 p3 p4 wc wl sc sl cl ct rw co sk ss sq oo9 mn me ml mt th wo mr mo mk mz mq) H := hP.sub (ws' := wL cyI cyZ cyJ q0 q1 q2 q3 q4 q5 q6 qo p0 p1 p2 p3 p4 wc wl sc sl cl ct rw co sk ss sq oo9 mn me ml mt th wo mr mo mk mz mq) [5, 6, 7, 8, 9, 10, 11, 12, 0, 1, 2, 3, 4] rfl
    have hD : va_D A (wL cyI cyZ cyJ q0 q1 q2 q3 q4 q5 q6 qo p0 p1 p2 p3 p4 wc wl sc sl cl ct rw co sk ss sq oo9 mn me ml mt th wo mr mo mk mz mq) := hD.sub (ws' := wL cyI cyZ cyJ q0 q1 q2 q3 q4 q5 q6 qo p0 p1 p2 p3 p4 wc wl sc sl cl ct rw co sk ss sq oo9 mn me ml mt th wo mr mo mk mz mq) [5, 6, 7, 8, 9, 10, 11, 12, 0, 1, 2, 3, 4] (by decide) rfl
    clear hB hk1 hz1 hPx hDs hFc ht9 hvm
    refine lv_istore (lv' := [(5, .int k), (4, .int (nI (5 * t))), (3, .ref qo), (2, .ref p0), (1, .ref q0), (0, .ref b)]) hx hb dL_law_377 hl (by decide) rfl (fun ls hl => ?_)
    refine lv_aload_n hx hb dL_law_379 rfl (lv_at hl 3 rfl) ?_
    refine lv_aload_n hx hb dL_law_380 rfl (lv_at hl 5 rfl) ?_
    refine lv_iload hx hb dL_law_381 (lv_at hl 1 rfl) ?_
    refine lv_iconst (v := nI 1) hx hb dL_law_383 (by decide) ?_
    refine lv_iadd hx hb dL_law_384 ?_
    rw [nI_add]
    refine va_sld hx hb hX hbl hbA hS (vp_in_nI (by omega) (by omega)) dL_law_385 ?_
    rw [nI_clamp (show 5 * t + 1 < 2 ^ 31 by omega), ex]
    refine lv_aload_n hx hb dL_law_386 rfl (lv_at hl 5 rfl) ?_
    refine lv_iload hx hb dL_law_387 (lv_at hl 1 rfl) ?_
    refine lv_iconst (v := nI 2) hx hb dL_law_389 (by decide) ?_
    refine lv_iadd hx hb dL_law_390 ?_
    rw [nI_add]
    refine va_sld hx hb hX hbl hbA hS (vp_in_nI (by omega) (by omega)) dL_law_391 ?_
    rw [nI_clamp (show 5 * t + 2 < 2 ^ 31 by omega), ez]
    refine lv_if_eq (tgt := 399) hx hb dL_law_392 (by decide) (fun h9 => absurd h9 hz0) (fun _ => ?_)
    refine lv_iconst (v := 1) hx hb dL_law_395 (by decide) ?_
    refine lv_goto (tgt := 400) hx hb dL_law_396 (by decide) ?_
    have hPm := hP.sub (ws' := wM cyI cyZ p0 p1 p2 p3 p4 mn me ml mt th wo mr mo mk mz mq) [8, 9, 10, 11, 12] rfl
    have hDm := hD.sub (ws' := wM cyI cyZ p0 p1 p2 p3 p4 mn me ml mt th wo mr mo mk mz mq) [8, 9, 10, 11, 12] (by decide) rfl
    have hFm := va_free (wc := wM cyI cyZ p0 p1 p2 p3 p4 mn me ml mt th wo mr mo mk mz mq) hD hS hA [8, 9, 10, 11, 12] rfl
    refine va_calli (va_runV (As := [.int x, .int 1]) (rest := []) ⟨hx, hb, hml, hown, hts⟩ (k_X1_size l dC dI cyI cyZ _ p0 p1 p2 p3 p4 mn me ml mt th wo mr mo mk mz mq hPm (hDm.weaken (fun _ _ _ _ => trivial)) x 1 ) (cwV 2 hts gL_law_X1_size rfl rfl rfl (by decide +kernel) ⟨Nat.le_of_ble_eq_true rfl, Nat.le_of_ble_eq_true rfl⟩) (pK_V hKm (va_recv hK hP (ci := 1) (q0 := 8) rfl rfl)) rfl rfl hl.1 rfl (lv_room (Nat.le_of_ble_eq_true rfl)) dL_law_400 ⟨show 13 + t + 1 + 0 ≤ 1054 by omega, show 4603 + 6 * t + 6 + 0 ≤ 12897 by omega⟩) hS (fun q _ h => hFm q h) hFm (fun v9 u t9 H locs ht9 hvm hm hB hz1 hk1 hS => ?_)
    obtain ⟨th2, rfl⟩ : ∃ z, z = u := ⟨_, rfl⟩
    have hm : (¬ okS x ∧ th2 = 1) ∨ ∃ so : Nat, so < 5 ∧ x = nI so ∧ th2 = 0 ∧ v9 = (if (1 : Int32) = 0 then mn (2 * so) else mn (2 * so + 1)) := hm
    have hB : va_P (dC, dI) vwCl (wM cyI cyZ p0 p1 p2 p3 p4 mn me ml mt th2 wo mr mo mk mz mq) t9.heap := hB
    rw [ht9] at hB
    obtain ⟨hP, hD⟩ := va_join (w1 := wM cyI cyZ p0 p1 p2 p3 p4 mn me ml mt th2 wo mr mo mk mz mq) (wr := wXO cyI cyZ cyJ q0 q1 q2 q3 q4 q5 q6 qo wc wl sc sl cl ct rw co sk ss sq oo9) hP hD [8, 9, 10, 11, 12] [0, 1, 2, 3, 4, 5, 6, 7] rfl rfl (by decide) (by decide) hk1 hFm hB (wM_D (hDm.self (sz := _)))
    have hP : va_P (dC, dI) vwCl (wL cyI cyZ cyJ q0 q1 q2 q3 q4 q5 q6 qo p0 p1 p2 p3 p4 wc wl sc sl cl ct rw co sk ss sq oo9 mn me ml mt th2 wo mr mo mk mz mq) H := hP
    have hD : va_D A (wL cyI cyZ cyJ q0 q1 q2 q3 q4 q5 q6 qo p0 p1 p2 p3 p4 wc wl sc sl cl ct rw co sk ss sq oo9 mn me ml mt th2 wo mr mo mk mz mq) := hD
    clear hB hk1 hz1 hPm hDm hFm ht9 hvm
    obtain ⟨e1, e2, hR⟩ := rel_size hR hw hm
    clear hw hm
    refine lv_istore (lv' := [(6, .int v9), (5, .int k), (4, .int (nI (5 * t))), (3, .ref qo), (2, .ref p0), (1, .ref q0), (0, .ref b)]) hx hb dL_law_403 hl (by decide) rfl (fun ls hl => ?_)
    refine lv_aload_n hx hb dL_law_405 rfl (lv_at hl 4 rfl) ?_
    have hPm := hP.sub (ws' := wM cyI cyZ p0 p1 p2 p3 p4 mn me ml mt th2 wo mr mo mk mz mq) [8, 9, 10, 11, 12] rfl
    have hDm := hD.sub (ws' := wM cyI cyZ p0 p1 p2 p3 p4 mn me ml mt th2 wo mr mo mk mz mq) [8, 9, 10, 11, 12] (by decide) rfl
    refine gx_calli (va_runV (As := []) (rest := []) ⟨hx, hb, hml, hown, hts⟩ (k_X1_thrown l dC dI cyI cyZ _ p0 p1 p2 p3 p4 mn me ml mt th2 wo mr mo mk mz mq hPm (hDm.weaken (fun _ _ _ _ => trivial))) (cwV 0 hts gL_law_X1_thrown rfl rfl rfl (by decide +kernel) ⟨Nat.le_of_ble_eq_true rfl, Nat.le_of_ble_eq_true rfl⟩) (pK_V hKm (va_recv hK hP (ci := 1) (q0 := 8) rfl rfl)) rfl rfl hl.1 rfl (lv_room (Nat.le_of_ble_eq_true rfl)) dL_law_406 ⟨show 13 + t + 1 + 0 + 0 ≤ 1054 by omega, show 4603 + 6 * t + 6 + 0 + 0 ≤ 12897 by omega⟩) (fun r9 hr9 => ?_)
    subst hr9
    refine lv_iload hx hb dL_law_409 (lv_at hl 1 rfl) ?_
    refine lv_icmp_eq (tgt := 416) hx hb dL_law_411 (by decide) (fun _ => ?_) (fun c1 => absurd e1.symm c1)
    refine lv_iload hx hb dL_law_416 (lv_at hl 1 rfl) ?_
    refine lv_if_ne (tgt := 433) hx hb dL_law_418 (by decide) (fun _ => ?_) (fun c2 => ?_)
    · refine lv_goto (tgt := 1208) hx hb dL_law_433 (by decide) ?_
      exact lc_tail hc0 (by omega) (by omega) hP hD hR hS hl ih
    · skip
      refine lv_aload_n hx hb dL_law_421 rfl (lv_at hl 3 rfl) ?_
      refine lv_iconst (v := nI 0) hx hb dL_law_422 (by decide) ?_
      refine va_lald hx hb hK hP 7 2 rfl rfl (vp_in_nI (by omega) (by omega)) dL_law_423 ?_
      rw [nI_clamp (show 0 < 2 ^ 31 by omega), e2 c2]
      refine lv_iload hx hb dL_law_424 (lv_at hl 0 rfl) ?_
      refine lv_i2l hx hb dL_law_426 rfl ?_
      refine W.lcmp hx hb dL_law_427 ?_
      rw [lg_cmp_self]
      refine lv_if_eq (tgt := 433) hx hb dL_law_428 (by decide) (fun _ => ?_) (fun c3 => absurd rfl c3)
      refine lv_goto (tgt := 1208) hx hb dL_law_433 (by decide) ?_
      exact lc_tail hc0 (by omega) (by omega) hP hD hR hS hl ih
set_option maxHeartbeats 4000000 in
set_option maxRecDepth 100000 in
theorem lc_get {p : Program} {l : Launch} {e : Env} {s : State} {m : MethodId} {below : List Frame} {meth : Method} {c : Code} {dC : Nat → ClassId} {dI : Nat → Nat → Nat} {cyI cyZ cyJ : ClassId} {A : Nat → Prop} {b L : Nat} {xs : Nat → Int32} {Q : State → Prop} {q0 q1 q2 q3 q4 q5 q6 qo p0 p1 p2 p3 p4 : Nat} {wc wl sc sl cl ct : Nat → Int32} {rw co sk ss sq : Int32} {oo : Nat → Int64} {mn me ml mt : Nat → Int32} {th wo mr mo mk mz mq : Int32} {t : Nat} {H : Heap} {locs : List Loc} {ls : Array Slot} (hc : lwC p l s m c dC dI cyI cyZ cyJ A b L xs) (ht : 5 * t + 5 ≤ L) (hP : va_P (dC, dI) vwCl (wL cyI cyZ cyJ q0 q1 q2 q3 q4 q5 q6 qo p0 p1 p2 p3 p4 wc wl sc sl cl ct rw co sk ss sq oo mn me ml mt th wo mr mo mk mz mq) H) (hD : va_D A (wL cyI cyZ cyJ q0 q1 q2 q3 q4 q5 q6 qo p0 p1 p2 p3 p4 wc wl sc sl cl ct rw co sk ss sq oo mn me ml mt th wo mr mo mk mz mq)) (hR : Rel wc wl sc sl cl ct rw co sk ss sq mn me ml mt wo mr mo mk mz mq) (hS : va_S A s.heap H locs) (hl : lv_has ls 7 [(4, .int (nI (5 * t))), (3, .ref qo), (2, .ref p0), (1, .ref q0), (0, .ref b)])
    (ih : ∀ (H : Heap) (locs : List Loc) (ls : Array Slot), lwI dC dI cyI cyZ cyJ A s b q0 q1 q2 q3 q4 q5 q6 qo p0 p1 p2 p3 p4 (t + 1) H locs ls → W p l e room_1 s m #[Value.ref b] below meth c H locs (13 + (t + 1)) (4603 + 6 * (t + 1)) Q (F0 m 23 ls [])) : W p l e room_1 s m #[Value.ref b] below meth c H locs (13 + t) (4603 + 6 * t) Q (F0 m 436 ls []) := by
  have hc0 := hc
  obtain ⟨hx, hb, hml, hown, hts, hX, hbl, hbA, hA, hK, hz, hL, hst⟩ := hc
  have hKm := hK.sub (tys' := tyW cyI cyZ) [0, 1] rfl
  obtain ⟨x, ex⟩ : ∃ z, xs (5 * t + 1) = z := ⟨_, rfl⟩
  obtain ⟨y, ey⟩ : ∃ z, xs (5 * t + 2) = z := ⟨_, rfl⟩
  refine lv_aload_n hx hb dL_law_436 rfl (lv_at hl 3 rfl) ?_
  refine lv_aload_n hx hb dL_law_437 rfl (lv_at hl 4 rfl) ?_
  refine lv_iload hx hb dL_law_438 (lv_at hl 0 rfl) ?_
  refine lv_iconst (v := nI 1) hx hb dL_law_440 (by decide) ?_
  refine lv_iadd hx hb dL_law_441 ?_
  rw [nI_add]
  refine va_sld hx hb hX hbl hbA hS (vp_in_nI (by omega) (by omega)) dL_law_442 ?_
  rw [nI_clamp (show 5 * t + 1 < 2 ^ 31 by omega), ex]
  refine lv_aload_n hx hb dL_law_443 rfl (lv_at hl 4 rfl) ?_
  refine lv_iload hx hb dL_law_444 (lv_at hl 0 rfl) ?_
  refine lv_iconst (v := nI 2) hx hb dL_law_446 (by decide) ?_
  refine lv_iadd hx hb dL_law_447 ?_
  rw [nI_add]
  refine va_sld hx hb hX hbl hbA hS (vp_in_nI (by omega) (by omega)) dL_law_448 ?_
  rw [nI_clamp (show 5 * t + 2 < 2 ^ 31 by omega), ey]
  refine lv_aload_n hx hb dL_law_449 rfl (lv_at hl 1 rfl) ?_
  have hPx := hP.sub (ws' := wXO cyI cyZ cyJ q0 q1 q2 q3 q4 q5 q6 qo wc wl sc sl cl ct rw co sk ss sq oo) [0, 1, 2, 3, 4, 5, 6, 7] rfl
  have hDs := hD.sub (ws' := wXO cyI cyZ cyJ q0 q1 q2 q3 q4 q5 q6 qo wc wl sc sl cl ct rw co sk ss sq oo) [0, 1, 2, 3, 4, 5, 6, 7] (by decide) rfl
  have hFc := va_free (wc := wXO cyI cyZ cyJ q0 q1 q2 q3 q4 q5 q6 qo wc wl sc sl cl ct rw co sk ss sq oo) hD hS hA [0, 1, 2, 3, 4, 5, 6, 7] rfl
  refine va_calli (vx_runSW (As := [.ref q0, .int x, .int y, .ref qo]) (rest := []) ⟨hx, hb, hml, hown, hts⟩ (k_L_get l hst dC dI cyI cyZ cyJ _ q0 q1 q2 q3 q4 q5 q6 qo wc wl sc sl cl ct rw co sk ss sq oo hPx (hDs.weaken (fun _ _ _ _ => trivial)) x y hR.hwl) (vx_cwSW 4 hts gL_law_L_get rfl rfl rfl (by decide +kernel) ⟨Nat.le_of_ble_eq_true rfl, Nat.le_of_ble_eq_true rfl⟩) (pZ_S hK hz hS hFc) rfl rfl hl.1 rfl (lv_room (Nat.le_of_ble_eq_true rfl)) dL_law_450 ⟨show 13 + t + 1 ≤ 1054 by omega, show 4603 + 6 * t + 6 ≤ 12897 by omega⟩) hS (fun q _ h => hFc q h) hFc (fun k u t9 H locs ht9 hvm hw hB hz1 hk1 hS => ?_)
  obtain ⟨oo9, rfl⟩ : ∃ z, z = u := ⟨_, rfl⟩
  have hw : ((¬ (¬ x < 0 ∧ x < nI 5)) ∧ k = 1 ∧ oo9 = oo) ∨ ((∃ so : Nat, so < 5 ∧ x = nI so ∧ wl so = -1) ∧ k = 2 ∧ oo9 = oo) ∨ ((∃ so : Nat, so < 5 ∧ x = nI so ∧ ¬ wl so = -1 ∧ ¬ (¬ y < 0 ∧ y < wl so)) ∧ k = 3 ∧ oo9 = oo) ∨ (k = 0 ∧ ∃ (rr : Int32) (so : Nat) (i : Nat), (x = nI so ∧ so < 5 ∧ y = nI i ∧ i < 64 ∧ ¬ wl so = -1 ∧ nI i < wl so ∧ rr = wc (so * 64 + i)) ∧ oo9 = vp_updL oo 0 rr.toInt64) := hw
  have hB : va_P (dC, dI) vwCl (wXO cyI cyZ cyJ q0 q1 q2 q3 q4 q5 q6 qo wc wl sc sl cl ct rw co sk ss sq oo9) t9.heap := hB
  rw [ht9] at hB
  obtain ⟨hP, hD⟩ := va_join (w1 := wXO cyI cyZ cyJ q0 q1 q2 q3 q4 q5 q6 qo wc wl sc sl cl ct rw co sk ss sq oo9) (wr := wM cyI cyZ p0 p1 p2 p3 p4 mn me ml mt th wo mr mo mk mz mq) hP hD [0, 1, 2, 3, 4, 5, 6, 7] [8, 9, 10, 11, 12] rfl rfl (by decide) (by decide) hk1 hFc hB (wO_D (hDs.self (sz := _)))
  have hP : va_P (dC, dI) vwCl (wL cyI cyZ cyJ q0 q1 q2 q3 q4 q5 q6 qo p0 p1 p2 p3 p4 wc wl sc sl cl ct rw co sk ss sq oo9 mn me ml mt th wo mr mo mk mz mq) H := hP.sub (ws' := wL cyI cyZ cyJ q0 q1 q2 q3 q4 q5 q6 qo p0 p1 p2 p3 p4 wc wl sc sl cl ct rw co sk ss sq oo9 mn me ml mt th wo mr mo mk mz mq) [5, 6, 7, 8, 9, 10, 11, 12, 0, 1, 2, 3, 4] rfl
  have hD : va_D A (wL cyI cyZ cyJ q0 q1 q2 q3 q4 q5 q6 qo p0 p1 p2 p3 p4 wc wl sc sl cl ct rw co sk ss sq oo9 mn me ml mt th wo mr mo mk mz mq) := hD.sub (ws' := wL cyI cyZ cyJ q0 q1 q2 q3 q4 q5 q6 qo p0 p1 p2 p3 p4 wc wl sc sl cl ct rw co sk ss sq oo9 mn me ml mt th wo mr mo mk mz mq) [5, 6, 7, 8, 9, 10, 11, 12, 0, 1, 2, 3, 4] (by decide) rfl
  clear hB hk1 hz1 hPx hDs hFc ht9 hvm
  refine lv_istore (lv' := [(5, .int k), (4, .int (nI (5 * t))), (3, .ref qo), (2, .ref p0), (1, .ref q0), (0, .ref b)]) hx hb dL_law_453 hl (by decide) rfl (fun ls hl => ?_)
  refine lv_aload_n hx hb dL_law_455 rfl (lv_at hl 3 rfl) ?_
  refine lv_aload_n hx hb dL_law_456 rfl (lv_at hl 5 rfl) ?_
  refine lv_iload hx hb dL_law_457 (lv_at hl 1 rfl) ?_
  refine lv_iconst (v := nI 1) hx hb dL_law_459 (by decide) ?_
  refine lv_iadd hx hb dL_law_460 ?_
  rw [nI_add]
  refine va_sld hx hb hX hbl hbA hS (vp_in_nI (by omega) (by omega)) dL_law_461 ?_
  rw [nI_clamp (show 5 * t + 1 < 2 ^ 31 by omega), ex]
  refine lv_aload_n hx hb dL_law_462 rfl (lv_at hl 5 rfl) ?_
  refine lv_iload hx hb dL_law_463 (lv_at hl 1 rfl) ?_
  refine lv_iconst (v := nI 2) hx hb dL_law_465 (by decide) ?_
  refine lv_iadd hx hb dL_law_466 ?_
  rw [nI_add]
  refine va_sld hx hb hX hbl hbA hS (vp_in_nI (by omega) (by omega)) dL_law_467 ?_
  rw [nI_clamp (show 5 * t + 2 < 2 ^ 31 by omega), ey]
  have hPm := hP.sub (ws' := wM cyI cyZ p0 p1 p2 p3 p4 mn me ml mt th wo mr mo mk mz mq) [8, 9, 10, 11, 12] rfl
  have hDm := hD.sub (ws' := wM cyI cyZ p0 p1 p2 p3 p4 mn me ml mt th wo mr mo mk mz mq) [8, 9, 10, 11, 12] (by decide) rfl
  have hFm := va_free (wc := wM cyI cyZ p0 p1 p2 p3 p4 mn me ml mt th wo mr mo mk mz mq) hD hS hA [8, 9, 10, 11, 12] rfl
  refine va_calli (va_runV (As := [.int x, .int y]) (rest := []) ⟨hx, hb, hml, hown, hts⟩ (k_X1_get l dC dI cyI cyZ _ p0 p1 p2 p3 p4 mn me ml mt th wo mr mo mk mz mq hPm (hDm.weaken (fun _ _ _ _ => trivial)) x y hR.hmn) (cwV 2 hts gL_law_X1_get rfl rfl rfl (by decide +kernel) ⟨Nat.le_of_ble_eq_true rfl, Nat.le_of_ble_eq_true rfl⟩) (pK_V hKm (va_recv hK hP (ci := 1) (q0 := 8) rfl rfl)) rfl rfl hl.1 rfl (lv_room (Nat.le_of_ble_eq_true rfl)) dL_law_468 ⟨show 13 + t + 1 + 0 ≤ 1054 by omega, show 4603 + 6 * t + 6 + 0 ≤ 12897 by omega⟩) hS (fun q _ h => hFm q h) hFm (fun v9 u t9 H locs ht9 hvm hm hB hz1 hk1 hS => ?_)
  obtain ⟨th2, rfl⟩ : ∃ z, z = u := ⟨_, rfl⟩
  have hm : mG mn x y th2 True (fun so i => v9 = me (64 * (2 * so) + i)) := hm
  have hB : va_P (dC, dI) vwCl (wM cyI cyZ p0 p1 p2 p3 p4 mn me ml mt th2 wo mr mo mk mz mq) t9.heap := hB
  rw [ht9] at hB
  obtain ⟨hP, hD⟩ := va_join (w1 := wM cyI cyZ p0 p1 p2 p3 p4 mn me ml mt th2 wo mr mo mk mz mq) (wr := wXO cyI cyZ cyJ q0 q1 q2 q3 q4 q5 q6 qo wc wl sc sl cl ct rw co sk ss sq oo9) hP hD [8, 9, 10, 11, 12] [0, 1, 2, 3, 4, 5, 6, 7] rfl rfl (by decide) (by decide) hk1 hFm hB (wM_D (hDm.self (sz := _)))
  have hP : va_P (dC, dI) vwCl (wL cyI cyZ cyJ q0 q1 q2 q3 q4 q5 q6 qo p0 p1 p2 p3 p4 wc wl sc sl cl ct rw co sk ss sq oo9 mn me ml mt th2 wo mr mo mk mz mq) H := hP
  have hD : va_D A (wL cyI cyZ cyJ q0 q1 q2 q3 q4 q5 q6 qo p0 p1 p2 p3 p4 wc wl sc sl cl ct rw co sk ss sq oo9 mn me ml mt th2 wo mr mo mk mz mq) := hD
  clear hB hk1 hz1 hPm hDm hFm ht9 hvm
  obtain ⟨e1, e2, hR⟩ := rel_get hR hw hm
  clear hw hm
  refine lv_istore (lv' := [(6, .int v9), (5, .int k), (4, .int (nI (5 * t))), (3, .ref qo), (2, .ref p0), (1, .ref q0), (0, .ref b)]) hx hb dL_law_471 hl (by decide) rfl (fun ls hl => ?_)
  refine lv_aload_n hx hb dL_law_473 rfl (lv_at hl 4 rfl) ?_
  have hPm := hP.sub (ws' := wM cyI cyZ p0 p1 p2 p3 p4 mn me ml mt th2 wo mr mo mk mz mq) [8, 9, 10, 11, 12] rfl
  have hDm := hD.sub (ws' := wM cyI cyZ p0 p1 p2 p3 p4 mn me ml mt th2 wo mr mo mk mz mq) [8, 9, 10, 11, 12] (by decide) rfl
  refine gx_calli (va_runV (As := []) (rest := []) ⟨hx, hb, hml, hown, hts⟩ (k_X1_thrown l dC dI cyI cyZ _ p0 p1 p2 p3 p4 mn me ml mt th2 wo mr mo mk mz mq hPm (hDm.weaken (fun _ _ _ _ => trivial))) (cwV 0 hts gL_law_X1_thrown rfl rfl rfl (by decide +kernel) ⟨Nat.le_of_ble_eq_true rfl, Nat.le_of_ble_eq_true rfl⟩) (pK_V hKm (va_recv hK hP (ci := 1) (q0 := 8) rfl rfl)) rfl rfl hl.1 rfl (lv_room (Nat.le_of_ble_eq_true rfl)) dL_law_474 ⟨show 13 + t + 1 + 0 + 0 ≤ 1054 by omega, show 4603 + 6 * t + 6 + 0 + 0 ≤ 12897 by omega⟩) (fun r9 hr9 => ?_)
  subst hr9
  refine lv_iload hx hb dL_law_477 (lv_at hl 1 rfl) ?_
  refine lv_icmp_eq (tgt := 484) hx hb dL_law_479 (by decide) (fun _ => ?_) (fun c1 => absurd e1.symm c1)
  refine lv_iload hx hb dL_law_484 (lv_at hl 1 rfl) ?_
  refine lv_if_ne (tgt := 501) hx hb dL_law_486 (by decide) (fun _ => ?_) (fun c2 => ?_)
  · refine lv_goto (tgt := 1208) hx hb dL_law_501 (by decide) ?_
    exact lc_tail hc0 (by omega) (by omega) hP hD hR hS hl ih
  · skip
    refine lv_aload_n hx hb dL_law_489 rfl (lv_at hl 3 rfl) ?_
    refine lv_iconst (v := nI 0) hx hb dL_law_490 (by decide) ?_
    refine va_lald hx hb hK hP 7 2 rfl rfl (vp_in_nI (by omega) (by omega)) dL_law_491 ?_
    rw [nI_clamp (show 0 < 2 ^ 31 by omega), e2 c2]
    refine lv_iload hx hb dL_law_492 (lv_at hl 0 rfl) ?_
    refine lv_i2l hx hb dL_law_494 rfl ?_
    refine W.lcmp hx hb dL_law_495 ?_
    rw [lg_cmp_self]
    refine lv_if_eq (tgt := 501) hx hb dL_law_496 (by decide) (fun _ => ?_) (fun c3 => absurd rfl c3)
    refine lv_goto (tgt := 1208) hx hb dL_law_501 (by decide) ?_
    exact lc_tail hc0 (by omega) (by omega) hP hD hR hS hl ih
set_option maxHeartbeats 4000000 in
set_option maxRecDepth 100000 in
theorem lc_set {p : Program} {l : Launch} {e : Env} {s : State} {m : MethodId} {below : List Frame} {meth : Method} {c : Code} {dC : Nat → ClassId} {dI : Nat → Nat → Nat} {cyI cyZ cyJ : ClassId} {A : Nat → Prop} {b L : Nat} {xs : Nat → Int32} {Q : State → Prop} {q0 q1 q2 q3 q4 q5 q6 qo p0 p1 p2 p3 p4 : Nat} {wc wl sc sl cl ct : Nat → Int32} {rw co sk ss sq : Int32} {oo : Nat → Int64} {mn me ml mt : Nat → Int32} {th wo mr mo mk mz mq : Int32} {t : Nat} {H : Heap} {locs : List Loc} {ls : Array Slot} (hc : lwC p l s m c dC dI cyI cyZ cyJ A b L xs) (ht : 5 * t + 5 ≤ L) (hP : va_P (dC, dI) vwCl (wL cyI cyZ cyJ q0 q1 q2 q3 q4 q5 q6 qo p0 p1 p2 p3 p4 wc wl sc sl cl ct rw co sk ss sq oo mn me ml mt th wo mr mo mk mz mq) H) (hD : va_D A (wL cyI cyZ cyJ q0 q1 q2 q3 q4 q5 q6 qo p0 p1 p2 p3 p4 wc wl sc sl cl ct rw co sk ss sq oo mn me ml mt th wo mr mo mk mz mq)) (hR : Rel wc wl sc sl cl ct rw co sk ss sq mn me ml mt wo mr mo mk mz mq) (hS : va_S A s.heap H locs) (hl : lv_has ls 7 [(4, .int (nI (5 * t))), (3, .ref qo), (2, .ref p0), (1, .ref q0), (0, .ref b)])
    (ih : ∀ (H : Heap) (locs : List Loc) (ls : Array Slot), lwI dC dI cyI cyZ cyJ A s b q0 q1 q2 q3 q4 q5 q6 qo p0 p1 p2 p3 p4 (t + 1) H locs ls → W p l e room_1 s m #[Value.ref b] below meth c H locs (13 + (t + 1)) (4603 + 6 * (t + 1)) Q (F0 m 23 ls [])) : W p l e room_1 s m #[Value.ref b] below meth c H locs (13 + t) (4603 + 6 * t) Q (F0 m 504 ls []) := by
  have hc0 := hc
  obtain ⟨hx, hb, hml, hown, hts, hX, hbl, hbA, hA, hK, hz, hL, hst⟩ := hc
  have hKm := hK.sub (tys' := tyW cyI cyZ) [0, 1] rfl
  obtain ⟨x, ex⟩ : ∃ z, xs (5 * t + 1) = z := ⟨_, rfl⟩
  obtain ⟨y, ey⟩ : ∃ z, xs (5 * t + 2) = z := ⟨_, rfl⟩
  obtain ⟨v, ev⟩ : ∃ z, xs (5 * t + 3) = z := ⟨_, rfl⟩
  refine lv_aload_n hx hb dL_law_504 rfl (lv_at hl 3 rfl) ?_
  refine lv_aload_n hx hb dL_law_505 rfl (lv_at hl 4 rfl) ?_
  refine lv_iload hx hb dL_law_506 (lv_at hl 0 rfl) ?_
  refine lv_iconst (v := nI 1) hx hb dL_law_508 (by decide) ?_
  refine lv_iadd hx hb dL_law_509 ?_
  rw [nI_add]
  refine va_sld hx hb hX hbl hbA hS (vp_in_nI (by omega) (by omega)) dL_law_510 ?_
  rw [nI_clamp (show 5 * t + 1 < 2 ^ 31 by omega), ex]
  refine lv_aload_n hx hb dL_law_511 rfl (lv_at hl 4 rfl) ?_
  refine lv_iload hx hb dL_law_512 (lv_at hl 0 rfl) ?_
  refine lv_iconst (v := nI 2) hx hb dL_law_514 (by decide) ?_
  refine lv_iadd hx hb dL_law_515 ?_
  rw [nI_add]
  refine va_sld hx hb hX hbl hbA hS (vp_in_nI (by omega) (by omega)) dL_law_516 ?_
  rw [nI_clamp (show 5 * t + 2 < 2 ^ 31 by omega), ey]
  refine lv_aload_n hx hb dL_law_517 rfl (lv_at hl 4 rfl) ?_
  refine lv_iload hx hb dL_law_518 (lv_at hl 0 rfl) ?_
  refine lv_iconst (v := nI 3) hx hb dL_law_520 (by decide) ?_
  refine lv_iadd hx hb dL_law_521 ?_
  rw [nI_add]
  refine va_sld hx hb hX hbl hbA hS (vp_in_nI (by omega) (by omega)) dL_law_522 ?_
  rw [nI_clamp (show 5 * t + 3 < 2 ^ 31 by omega), ev]
  refine lv_aload_n hx hb dL_law_523 rfl (lv_at hl 1 rfl) ?_
  have hPx := hP.sub (ws' := wXO cyI cyZ cyJ q0 q1 q2 q3 q4 q5 q6 qo wc wl sc sl cl ct rw co sk ss sq oo) [0, 1, 2, 3, 4, 5, 6, 7] rfl
  have hDs := hD.sub (ws' := wXO cyI cyZ cyJ q0 q1 q2 q3 q4 q5 q6 qo wc wl sc sl cl ct rw co sk ss sq oo) [0, 1, 2, 3, 4, 5, 6, 7] (by decide) rfl
  have hFc := va_free (wc := wXO cyI cyZ cyJ q0 q1 q2 q3 q4 q5 q6 qo wc wl sc sl cl ct rw co sk ss sq oo) hD hS hA [0, 1, 2, 3, 4, 5, 6, 7] rfl
  refine va_calli (vx_runSW (As := [.ref q0, .int x, .int y, .int v, .ref qo]) (rest := []) ⟨hx, hb, hml, hown, hts⟩ (k_L_set l hst dC dI cyI cyZ cyJ _ q0 q1 q2 q3 q4 q5 q6 qo wc wl sc sl cl ct rw co sk ss sq oo hPx (hDs.weaken (fun _ _ _ _ => trivial)) x y v hR.hwl) (vx_cwSW 5 hts gL_law_L_set rfl rfl rfl (by decide +kernel) ⟨Nat.le_of_ble_eq_true rfl, Nat.le_of_ble_eq_true rfl⟩) (pZ_S hK hz hS hFc) rfl rfl hl.1 rfl (lv_room (Nat.le_of_ble_eq_true rfl)) dL_law_524 ⟨show 13 + t + 1 ≤ 1054 by omega, show 4603 + 6 * t + 6 ≤ 12897 by omega⟩) hS (fun q _ h => hFc q h) hFc (fun k u t9 H locs ht9 hvm hw hB hz1 hk1 hS => ?_)
  obtain ⟨wc9, oo9⟩ := u
  have hw : ((¬ (¬ x < 0 ∧ x < nI 5)) ∧ k = 1 ∧ wc9 = wc ∧ oo9 = oo) ∨ ((∃ so : Nat, so < 5 ∧ x = nI so ∧ wl so = -1) ∧ k = 2 ∧ wc9 = wc ∧ oo9 = oo) ∨ ((∃ so : Nat, so < 5 ∧ x = nI so ∧ ¬ wl so = -1 ∧ ¬ (¬ y < 0 ∧ y < wl so)) ∧ k = 3 ∧ wc9 = wc ∧ oo9 = oo) ∨ (k = 0 ∧ ∃ (rr : Int32) (so : Nat) (i : Nat), (x = nI so ∧ so < 5 ∧ y = nI i ∧ i < 64 ∧ ¬ wl so = -1 ∧ nI i < wl so ∧ rr = ft so v) ∧ wc9 = upd wc (so * 64 + i) (ft so v) ∧ oo9 = vp_updL oo 0 rr.toInt64) := hw
  have hB : va_P (dC, dI) vwCl (wXO cyI cyZ cyJ q0 q1 q2 q3 q4 q5 q6 qo wc9 wl sc sl cl ct rw co sk ss sq oo9) t9.heap := hB
  rw [ht9] at hB
  obtain ⟨hP, hD⟩ := va_join (w1 := wXO cyI cyZ cyJ q0 q1 q2 q3 q4 q5 q6 qo wc9 wl sc sl cl ct rw co sk ss sq oo9) (wr := wM cyI cyZ p0 p1 p2 p3 p4 mn me ml mt th wo mr mo mk mz mq) hP hD [0, 1, 2, 3, 4, 5, 6, 7] [8, 9, 10, 11, 12] rfl rfl (by decide) (by decide) hk1 hFc hB (wO_D (hDs.self (sz := _)))
  have hP : va_P (dC, dI) vwCl (wL cyI cyZ cyJ q0 q1 q2 q3 q4 q5 q6 qo p0 p1 p2 p3 p4 wc9 wl sc sl cl ct rw co sk ss sq oo9 mn me ml mt th wo mr mo mk mz mq) H := hP.sub (ws' := wL cyI cyZ cyJ q0 q1 q2 q3 q4 q5 q6 qo p0 p1 p2 p3 p4 wc9 wl sc sl cl ct rw co sk ss sq oo9 mn me ml mt th wo mr mo mk mz mq) [5, 6, 7, 8, 9, 10, 11, 12, 0, 1, 2, 3, 4] rfl
  have hD : va_D A (wL cyI cyZ cyJ q0 q1 q2 q3 q4 q5 q6 qo p0 p1 p2 p3 p4 wc9 wl sc sl cl ct rw co sk ss sq oo9 mn me ml mt th wo mr mo mk mz mq) := hD.sub (ws' := wL cyI cyZ cyJ q0 q1 q2 q3 q4 q5 q6 qo p0 p1 p2 p3 p4 wc9 wl sc sl cl ct rw co sk ss sq oo9 mn me ml mt th wo mr mo mk mz mq) [5, 6, 7, 8, 9, 10, 11, 12, 0, 1, 2, 3, 4] (by decide) rfl
  clear hB hk1 hz1 hPx hDs hFc ht9 hvm
  refine lv_istore (lv' := [(5, .int k), (4, .int (nI (5 * t))), (3, .ref qo), (2, .ref p0), (1, .ref q0), (0, .ref b)]) hx hb dL_law_527 hl (by decide) rfl (fun ls hl => ?_)
  refine lv_aload_n hx hb dL_law_529 rfl (lv_at hl 3 rfl) ?_
  refine lv_aload_n hx hb dL_law_530 rfl (lv_at hl 5 rfl) ?_
  refine lv_iload hx hb dL_law_531 (lv_at hl 1 rfl) ?_
  refine lv_iconst (v := nI 1) hx hb dL_law_533 (by decide) ?_
  refine lv_iadd hx hb dL_law_534 ?_
  rw [nI_add]
  refine va_sld hx hb hX hbl hbA hS (vp_in_nI (by omega) (by omega)) dL_law_535 ?_
  rw [nI_clamp (show 5 * t + 1 < 2 ^ 31 by omega), ex]
  refine lv_aload_n hx hb dL_law_536 rfl (lv_at hl 5 rfl) ?_
  refine lv_iload hx hb dL_law_537 (lv_at hl 1 rfl) ?_
  refine lv_iconst (v := nI 2) hx hb dL_law_539 (by decide) ?_
  refine lv_iadd hx hb dL_law_540 ?_
  rw [nI_add]
  refine va_sld hx hb hX hbl hbA hS (vp_in_nI (by omega) (by omega)) dL_law_541 ?_
  rw [nI_clamp (show 5 * t + 2 < 2 ^ 31 by omega), ey]
  refine lv_aload_n hx hb dL_law_542 rfl (lv_at hl 5 rfl) ?_
  refine lv_iload hx hb dL_law_543 (lv_at hl 1 rfl) ?_
  refine lv_iconst (v := nI 3) hx hb dL_law_545 (by decide) ?_
  refine lv_iadd hx hb dL_law_546 ?_
  rw [nI_add]
  refine va_sld hx hb hX hbl hbA hS (vp_in_nI (by omega) (by omega)) dL_law_547 ?_
  rw [nI_clamp (show 5 * t + 3 < 2 ^ 31 by omega), ev]
  have hPm := hP.sub (ws' := wM cyI cyZ p0 p1 p2 p3 p4 mn me ml mt th wo mr mo mk mz mq) [8, 9, 10, 11, 12] rfl
  have hDm := hD.sub (ws' := wM cyI cyZ p0 p1 p2 p3 p4 mn me ml mt th wo mr mo mk mz mq) [8, 9, 10, 11, 12] (by decide) rfl
  have hFm := va_free (wc := wM cyI cyZ p0 p1 p2 p3 p4 mn me ml mt th wo mr mo mk mz mq) hD hS hA [8, 9, 10, 11, 12] rfl
  refine va_calli (va_runV (As := [.int x, .int y, .int v]) (rest := []) ⟨hx, hb, hml, hown, hts⟩ (k_X1_set l dC dI cyI cyZ _ p0 p1 p2 p3 p4 mn me ml mt th wo mr mo mk mz mq hPm (hDm.weaken (fun _ _ _ _ => trivial)) x y v hR.hmn) (cwV 3 hts gL_law_X1_set rfl rfl rfl (by decide +kernel) ⟨Nat.le_of_ble_eq_true rfl, Nat.le_of_ble_eq_true rfl⟩) (pK_V hKm (va_recv hK hP (ci := 1) (q0 := 8) rfl rfl)) rfl rfl hl.1 rfl (lv_room (Nat.le_of_ble_eq_true rfl)) dL_law_548 ⟨show 13 + t + 1 + 0 ≤ 1054 by omega, show 4603 + 6 * t + 6 + 0 ≤ 12897 by omega⟩) hS (fun q _ h => hFm q h) hFm (fun v9 u t9 H locs ht9 hvm hm hB hz1 hk1 hS => ?_)
  obtain ⟨th2, me2⟩ := u
  have hm : mG mn x y th2 (me2 = me) (fun so i => v9 = ft so v ∧ me2 = upd me (64 * (2 * so) + i) (ft so v)) := hm
  have hB : va_P (dC, dI) vwCl (wM cyI cyZ p0 p1 p2 p3 p4 mn me2 ml mt th2 wo mr mo mk mz mq) t9.heap := hB
  rw [ht9] at hB
  obtain ⟨hP, hD⟩ := va_join (w1 := wM cyI cyZ p0 p1 p2 p3 p4 mn me2 ml mt th2 wo mr mo mk mz mq) (wr := wXO cyI cyZ cyJ q0 q1 q2 q3 q4 q5 q6 qo wc9 wl sc sl cl ct rw co sk ss sq oo9) hP hD [8, 9, 10, 11, 12] [0, 1, 2, 3, 4, 5, 6, 7] rfl rfl (by decide) (by decide) hk1 hFm hB (wM_D (hDm.self (sz := _)))
  have hP : va_P (dC, dI) vwCl (wL cyI cyZ cyJ q0 q1 q2 q3 q4 q5 q6 qo p0 p1 p2 p3 p4 wc9 wl sc sl cl ct rw co sk ss sq oo9 mn me2 ml mt th2 wo mr mo mk mz mq) H := hP
  have hD : va_D A (wL cyI cyZ cyJ q0 q1 q2 q3 q4 q5 q6 qo p0 p1 p2 p3 p4 wc9 wl sc sl cl ct rw co sk ss sq oo9 mn me2 ml mt th2 wo mr mo mk mz mq) := hD
  clear hB hk1 hz1 hPm hDm hFm ht9 hvm
  obtain ⟨e1, e2, hR⟩ := rel_set hR hw hm
  clear hw hm
  refine lv_istore (lv' := [(6, .int v9), (5, .int k), (4, .int (nI (5 * t))), (3, .ref qo), (2, .ref p0), (1, .ref q0), (0, .ref b)]) hx hb dL_law_551 hl (by decide) rfl (fun ls hl => ?_)
  refine lv_aload_n hx hb dL_law_553 rfl (lv_at hl 4 rfl) ?_
  have hPm := hP.sub (ws' := wM cyI cyZ p0 p1 p2 p3 p4 mn me2 ml mt th2 wo mr mo mk mz mq) [8, 9, 10, 11, 12] rfl
  have hDm := hD.sub (ws' := wM cyI cyZ p0 p1 p2 p3 p4 mn me2 ml mt th2 wo mr mo mk mz mq) [8, 9, 10, 11, 12] (by decide) rfl
  refine gx_calli (va_runV (As := []) (rest := []) ⟨hx, hb, hml, hown, hts⟩ (k_X1_thrown l dC dI cyI cyZ _ p0 p1 p2 p3 p4 mn me2 ml mt th2 wo mr mo mk mz mq hPm (hDm.weaken (fun _ _ _ _ => trivial))) (cwV 0 hts gL_law_X1_thrown rfl rfl rfl (by decide +kernel) ⟨Nat.le_of_ble_eq_true rfl, Nat.le_of_ble_eq_true rfl⟩) (pK_V hKm (va_recv hK hP (ci := 1) (q0 := 8) rfl rfl)) rfl rfl hl.1 rfl (lv_room (Nat.le_of_ble_eq_true rfl)) dL_law_554 ⟨show 13 + t + 1 + 0 + 0 ≤ 1054 by omega, show 4603 + 6 * t + 6 + 0 + 0 ≤ 12897 by omega⟩) (fun r9 hr9 => ?_)
  subst hr9
  refine lv_iload hx hb dL_law_557 (lv_at hl 1 rfl) ?_
  refine lv_icmp_eq (tgt := 564) hx hb dL_law_559 (by decide) (fun _ => ?_) (fun c1 => absurd e1.symm c1)
  refine lv_iload hx hb dL_law_564 (lv_at hl 1 rfl) ?_
  refine lv_if_ne (tgt := 581) hx hb dL_law_566 (by decide) (fun _ => ?_) (fun c2 => ?_)
  · refine lv_goto (tgt := 1208) hx hb dL_law_581 (by decide) ?_
    exact lc_tail hc0 (by omega) (by omega) hP hD hR hS hl ih
  · skip
    refine lv_aload_n hx hb dL_law_569 rfl (lv_at hl 3 rfl) ?_
    refine lv_iconst (v := nI 0) hx hb dL_law_570 (by decide) ?_
    refine va_lald hx hb hK hP 7 2 rfl rfl (vp_in_nI (by omega) (by omega)) dL_law_571 ?_
    rw [nI_clamp (show 0 < 2 ^ 31 by omega), e2 c2]
    refine lv_iload hx hb dL_law_572 (lv_at hl 0 rfl) ?_
    refine lv_i2l hx hb dL_law_574 rfl ?_
    refine W.lcmp hx hb dL_law_575 ?_
    rw [lg_cmp_self]
    refine lv_if_eq (tgt := 581) hx hb dL_law_576 (by decide) (fun _ => ?_) (fun c3 => absurd rfl c3)
    refine lv_goto (tgt := 1208) hx hb dL_law_581 (by decide) ?_
    exact lc_tail hc0 (by omega) (by omega) hP hD hR hS hl ih
set_option maxHeartbeats 4000000 in
set_option maxRecDepth 100000 in
theorem lc_alter {p : Program} {l : Launch} {e : Env} {s : State} {m : MethodId} {below : List Frame} {meth : Method} {c : Code} {dC : Nat → ClassId} {dI : Nat → Nat → Nat} {cyI cyZ cyJ : ClassId} {A : Nat → Prop} {b L : Nat} {xs : Nat → Int32} {Q : State → Prop} {q0 q1 q2 q3 q4 q5 q6 qo p0 p1 p2 p3 p4 : Nat} {wc wl sc sl cl ct : Nat → Int32} {rw co sk ss sq : Int32} {oo : Nat → Int64} {mn me ml mt : Nat → Int32} {th wo mr mo mk mz mq : Int32} {t : Nat} {H : Heap} {locs : List Loc} {ls : Array Slot} (hc : lwC p l s m c dC dI cyI cyZ cyJ A b L xs) (ht : 5 * t + 5 ≤ L) (hP : va_P (dC, dI) vwCl (wL cyI cyZ cyJ q0 q1 q2 q3 q4 q5 q6 qo p0 p1 p2 p3 p4 wc wl sc sl cl ct rw co sk ss sq oo mn me ml mt th wo mr mo mk mz mq) H) (hD : va_D A (wL cyI cyZ cyJ q0 q1 q2 q3 q4 q5 q6 qo p0 p1 p2 p3 p4 wc wl sc sl cl ct rw co sk ss sq oo mn me ml mt th wo mr mo mk mz mq)) (hR : Rel wc wl sc sl cl ct rw co sk ss sq mn me ml mt wo mr mo mk mz mq) (hS : va_S A s.heap H locs) (hl : lv_has ls 7 [(4, .int (nI (5 * t))), (3, .ref qo), (2, .ref p0), (1, .ref q0), (0, .ref b)])
    (ih : ∀ (H : Heap) (locs : List Loc) (ls : Array Slot), lwI dC dI cyI cyZ cyJ A s b q0 q1 q2 q3 q4 q5 q6 qo p0 p1 p2 p3 p4 (t + 1) H locs ls → W p l e room_1 s m #[Value.ref b] below meth c H locs (13 + (t + 1)) (4603 + 6 * (t + 1)) Q (F0 m 23 ls [])) : W p l e room_1 s m #[Value.ref b] below meth c H locs (13 + t) (4603 + 6 * t) Q (F0 m 584 ls []) := by
  have hc0 := hc
  obtain ⟨hx, hb, hml, hown, hts, hX, hbl, hbA, hA, hK, hz, hL, hst⟩ := hc
  have hKm := hK.sub (tys' := tyW cyI cyZ) [0, 1] rfl
  obtain ⟨x, ex⟩ : ∃ z, xs (5 * t + 1) = z := ⟨_, rfl⟩
  obtain ⟨y, ey⟩ : ∃ z, xs (5 * t + 2) = z := ⟨_, rfl⟩
  obtain ⟨h, eh⟩ : ∃ z, xs (5 * t + 3) = z := ⟨_, rfl⟩
  obtain ⟨v, ev⟩ : ∃ z, xs (5 * t + 4) = z := ⟨_, rfl⟩
  refine lv_aload_n hx hb dL_law_584 rfl (lv_at hl 3 rfl) ?_
  refine lv_aload_n hx hb dL_law_585 rfl (lv_at hl 4 rfl) ?_
  refine lv_iload hx hb dL_law_586 (lv_at hl 0 rfl) ?_
  refine lv_iconst (v := nI 1) hx hb dL_law_588 (by decide) ?_
  refine lv_iadd hx hb dL_law_589 ?_
  rw [nI_add]
  refine va_sld hx hb hX hbl hbA hS (vp_in_nI (by omega) (by omega)) dL_law_590 ?_
  rw [nI_clamp (show 5 * t + 1 < 2 ^ 31 by omega), ex]
  refine lv_aload_n hx hb dL_law_591 rfl (lv_at hl 4 rfl) ?_
  refine lv_iload hx hb dL_law_592 (lv_at hl 0 rfl) ?_
  refine lv_iconst (v := nI 2) hx hb dL_law_594 (by decide) ?_
  refine lv_iadd hx hb dL_law_595 ?_
  rw [nI_add]
  refine va_sld hx hb hX hbl hbA hS (vp_in_nI (by omega) (by omega)) dL_law_596 ?_
  rw [nI_clamp (show 5 * t + 2 < 2 ^ 31 by omega), ey]
  refine lv_aload_n hx hb dL_law_597 rfl (lv_at hl 4 rfl) ?_
  refine lv_iload hx hb dL_law_598 (lv_at hl 0 rfl) ?_
  refine lv_iconst (v := nI 3) hx hb dL_law_600 (by decide) ?_
  refine lv_iadd hx hb dL_law_601 ?_
  rw [nI_add]
  refine va_sld hx hb hX hbl hbA hS (vp_in_nI (by omega) (by omega)) dL_law_602 ?_
  rw [nI_clamp (show 5 * t + 3 < 2 ^ 31 by omega), eh]
  refine lv_aload_n hx hb dL_law_603 rfl (lv_at hl 4 rfl) ?_
  refine lv_iload hx hb dL_law_604 (lv_at hl 0 rfl) ?_
  refine lv_iconst (v := nI 4) hx hb dL_law_606 (by decide) ?_
  refine lv_iadd hx hb dL_law_607 ?_
  rw [nI_add]
  refine va_sld hx hb hX hbl hbA hS (vp_in_nI (by omega) (by omega)) dL_law_608 ?_
  rw [nI_clamp (show 5 * t + 4 < 2 ^ 31 by omega), ev]
  refine lv_aload_n hx hb dL_law_609 rfl (lv_at hl 1 rfl) ?_
  have hPx := hP.sub (ws' := wXO cyI cyZ cyJ q0 q1 q2 q3 q4 q5 q6 qo wc wl sc sl cl ct rw co sk ss sq oo) [0, 1, 2, 3, 4, 5, 6, 7] rfl
  have hDs := hD.sub (ws' := wXO cyI cyZ cyJ q0 q1 q2 q3 q4 q5 q6 qo wc wl sc sl cl ct rw co sk ss sq oo) [0, 1, 2, 3, 4, 5, 6, 7] (by decide) rfl
  have hFc := va_free (wc := wXO cyI cyZ cyJ q0 q1 q2 q3 q4 q5 q6 qo wc wl sc sl cl ct rw co sk ss sq oo) hD hS hA [0, 1, 2, 3, 4, 5, 6, 7] rfl
  refine va_calli (vx_runSW (As := [.ref q0, .int x, .int y, .int h, .int v, .ref qo]) (rest := []) ⟨hx, hb, hml, hown, hts⟩ (k_L_alter l hst dC dI cyI cyZ cyJ _ q0 q1 q2 q3 q4 q5 q6 qo wc wl sc sl cl ct rw co sk ss sq oo hPx (hDs.weaken (fun _ _ _ _ => trivial)) x y h v hR.hwl) (vx_cwSW 6 hts gL_law_L_alter rfl rfl rfl (by decide +kernel) ⟨Nat.le_of_ble_eq_true rfl, Nat.le_of_ble_eq_true rfl⟩) (pZ_S hK hz hS hFc) rfl rfl hl.1 rfl (lv_room (Nat.le_of_ble_eq_true rfl)) dL_law_610 ⟨show 13 + t + 1 ≤ 1054 by omega, show 4603 + 6 * t + 6 ≤ 12897 by omega⟩) hS (fun q _ h => hFc q h) hFc (fun k u t9 H locs ht9 hvm hw hB hz1 hk1 hS => ?_)
  obtain ⟨wc9, oo9⟩ := u
  have hw : (((¬ (¬ x < 0 ∧ x < nI 5) ∨ ∃ so : Nat, so < 5 ∧ x = nI so ∧ ¬ okA so h v)) ∧ k = 1 ∧ wc9 = wc ∧ oo9 = oo) ∨ ((∃ so : Nat, so < 5 ∧ x = nI so ∧ okA so h v ∧ wl so = -1) ∧ k = 2 ∧ wc9 = wc ∧ oo9 = oo) ∨ ((∃ so : Nat, so < 5 ∧ x = nI so ∧ okA so h v ∧ ¬ wl so = -1 ∧ ¬ (¬ y < 0 ∧ y < wl so)) ∧ k = 3 ∧ wc9 = wc ∧ oo9 = oo) ∨ (k = 0 ∧ ∃ (rr : Int32) (so : Nat) (i : Nat), (x = nI so ∧ so < 5 ∧ y = nI i ∧ i < 64 ∧ okA so h v ∧ ¬ wl so = -1 ∧ nI i < wl so ∧ rr = ft so (cb (wc (so * 64 + i)) h (opd so v))) ∧ wc9 = upd wc (so * 64 + i) (ft so (cb (wc (so * 64 + i)) h (opd so v))) ∧ oo9 = vp_updL oo 0 rr.toInt64) := hw
  have hB : va_P (dC, dI) vwCl (wXO cyI cyZ cyJ q0 q1 q2 q3 q4 q5 q6 qo wc9 wl sc sl cl ct rw co sk ss sq oo9) t9.heap := hB
  rw [ht9] at hB
  obtain ⟨hP, hD⟩ := va_join (w1 := wXO cyI cyZ cyJ q0 q1 q2 q3 q4 q5 q6 qo wc9 wl sc sl cl ct rw co sk ss sq oo9) (wr := wM cyI cyZ p0 p1 p2 p3 p4 mn me ml mt th wo mr mo mk mz mq) hP hD [0, 1, 2, 3, 4, 5, 6, 7] [8, 9, 10, 11, 12] rfl rfl (by decide) (by decide) hk1 hFc hB (wO_D (hDs.self (sz := _)))
  have hP : va_P (dC, dI) vwCl (wL cyI cyZ cyJ q0 q1 q2 q3 q4 q5 q6 qo p0 p1 p2 p3 p4 wc9 wl sc sl cl ct rw co sk ss sq oo9 mn me ml mt th wo mr mo mk mz mq) H := hP.sub (ws' := wL cyI cyZ cyJ q0 q1 q2 q3 q4 q5 q6 qo p0 p1 p2 p3 p4 wc9 wl sc sl cl ct rw co sk ss sq oo9 mn me ml mt th wo mr mo mk mz mq) [5, 6, 7, 8, 9, 10, 11, 12, 0, 1, 2, 3, 4] rfl
  have hD : va_D A (wL cyI cyZ cyJ q0 q1 q2 q3 q4 q5 q6 qo p0 p1 p2 p3 p4 wc9 wl sc sl cl ct rw co sk ss sq oo9 mn me ml mt th wo mr mo mk mz mq) := hD.sub (ws' := wL cyI cyZ cyJ q0 q1 q2 q3 q4 q5 q6 qo p0 p1 p2 p3 p4 wc9 wl sc sl cl ct rw co sk ss sq oo9 mn me ml mt th wo mr mo mk mz mq) [5, 6, 7, 8, 9, 10, 11, 12, 0, 1, 2, 3, 4] (by decide) rfl
  clear hB hk1 hz1 hPx hDs hFc ht9 hvm
  refine lv_istore (lv' := [(5, .int k), (4, .int (nI (5 * t))), (3, .ref qo), (2, .ref p0), (1, .ref q0), (0, .ref b)]) hx hb dL_law_613 hl (by decide) rfl (fun ls hl => ?_)
  refine lv_aload_n hx hb dL_law_615 rfl (lv_at hl 3 rfl) ?_
  refine lv_aload_n hx hb dL_law_616 rfl (lv_at hl 5 rfl) ?_
  refine lv_iload hx hb dL_law_617 (lv_at hl 1 rfl) ?_
  refine lv_iconst (v := nI 1) hx hb dL_law_619 (by decide) ?_
  refine lv_iadd hx hb dL_law_620 ?_
  rw [nI_add]
  refine va_sld hx hb hX hbl hbA hS (vp_in_nI (by omega) (by omega)) dL_law_621 ?_
  rw [nI_clamp (show 5 * t + 1 < 2 ^ 31 by omega), ex]
  refine lv_aload_n hx hb dL_law_622 rfl (lv_at hl 5 rfl) ?_
  refine lv_iload hx hb dL_law_623 (lv_at hl 1 rfl) ?_
  refine lv_iconst (v := nI 2) hx hb dL_law_625 (by decide) ?_
  refine lv_iadd hx hb dL_law_626 ?_
  rw [nI_add]
  refine va_sld hx hb hX hbl hbA hS (vp_in_nI (by omega) (by omega)) dL_law_627 ?_
  rw [nI_clamp (show 5 * t + 2 < 2 ^ 31 by omega), ey]
  refine lv_aload_n hx hb dL_law_628 rfl (lv_at hl 5 rfl) ?_
  refine lv_iload hx hb dL_law_629 (lv_at hl 1 rfl) ?_
  refine lv_iconst (v := nI 3) hx hb dL_law_631 (by decide) ?_
  refine lv_iadd hx hb dL_law_632 ?_
  rw [nI_add]
  refine va_sld hx hb hX hbl hbA hS (vp_in_nI (by omega) (by omega)) dL_law_633 ?_
  rw [nI_clamp (show 5 * t + 3 < 2 ^ 31 by omega), eh]
  refine lv_aload_n hx hb dL_law_634 rfl (lv_at hl 5 rfl) ?_
  refine lv_iload hx hb dL_law_635 (lv_at hl 1 rfl) ?_
  refine lv_iconst (v := nI 4) hx hb dL_law_637 (by decide) ?_
  refine lv_iadd hx hb dL_law_638 ?_
  rw [nI_add]
  refine va_sld hx hb hX hbl hbA hS (vp_in_nI (by omega) (by omega)) dL_law_639 ?_
  rw [nI_clamp (show 5 * t + 4 < 2 ^ 31 by omega), ev]
  have hPm := hP.sub (ws' := wM cyI cyZ p0 p1 p2 p3 p4 mn me ml mt th wo mr mo mk mz mq) [8, 9, 10, 11, 12] rfl
  have hDm := hD.sub (ws' := wM cyI cyZ p0 p1 p2 p3 p4 mn me ml mt th wo mr mo mk mz mq) [8, 9, 10, 11, 12] (by decide) rfl
  have hFm := va_free (wc := wM cyI cyZ p0 p1 p2 p3 p4 mn me ml mt th wo mr mo mk mz mq) hD hS hA [8, 9, 10, 11, 12] rfl
  refine va_calli (va_runV (As := [.int x, .int y, .int h, .int v]) (rest := []) ⟨hx, hb, hml, hown, hts⟩ (k_X1_alter l dC dI cyI cyZ _ p0 p1 p2 p3 p4 mn me ml mt th wo mr mo mk mz mq hPm (hDm.weaken (fun _ _ _ _ => trivial)) x y h v hR.hmn) (cwV 4 hts gL_law_X1_alter rfl rfl rfl (by decide +kernel) ⟨Nat.le_of_ble_eq_true rfl, Nat.le_of_ble_eq_true rfl⟩) (pK_V hKm (va_recv hK hP (ci := 1) (q0 := 8) rfl rfl)) rfl rfl hl.1 rfl (lv_room (Nat.le_of_ble_eq_true rfl)) dL_law_640 ⟨show 13 + t + 1 + 0 ≤ 1054 by omega, show 4603 + 6 * t + 6 + 0 ≤ 12897 by omega⟩) hS (fun q _ h => hFm q h) hFm (fun v9 u t9 H locs ht9 hvm hm hB hz1 hk1 hS => ?_)
  obtain ⟨th2, me2⟩ := u
  have hm : mA mn x y h v th2 (me2 = me) (fun so i => v9 = ft so (cb (me (64 * (2 * so) + i)) h (opd so v)) ∧ me2 = upd me (64 * (2 * so) + i) (ft so (cb (me (64 * (2 * so) + i)) h (opd so v)))) := hm
  have hB : va_P (dC, dI) vwCl (wM cyI cyZ p0 p1 p2 p3 p4 mn me2 ml mt th2 wo mr mo mk mz mq) t9.heap := hB
  rw [ht9] at hB
  obtain ⟨hP, hD⟩ := va_join (w1 := wM cyI cyZ p0 p1 p2 p3 p4 mn me2 ml mt th2 wo mr mo mk mz mq) (wr := wXO cyI cyZ cyJ q0 q1 q2 q3 q4 q5 q6 qo wc9 wl sc sl cl ct rw co sk ss sq oo9) hP hD [8, 9, 10, 11, 12] [0, 1, 2, 3, 4, 5, 6, 7] rfl rfl (by decide) (by decide) hk1 hFm hB (wM_D (hDm.self (sz := _)))
  have hP : va_P (dC, dI) vwCl (wL cyI cyZ cyJ q0 q1 q2 q3 q4 q5 q6 qo p0 p1 p2 p3 p4 wc9 wl sc sl cl ct rw co sk ss sq oo9 mn me2 ml mt th2 wo mr mo mk mz mq) H := hP
  have hD : va_D A (wL cyI cyZ cyJ q0 q1 q2 q3 q4 q5 q6 qo p0 p1 p2 p3 p4 wc9 wl sc sl cl ct rw co sk ss sq oo9 mn me2 ml mt th2 wo mr mo mk mz mq) := hD
  clear hB hk1 hz1 hPm hDm hFm ht9 hvm
  obtain ⟨e1, e2, hR⟩ := rel_alter hR hw hm
  clear hw hm
  refine lv_istore (lv' := [(6, .int v9), (5, .int k), (4, .int (nI (5 * t))), (3, .ref qo), (2, .ref p0), (1, .ref q0), (0, .ref b)]) hx hb dL_law_643 hl (by decide) rfl (fun ls hl => ?_)
  refine lv_aload_n hx hb dL_law_645 rfl (lv_at hl 4 rfl) ?_
  have hPm := hP.sub (ws' := wM cyI cyZ p0 p1 p2 p3 p4 mn me2 ml mt th2 wo mr mo mk mz mq) [8, 9, 10, 11, 12] rfl
  have hDm := hD.sub (ws' := wM cyI cyZ p0 p1 p2 p3 p4 mn me2 ml mt th2 wo mr mo mk mz mq) [8, 9, 10, 11, 12] (by decide) rfl
  refine gx_calli (va_runV (As := []) (rest := []) ⟨hx, hb, hml, hown, hts⟩ (k_X1_thrown l dC dI cyI cyZ _ p0 p1 p2 p3 p4 mn me2 ml mt th2 wo mr mo mk mz mq hPm (hDm.weaken (fun _ _ _ _ => trivial))) (cwV 0 hts gL_law_X1_thrown rfl rfl rfl (by decide +kernel) ⟨Nat.le_of_ble_eq_true rfl, Nat.le_of_ble_eq_true rfl⟩) (pK_V hKm (va_recv hK hP (ci := 1) (q0 := 8) rfl rfl)) rfl rfl hl.1 rfl (lv_room (Nat.le_of_ble_eq_true rfl)) dL_law_646 ⟨show 13 + t + 1 + 0 + 0 ≤ 1054 by omega, show 4603 + 6 * t + 6 + 0 + 0 ≤ 12897 by omega⟩) (fun r9 hr9 => ?_)
  subst hr9
  refine lv_iload hx hb dL_law_649 (lv_at hl 1 rfl) ?_
  refine lv_icmp_eq (tgt := 656) hx hb dL_law_651 (by decide) (fun _ => ?_) (fun c1 => absurd e1.symm c1)
  refine lv_iload hx hb dL_law_656 (lv_at hl 1 rfl) ?_
  refine lv_if_ne (tgt := 673) hx hb dL_law_658 (by decide) (fun _ => ?_) (fun c2 => ?_)
  · refine lv_goto (tgt := 1208) hx hb dL_law_673 (by decide) ?_
    exact lc_tail hc0 (by omega) (by omega) hP hD hR hS hl ih
  · skip
    refine lv_aload_n hx hb dL_law_661 rfl (lv_at hl 3 rfl) ?_
    refine lv_iconst (v := nI 0) hx hb dL_law_662 (by decide) ?_
    refine va_lald hx hb hK hP 7 2 rfl rfl (vp_in_nI (by omega) (by omega)) dL_law_663 ?_
    rw [nI_clamp (show 0 < 2 ^ 31 by omega), e2 c2]
    refine lv_iload hx hb dL_law_664 (lv_at hl 0 rfl) ?_
    refine lv_i2l hx hb dL_law_666 rfl ?_
    refine W.lcmp hx hb dL_law_667 ?_
    rw [lg_cmp_self]
    refine lv_if_eq (tgt := 673) hx hb dL_law_668 (by decide) (fun _ => ?_) (fun c3 => absurd rfl c3)
    refine lv_goto (tgt := 1208) hx hb dL_law_673 (by decide) ?_
    exact lc_tail hc0 (by omega) (by omega) hP hD hR hS hl ih
set_option maxHeartbeats 4000000 in
set_option maxRecDepth 100000 in
theorem lc_weave {p : Program} {l : Launch} {e : Env} {s : State} {m : MethodId} {below : List Frame} {meth : Method} {c : Code} {dC : Nat → ClassId} {dI : Nat → Nat → Nat} {cyI cyZ cyJ : ClassId} {A : Nat → Prop} {b L : Nat} {xs : Nat → Int32} {Q : State → Prop} {q0 q1 q2 q3 q4 q5 q6 qo p0 p1 p2 p3 p4 : Nat} {wc wl sc sl cl ct : Nat → Int32} {rw co sk ss sq : Int32} {oo : Nat → Int64} {mn me ml mt : Nat → Int32} {th wo mr mo mk mz mq : Int32} {t : Nat} {H : Heap} {locs : List Loc} {ls : Array Slot} (hc : lwC p l s m c dC dI cyI cyZ cyJ A b L xs) (ht : 5 * t + 5 ≤ L) (hP : va_P (dC, dI) vwCl (wL cyI cyZ cyJ q0 q1 q2 q3 q4 q5 q6 qo p0 p1 p2 p3 p4 wc wl sc sl cl ct rw co sk ss sq oo mn me ml mt th wo mr mo mk mz mq) H) (hD : va_D A (wL cyI cyZ cyJ q0 q1 q2 q3 q4 q5 q6 qo p0 p1 p2 p3 p4 wc wl sc sl cl ct rw co sk ss sq oo mn me ml mt th wo mr mo mk mz mq)) (hR : Rel wc wl sc sl cl ct rw co sk ss sq mn me ml mt wo mr mo mk mz mq) (hS : va_S A s.heap H locs) (hl : lv_has ls 7 [(4, .int (nI (5 * t))), (3, .ref qo), (2, .ref p0), (1, .ref q0), (0, .ref b)])
    (ih : ∀ (H : Heap) (locs : List Loc) (ls : Array Slot), lwI dC dI cyI cyZ cyJ A s b q0 q1 q2 q3 q4 q5 q6 qo p0 p1 p2 p3 p4 (t + 1) H locs ls → W p l e room_1 s m #[Value.ref b] below meth c H locs (13 + (t + 1)) (4603 + 6 * (t + 1)) Q (F0 m 23 ls [])) : W p l e room_1 s m #[Value.ref b] below meth c H locs (13 + t) (4603 + 6 * t) Q (F0 m 676 ls []) := by
  have hc0 := hc
  obtain ⟨hx, hb, hml, hown, hts, hX, hbl, hbA, hA, hK, hz, hL, hst⟩ := hc
  have hKm := hK.sub (tys' := tyW cyI cyZ) [0, 1] rfl
  obtain ⟨x, ex⟩ : ∃ z, xs (5 * t + 1) = z := ⟨_, rfl⟩
  obtain ⟨y, ey⟩ : ∃ z, xs (5 * t + 2) = z := ⟨_, rfl⟩
  refine lv_aload_n hx hb dL_law_676 rfl (lv_at hl 3 rfl) ?_
  refine lv_aload_n hx hb dL_law_677 rfl (lv_at hl 4 rfl) ?_
  refine lv_iload hx hb dL_law_678 (lv_at hl 0 rfl) ?_
  refine lv_iconst (v := nI 1) hx hb dL_law_680 (by decide) ?_
  refine lv_iadd hx hb dL_law_681 ?_
  rw [nI_add]
  refine va_sld hx hb hX hbl hbA hS (vp_in_nI (by omega) (by omega)) dL_law_682 ?_
  rw [nI_clamp (show 5 * t + 1 < 2 ^ 31 by omega), ex]
  refine lv_aload_n hx hb dL_law_683 rfl (lv_at hl 4 rfl) ?_
  refine lv_iload hx hb dL_law_684 (lv_at hl 0 rfl) ?_
  refine lv_iconst (v := nI 2) hx hb dL_law_686 (by decide) ?_
  refine lv_iadd hx hb dL_law_687 ?_
  rw [nI_add]
  refine va_sld hx hb hX hbl hbA hS (vp_in_nI (by omega) (by omega)) dL_law_688 ?_
  rw [nI_clamp (show 5 * t + 2 < 2 ^ 31 by omega), ey]
  refine lv_aload_n hx hb dL_law_689 rfl (lv_at hl 1 rfl) ?_
  have hPx := hP.sub (ws' := wXO cyI cyZ cyJ q0 q1 q2 q3 q4 q5 q6 qo wc wl sc sl cl ct rw co sk ss sq oo) [0, 1, 2, 3, 4, 5, 6, 7] rfl
  have hDs := hD.sub (ws' := wXO cyI cyZ cyJ q0 q1 q2 q3 q4 q5 q6 qo wc wl sc sl cl ct rw co sk ss sq oo) [0, 1, 2, 3, 4, 5, 6, 7] (by decide) rfl
  have hFc := va_free (wc := wXO cyI cyZ cyJ q0 q1 q2 q3 q4 q5 q6 qo wc wl sc sl cl ct rw co sk ss sq oo) hD hS hA [0, 1, 2, 3, 4, 5, 6, 7] rfl
  refine va_calli (vx_runSW (As := [.ref q0, .int x, .int y, .ref qo]) (rest := []) ⟨hx, hb, hml, hown, hts⟩ (k_L_weave l hst dC dI cyI cyZ cyJ _ q0 q1 q2 q3 q4 q5 q6 qo wc wl sc sl cl ct rw co sk ss sq oo hPx (hDs.weaken (fun _ _ _ _ => trivial)) x y ) (vx_cwSW 4 hts gL_law_L_weave rfl rfl rfl (by decide +kernel) ⟨Nat.le_of_ble_eq_true rfl, Nat.le_of_ble_eq_true rfl⟩) (pZ_S hK hz hS hFc) rfl rfl hl.1 rfl (lv_room (Nat.le_of_ble_eq_true rfl)) dL_law_690 ⟨show 13 + t + 1 ≤ 1054 by omega, show 4603 + 6 * t + 6 ≤ 12897 by omega⟩) hS (fun q _ h => hFc q h) hFc (fun k u t9 H locs ht9 hvm hw hB hz1 hk1 hS => ?_)
  obtain ⟨rw9, co9, cl9, ct9, oo9⟩ := u
  have hw : (((nI 40 < x ∨ nI 40 < y)) ∧ k = 1 ∧ rw9 = rw ∧ co9 = co ∧ cl9 = cl ∧ ct9 = ct ∧ oo9 = oo) ∨ ((¬ (nI 40 < x ∨ nI 40 < y) ∧ (x < 0 ∨ y < 0)) ∧ k = 2 ∧ rw9 = rw ∧ co9 = co ∧ cl9 = cl ∧ ct9 = ct ∧ oo9 = oo) ∨ (k = 0 ∧ ∃ (rr : Int32) (m : Nat) (n : Nat), (x = nI m ∧ m ≤ 40 ∧ y = nI n ∧ n ≤ 40 ∧ rr = nI (m * n)) ∧ rw9 = nI m ∧ co9 = nI n ∧ cl9 = fa cl 0 1600 ∧ ct9 = fa ct 0 m ∧ oo9 = vp_updL oo 0 rr.toInt64) := hw
  have hB : va_P (dC, dI) vwCl (wXO cyI cyZ cyJ q0 q1 q2 q3 q4 q5 q6 qo wc wl sc sl cl9 ct9 rw9 co9 sk ss sq oo9) t9.heap := hB
  rw [ht9] at hB
  obtain ⟨hP, hD⟩ := va_join (w1 := wXO cyI cyZ cyJ q0 q1 q2 q3 q4 q5 q6 qo wc wl sc sl cl9 ct9 rw9 co9 sk ss sq oo9) (wr := wM cyI cyZ p0 p1 p2 p3 p4 mn me ml mt th wo mr mo mk mz mq) hP hD [0, 1, 2, 3, 4, 5, 6, 7] [8, 9, 10, 11, 12] rfl rfl (by decide) (by decide) hk1 hFc hB (wO_D (hDs.self (sz := _)))
  have hP : va_P (dC, dI) vwCl (wL cyI cyZ cyJ q0 q1 q2 q3 q4 q5 q6 qo p0 p1 p2 p3 p4 wc wl sc sl cl9 ct9 rw9 co9 sk ss sq oo9 mn me ml mt th wo mr mo mk mz mq) H := hP.sub (ws' := wL cyI cyZ cyJ q0 q1 q2 q3 q4 q5 q6 qo p0 p1 p2 p3 p4 wc wl sc sl cl9 ct9 rw9 co9 sk ss sq oo9 mn me ml mt th wo mr mo mk mz mq) [5, 6, 7, 8, 9, 10, 11, 12, 0, 1, 2, 3, 4] rfl
  have hD : va_D A (wL cyI cyZ cyJ q0 q1 q2 q3 q4 q5 q6 qo p0 p1 p2 p3 p4 wc wl sc sl cl9 ct9 rw9 co9 sk ss sq oo9 mn me ml mt th wo mr mo mk mz mq) := hD.sub (ws' := wL cyI cyZ cyJ q0 q1 q2 q3 q4 q5 q6 qo p0 p1 p2 p3 p4 wc wl sc sl cl9 ct9 rw9 co9 sk ss sq oo9 mn me ml mt th wo mr mo mk mz mq) [5, 6, 7, 8, 9, 10, 11, 12, 0, 1, 2, 3, 4] (by decide) rfl
  clear hB hk1 hz1 hPx hDs hFc ht9 hvm
  refine lv_istore (lv' := [(5, .int k), (4, .int (nI (5 * t))), (3, .ref qo), (2, .ref p0), (1, .ref q0), (0, .ref b)]) hx hb dL_law_693 hl (by decide) rfl (fun ls hl => ?_)
  refine lv_aload_n hx hb dL_law_695 rfl (lv_at hl 3 rfl) ?_
  refine lv_aload_n hx hb dL_law_696 rfl (lv_at hl 5 rfl) ?_
  refine lv_iload hx hb dL_law_697 (lv_at hl 1 rfl) ?_
  refine lv_iconst (v := nI 1) hx hb dL_law_699 (by decide) ?_
  refine lv_iadd hx hb dL_law_700 ?_
  rw [nI_add]
  refine va_sld hx hb hX hbl hbA hS (vp_in_nI (by omega) (by omega)) dL_law_701 ?_
  rw [nI_clamp (show 5 * t + 1 < 2 ^ 31 by omega), ex]
  refine lv_aload_n hx hb dL_law_702 rfl (lv_at hl 5 rfl) ?_
  refine lv_iload hx hb dL_law_703 (lv_at hl 1 rfl) ?_
  refine lv_iconst (v := nI 2) hx hb dL_law_705 (by decide) ?_
  refine lv_iadd hx hb dL_law_706 ?_
  rw [nI_add]
  refine va_sld hx hb hX hbl hbA hS (vp_in_nI (by omega) (by omega)) dL_law_707 ?_
  rw [nI_clamp (show 5 * t + 2 < 2 ^ 31 by omega), ey]
  have hPm := hP.sub (ws' := wM cyI cyZ p0 p1 p2 p3 p4 mn me ml mt th wo mr mo mk mz mq) [8, 9, 10, 11, 12] rfl
  have hDm := hD.sub (ws' := wM cyI cyZ p0 p1 p2 p3 p4 mn me ml mt th wo mr mo mk mz mq) [8, 9, 10, 11, 12] (by decide) rfl
  have hFm := va_free (wc := wM cyI cyZ p0 p1 p2 p3 p4 mn me ml mt th wo mr mo mk mz mq) hD hS hA [8, 9, 10, 11, 12] rfl
  refine va_calli (va_runV (As := [.int x, .int y]) (rest := []) ⟨hx, hb, hml, hown, hts⟩ (k_X1_weave l dC dI cyI cyZ _ p0 p1 p2 p3 p4 mn me ml mt th wo mr mo mk mz mq hPm (hDm.weaken (fun _ _ _ _ => trivial)) x y ) (cwV 2 hts gL_law_X1_weave rfl rfl rfl (by decide +kernel) ⟨Nat.le_of_ble_eq_true rfl, Nat.le_of_ble_eq_true rfl⟩) (pK_V hKm (va_recv hK hP (ci := 1) (q0 := 8) rfl rfl)) rfl rfl hl.1 rfl (lv_room (Nat.le_of_ble_eq_true rfl)) dL_law_708 ⟨show 13 + t + 1 + 0 ≤ 1054 by omega, show 4603 + 6 * t + 6 + 0 ≤ 12897 by omega⟩) hS (fun q _ h => hFm q h) hFm (fun v9 u t9 H locs ht9 hvm hm hB hz1 hk1 hS => ?_)
  obtain ⟨th2, wo2, mr2, mo2, ml2, mt2⟩ := u
  have hm : ((nI 40 < x ∨ nI 40 < y) ∧ th2 = 1 ∧ wo2 = wo ∧ mr2 = mr ∧ mo2 = mo ∧ ml2 = ml ∧ mt2 = mt) ∨ (¬ (nI 40 < x ∨ nI 40 < y) ∧ (x < 0 ∨ y < 0) ∧ th2 = 2 ∧ wo2 = wo ∧ mr2 = mr ∧ mo2 = mo ∧ ml2 = ml ∧ mt2 = mt) ∨ (th2 = 0 ∧ ∃ m n : Nat, m ≤ 40 ∧ x = nI m ∧ n ≤ 40 ∧ y = nI n ∧ v9 = nI (m * n) ∧ wo2 = 1 ∧ mr2 = nI m ∧ mo2 = nI n ∧ ml2 = fa ml 0 1600 ∧ mt2 = fa mt 0 40) := hm
  have hB : va_P (dC, dI) vwCl (wM cyI cyZ p0 p1 p2 p3 p4 mn me ml2 mt2 th2 wo2 mr2 mo2 mk mz mq) t9.heap := hB
  rw [ht9] at hB
  obtain ⟨hP, hD⟩ := va_join (w1 := wM cyI cyZ p0 p1 p2 p3 p4 mn me ml2 mt2 th2 wo2 mr2 mo2 mk mz mq) (wr := wXO cyI cyZ cyJ q0 q1 q2 q3 q4 q5 q6 qo wc wl sc sl cl9 ct9 rw9 co9 sk ss sq oo9) hP hD [8, 9, 10, 11, 12] [0, 1, 2, 3, 4, 5, 6, 7] rfl rfl (by decide) (by decide) hk1 hFm hB (wM_D (hDm.self (sz := _)))
  have hP : va_P (dC, dI) vwCl (wL cyI cyZ cyJ q0 q1 q2 q3 q4 q5 q6 qo p0 p1 p2 p3 p4 wc wl sc sl cl9 ct9 rw9 co9 sk ss sq oo9 mn me ml2 mt2 th2 wo2 mr2 mo2 mk mz mq) H := hP
  have hD : va_D A (wL cyI cyZ cyJ q0 q1 q2 q3 q4 q5 q6 qo p0 p1 p2 p3 p4 wc wl sc sl cl9 ct9 rw9 co9 sk ss sq oo9 mn me ml2 mt2 th2 wo2 mr2 mo2 mk mz mq) := hD
  clear hB hk1 hz1 hPm hDm hFm ht9 hvm
  obtain ⟨e1, e2, hR⟩ := rel_weave hR hw hm
  clear hw hm
  refine lv_istore (lv' := [(6, .int v9), (5, .int k), (4, .int (nI (5 * t))), (3, .ref qo), (2, .ref p0), (1, .ref q0), (0, .ref b)]) hx hb dL_law_711 hl (by decide) rfl (fun ls hl => ?_)
  refine lv_aload_n hx hb dL_law_713 rfl (lv_at hl 4 rfl) ?_
  have hPm := hP.sub (ws' := wM cyI cyZ p0 p1 p2 p3 p4 mn me ml2 mt2 th2 wo2 mr2 mo2 mk mz mq) [8, 9, 10, 11, 12] rfl
  have hDm := hD.sub (ws' := wM cyI cyZ p0 p1 p2 p3 p4 mn me ml2 mt2 th2 wo2 mr2 mo2 mk mz mq) [8, 9, 10, 11, 12] (by decide) rfl
  refine gx_calli (va_runV (As := []) (rest := []) ⟨hx, hb, hml, hown, hts⟩ (k_X1_thrown l dC dI cyI cyZ _ p0 p1 p2 p3 p4 mn me ml2 mt2 th2 wo2 mr2 mo2 mk mz mq hPm (hDm.weaken (fun _ _ _ _ => trivial))) (cwV 0 hts gL_law_X1_thrown rfl rfl rfl (by decide +kernel) ⟨Nat.le_of_ble_eq_true rfl, Nat.le_of_ble_eq_true rfl⟩) (pK_V hKm (va_recv hK hP (ci := 1) (q0 := 8) rfl rfl)) rfl rfl hl.1 rfl (lv_room (Nat.le_of_ble_eq_true rfl)) dL_law_714 ⟨show 13 + t + 1 + 0 + 0 ≤ 1054 by omega, show 4603 + 6 * t + 6 + 0 + 0 ≤ 12897 by omega⟩) (fun r9 hr9 => ?_)
  subst hr9
  refine lv_iload hx hb dL_law_717 (lv_at hl 1 rfl) ?_
  refine lv_icmp_eq (tgt := 724) hx hb dL_law_719 (by decide) (fun _ => ?_) (fun c1 => absurd e1.symm c1)
  refine lv_iload hx hb dL_law_724 (lv_at hl 1 rfl) ?_
  refine lv_if_ne (tgt := 741) hx hb dL_law_726 (by decide) (fun _ => ?_) (fun c2 => ?_)
  · refine lv_goto (tgt := 1208) hx hb dL_law_741 (by decide) ?_
    exact lc_tail hc0 (by omega) (by omega) hP hD hR hS hl ih
  · skip
    refine lv_aload_n hx hb dL_law_729 rfl (lv_at hl 3 rfl) ?_
    refine lv_iconst (v := nI 0) hx hb dL_law_730 (by decide) ?_
    refine va_lald hx hb hK hP 7 2 rfl rfl (vp_in_nI (by omega) (by omega)) dL_law_731 ?_
    rw [nI_clamp (show 0 < 2 ^ 31 by omega), e2 c2]
    refine lv_iload hx hb dL_law_732 (lv_at hl 0 rfl) ?_
    refine lv_i2l hx hb dL_law_734 rfl ?_
    refine W.lcmp hx hb dL_law_735 ?_
    rw [lg_cmp_self]
    refine lv_if_eq (tgt := 741) hx hb dL_law_736 (by decide) (fun _ => ?_) (fun c3 => absurd rfl c3)
    refine lv_goto (tgt := 1208) hx hb dL_law_741 (by decide) ?_
    exact lc_tail hc0 (by omega) (by omega) hP hD hR hS hl ih
set_option maxHeartbeats 4000000 in
set_option maxRecDepth 100000 in
theorem lc_pass {p : Program} {l : Launch} {e : Env} {s : State} {m : MethodId} {below : List Frame} {meth : Method} {c : Code} {dC : Nat → ClassId} {dI : Nat → Nat → Nat} {cyI cyZ cyJ : ClassId} {A : Nat → Prop} {b L : Nat} {xs : Nat → Int32} {Q : State → Prop} {q0 q1 q2 q3 q4 q5 q6 qo p0 p1 p2 p3 p4 : Nat} {wc wl sc sl cl ct : Nat → Int32} {rw co sk ss sq : Int32} {oo : Nat → Int64} {mn me ml mt : Nat → Int32} {th wo mr mo mk mz mq : Int32} {t : Nat} {H : Heap} {locs : List Loc} {ls : Array Slot} (hc : lwC p l s m c dC dI cyI cyZ cyJ A b L xs) (ht : 5 * t + 5 ≤ L) (hP : va_P (dC, dI) vwCl (wL cyI cyZ cyJ q0 q1 q2 q3 q4 q5 q6 qo p0 p1 p2 p3 p4 wc wl sc sl cl ct rw co sk ss sq oo mn me ml mt th wo mr mo mk mz mq) H) (hD : va_D A (wL cyI cyZ cyJ q0 q1 q2 q3 q4 q5 q6 qo p0 p1 p2 p3 p4 wc wl sc sl cl ct rw co sk ss sq oo mn me ml mt th wo mr mo mk mz mq)) (hR : Rel wc wl sc sl cl ct rw co sk ss sq mn me ml mt wo mr mo mk mz mq) (hS : va_S A s.heap H locs) (hl : lv_has ls 7 [(4, .int (nI (5 * t))), (3, .ref qo), (2, .ref p0), (1, .ref q0), (0, .ref b)])
    (ih : ∀ (H : Heap) (locs : List Loc) (ls : Array Slot), lwI dC dI cyI cyZ cyJ A s b q0 q1 q2 q3 q4 q5 q6 qo p0 p1 p2 p3 p4 (t + 1) H locs ls → W p l e room_1 s m #[Value.ref b] below meth c H locs (13 + (t + 1)) (4603 + 6 * (t + 1)) Q (F0 m 23 ls [])) : W p l e room_1 s m #[Value.ref b] below meth c H locs (13 + t) (4603 + 6 * t) Q (F0 m 744 ls []) := by
  have hc0 := hc
  obtain ⟨hx, hb, hml, hown, hts, hX, hbl, hbA, hA, hK, hz, hL, hst⟩ := hc
  have hKm := hK.sub (tys' := tyW cyI cyZ) [0, 1] rfl
  obtain ⟨x, ex⟩ : ∃ z, xs (5 * t + 1) = z := ⟨_, rfl⟩
  obtain ⟨y, ey⟩ : ∃ z, xs (5 * t + 2) = z := ⟨_, rfl⟩
  refine lv_aload_n hx hb dL_law_744 rfl (lv_at hl 3 rfl) ?_
  refine lv_aload_n hx hb dL_law_745 rfl (lv_at hl 4 rfl) ?_
  refine lv_iload hx hb dL_law_746 (lv_at hl 0 rfl) ?_
  refine lv_iconst (v := nI 1) hx hb dL_law_748 (by decide) ?_
  refine lv_iadd hx hb dL_law_749 ?_
  rw [nI_add]
  refine va_sld hx hb hX hbl hbA hS (vp_in_nI (by omega) (by omega)) dL_law_750 ?_
  rw [nI_clamp (show 5 * t + 1 < 2 ^ 31 by omega), ex]
  refine lv_aload_n hx hb dL_law_751 rfl (lv_at hl 4 rfl) ?_
  refine lv_iload hx hb dL_law_752 (lv_at hl 0 rfl) ?_
  refine lv_iconst (v := nI 2) hx hb dL_law_754 (by decide) ?_
  refine lv_iadd hx hb dL_law_755 ?_
  rw [nI_add]
  refine va_sld hx hb hX hbl hbA hS (vp_in_nI (by omega) (by omega)) dL_law_756 ?_
  rw [nI_clamp (show 5 * t + 2 < 2 ^ 31 by omega), ey]
  refine lv_aload_n hx hb dL_law_757 rfl (lv_at hl 1 rfl) ?_
  have hPx := hP.sub (ws' := wXO cyI cyZ cyJ q0 q1 q2 q3 q4 q5 q6 qo wc wl sc sl cl ct rw co sk ss sq oo) [0, 1, 2, 3, 4, 5, 6, 7] rfl
  have hDs := hD.sub (ws' := wXO cyI cyZ cyJ q0 q1 q2 q3 q4 q5 q6 qo wc wl sc sl cl ct rw co sk ss sq oo) [0, 1, 2, 3, 4, 5, 6, 7] (by decide) rfl
  have hFc := va_free (wc := wXO cyI cyZ cyJ q0 q1 q2 q3 q4 q5 q6 qo wc wl sc sl cl ct rw co sk ss sq oo) hD hS hA [0, 1, 2, 3, 4, 5, 6, 7] rfl
  refine va_calli (vx_runSW (As := [.ref q0, .int x, .int y, .ref qo]) (rest := []) ⟨hx, hb, hml, hown, hts⟩ (k_L_pass l hst dC dI cyI cyZ cyJ _ q0 q1 q2 q3 q4 q5 q6 qo wc wl sc sl cl ct rw co sk ss sq oo hPx (hDs.weaken (fun _ _ _ _ => trivial)) x y hR.hrw.1 hR.hrw.2.1) (vx_cwSW 4 hts gL_law_L_pass rfl rfl rfl (by decide +kernel) ⟨Nat.le_of_ble_eq_true rfl, Nat.le_of_ble_eq_true rfl⟩) (pZ_S hK hz hS hFc) rfl rfl hl.1 rfl (lv_room (Nat.le_of_ble_eq_true rfl)) dL_law_758 ⟨show 13 + t + 1 ≤ 1054 by omega, show 4603 + 6 * t + 6 ≤ 12897 by omega⟩) hS (fun q _ h => hFc q h) hFc (fun k u t9 H locs ht9 hvm hw hB hz1 hk1 hS => ?_)
  obtain ⟨wc9, cl9, sk9, ss9, sq9, oo9⟩ := u
  have hw : ((¬ (¬ y < 0 ∧ y ≤ 65535)) ∧ k = 1 ∧ wc9 = wc ∧ cl9 = cl ∧ sk9 = sk ∧ ss9 = ss ∧ sq9 = sq ∧ oo9 = oo) ∨ (((¬ y < 0 ∧ y ≤ 65535) ∧ rw = -1) ∧ k = 2 ∧ wc9 = wc ∧ cl9 = cl ∧ sk9 = sk ∧ ss9 = ss ∧ sq9 = sq ∧ oo9 = oo) ∨ (((¬ y < 0 ∧ y ≤ 65535) ∧ ¬ rw = -1 ∧ ¬ (¬ x < 0 ∧ x < rw)) ∧ k = 3 ∧ wc9 = wc ∧ cl9 = cl ∧ sk9 = sk ∧ ss9 = ss ∧ sq9 = sq ∧ oo9 = oo) ∨ (k = 0 ∧ ∃ (rr : Int32) (ro : Nat) (jj : Nat) (wc2 : Nat → Int32) (cl2 : Nat → Int32) (sk2 : Int32) (ss2 : Int32), (x = nI ro ∧ ro < 40 ∧ (¬ y < 0 ∧ y ≤ 65535) ∧ ¬ rw = -1 ∧ nI ro < rw ∧ prun wl ct ro y co.toNatClampNeg 0 wc cl 0 0 = (jj, wc2, cl2, sk2, ss2) ∧ rr = nI jj) ∧ wc9 = wc2 ∧ cl9 = cl2 ∧ sk9 = sk2 ∧ ss9 = ss2 ∧ sq9 = nI jj ∧ oo9 = vp_updL oo 0 rr.toInt64) := hw
  have hB : va_P (dC, dI) vwCl (wXO cyI cyZ cyJ q0 q1 q2 q3 q4 q5 q6 qo wc9 wl sc sl cl9 ct rw co sk9 ss9 sq9 oo9) t9.heap := hB
  rw [ht9] at hB
  obtain ⟨hP, hD⟩ := va_join (w1 := wXO cyI cyZ cyJ q0 q1 q2 q3 q4 q5 q6 qo wc9 wl sc sl cl9 ct rw co sk9 ss9 sq9 oo9) (wr := wM cyI cyZ p0 p1 p2 p3 p4 mn me ml mt th wo mr mo mk mz mq) hP hD [0, 1, 2, 3, 4, 5, 6, 7] [8, 9, 10, 11, 12] rfl rfl (by decide) (by decide) hk1 hFc hB (wO_D (hDs.self (sz := _)))
  have hP : va_P (dC, dI) vwCl (wL cyI cyZ cyJ q0 q1 q2 q3 q4 q5 q6 qo p0 p1 p2 p3 p4 wc9 wl sc sl cl9 ct rw co sk9 ss9 sq9 oo9 mn me ml mt th wo mr mo mk mz mq) H := hP.sub (ws' := wL cyI cyZ cyJ q0 q1 q2 q3 q4 q5 q6 qo p0 p1 p2 p3 p4 wc9 wl sc sl cl9 ct rw co sk9 ss9 sq9 oo9 mn me ml mt th wo mr mo mk mz mq) [5, 6, 7, 8, 9, 10, 11, 12, 0, 1, 2, 3, 4] rfl
  have hD : va_D A (wL cyI cyZ cyJ q0 q1 q2 q3 q4 q5 q6 qo p0 p1 p2 p3 p4 wc9 wl sc sl cl9 ct rw co sk9 ss9 sq9 oo9 mn me ml mt th wo mr mo mk mz mq) := hD.sub (ws' := wL cyI cyZ cyJ q0 q1 q2 q3 q4 q5 q6 qo p0 p1 p2 p3 p4 wc9 wl sc sl cl9 ct rw co sk9 ss9 sq9 oo9 mn me ml mt th wo mr mo mk mz mq) [5, 6, 7, 8, 9, 10, 11, 12, 0, 1, 2, 3, 4] (by decide) rfl
  clear hB hk1 hz1 hPx hDs hFc ht9 hvm
  refine lv_istore (lv' := [(5, .int k), (4, .int (nI (5 * t))), (3, .ref qo), (2, .ref p0), (1, .ref q0), (0, .ref b)]) hx hb dL_law_761 hl (by decide) rfl (fun ls hl => ?_)
  refine lv_aload_n hx hb dL_law_763 rfl (lv_at hl 3 rfl) ?_
  refine lv_aload_n hx hb dL_law_764 rfl (lv_at hl 5 rfl) ?_
  refine lv_iload hx hb dL_law_765 (lv_at hl 1 rfl) ?_
  refine lv_iconst (v := nI 1) hx hb dL_law_767 (by decide) ?_
  refine lv_iadd hx hb dL_law_768 ?_
  rw [nI_add]
  refine va_sld hx hb hX hbl hbA hS (vp_in_nI (by omega) (by omega)) dL_law_769 ?_
  rw [nI_clamp (show 5 * t + 1 < 2 ^ 31 by omega), ex]
  refine lv_aload_n hx hb dL_law_770 rfl (lv_at hl 5 rfl) ?_
  refine lv_iload hx hb dL_law_771 (lv_at hl 1 rfl) ?_
  refine lv_iconst (v := nI 2) hx hb dL_law_773 (by decide) ?_
  refine lv_iadd hx hb dL_law_774 ?_
  rw [nI_add]
  refine va_sld hx hb hX hbl hbA hS (vp_in_nI (by omega) (by omega)) dL_law_775 ?_
  rw [nI_clamp (show 5 * t + 2 < 2 ^ 31 by omega), ey]
  have hPm := hP.sub (ws' := wM cyI cyZ p0 p1 p2 p3 p4 mn me ml mt th wo mr mo mk mz mq) [8, 9, 10, 11, 12] rfl
  have hDm := hD.sub (ws' := wM cyI cyZ p0 p1 p2 p3 p4 mn me ml mt th wo mr mo mk mz mq) [8, 9, 10, 11, 12] (by decide) rfl
  have hFm := va_free (wc := wM cyI cyZ p0 p1 p2 p3 p4 mn me ml mt th wo mr mo mk mz mq) hD hS hA [8, 9, 10, 11, 12] rfl
  refine va_calli (va_runV (As := [.int x, .int y]) (rest := []) ⟨hx, hb, hml, hown, hts⟩ (k_X1_pass l dC dI cyI cyZ _ p0 p1 p2 p3 p4 mn me ml mt th wo mr mo mk mz mq hPm (hDm.weaken (fun _ _ _ _ => trivial)) x y hR.hrw.2.2.1 hR.hrw.2.2.2) (cwV 2 hts gL_law_X1_pass rfl rfl rfl (by decide +kernel) ⟨Nat.le_of_ble_eq_true rfl, Nat.le_of_ble_eq_true rfl⟩) (pK_V hKm (va_recv hK hP (ci := 1) (q0 := 8) rfl rfl)) rfl rfl hl.1 rfl (lv_room (Nat.le_of_ble_eq_true rfl)) dL_law_776 ⟨show 13 + t + 1 + 0 ≤ 1054 by omega, show 4603 + 6 * t + 6 + 0 ≤ 12897 by omega⟩) hS (fun q _ h => hFm q h) hFm (fun v9 u t9 H locs ht9 hvm hm hB hz1 hk1 hS => ?_)
  obtain ⟨th2, me2, ml2, mk2, mz2, mq2⟩ := u
  have hm : (¬ (¬ y < 0 ∧ y ≤ 65535) ∧ th2 = 1 ∧ me2 = me ∧ ml2 = ml ∧ mk2 = mk ∧ mz2 = mz ∧ mq2 = mq) ∨ ((¬ y < 0 ∧ y ≤ 65535) ∧ wo = 0 ∧ th2 = 2 ∧ me2 = me ∧ ml2 = ml ∧ mk2 = mk ∧ mz2 = mz ∧ mq2 = mq) ∨ ((¬ y < 0 ∧ y ≤ 65535) ∧ ¬ wo = 0 ∧ ¬ (¬ x < 0 ∧ x < mr) ∧ th2 = 3 ∧ me2 = me ∧ ml2 = ml ∧ mk2 = mk ∧ mz2 = mz ∧ mq2 = mq) ∨ ((¬ y < 0 ∧ y ≤ 65535) ∧ ¬ wo = 0 ∧ th2 = 0 ∧ ∃ ro jj : Nat, ro < 40 ∧ x = nI ro ∧ nI ro < mr ∧ mrun mn mt ro y mo.toNatClampNeg 0 me ml 0 0 mo = (jj, me2, ml2, mk2, mz2, mq2) ∧ v9 = nI jj) := hm
  have hB : va_P (dC, dI) vwCl (wM cyI cyZ p0 p1 p2 p3 p4 mn me2 ml2 mt th2 wo mr mo mk2 mz2 mq2) t9.heap := hB
  rw [ht9] at hB
  obtain ⟨hP, hD⟩ := va_join (w1 := wM cyI cyZ p0 p1 p2 p3 p4 mn me2 ml2 mt th2 wo mr mo mk2 mz2 mq2) (wr := wXO cyI cyZ cyJ q0 q1 q2 q3 q4 q5 q6 qo wc9 wl sc sl cl9 ct rw co sk9 ss9 sq9 oo9) hP hD [8, 9, 10, 11, 12] [0, 1, 2, 3, 4, 5, 6, 7] rfl rfl (by decide) (by decide) hk1 hFm hB (wM_D (hDm.self (sz := _)))
  have hP : va_P (dC, dI) vwCl (wL cyI cyZ cyJ q0 q1 q2 q3 q4 q5 q6 qo p0 p1 p2 p3 p4 wc9 wl sc sl cl9 ct rw co sk9 ss9 sq9 oo9 mn me2 ml2 mt th2 wo mr mo mk2 mz2 mq2) H := hP
  have hD : va_D A (wL cyI cyZ cyJ q0 q1 q2 q3 q4 q5 q6 qo p0 p1 p2 p3 p4 wc9 wl sc sl cl9 ct rw co sk9 ss9 sq9 oo9 mn me2 ml2 mt th2 wo mr mo mk2 mz2 mq2) := hD
  clear hB hk1 hz1 hPm hDm hFm ht9 hvm
  obtain ⟨e1, e2, hR⟩ := rel_pass hR hw hm
  clear hw hm
  refine lv_istore (lv' := [(6, .int v9), (5, .int k), (4, .int (nI (5 * t))), (3, .ref qo), (2, .ref p0), (1, .ref q0), (0, .ref b)]) hx hb dL_law_779 hl (by decide) rfl (fun ls hl => ?_)
  refine lv_aload_n hx hb dL_law_781 rfl (lv_at hl 4 rfl) ?_
  have hPm := hP.sub (ws' := wM cyI cyZ p0 p1 p2 p3 p4 mn me2 ml2 mt th2 wo mr mo mk2 mz2 mq2) [8, 9, 10, 11, 12] rfl
  have hDm := hD.sub (ws' := wM cyI cyZ p0 p1 p2 p3 p4 mn me2 ml2 mt th2 wo mr mo mk2 mz2 mq2) [8, 9, 10, 11, 12] (by decide) rfl
  refine gx_calli (va_runV (As := []) (rest := []) ⟨hx, hb, hml, hown, hts⟩ (k_X1_thrown l dC dI cyI cyZ _ p0 p1 p2 p3 p4 mn me2 ml2 mt th2 wo mr mo mk2 mz2 mq2 hPm (hDm.weaken (fun _ _ _ _ => trivial))) (cwV 0 hts gL_law_X1_thrown rfl rfl rfl (by decide +kernel) ⟨Nat.le_of_ble_eq_true rfl, Nat.le_of_ble_eq_true rfl⟩) (pK_V hKm (va_recv hK hP (ci := 1) (q0 := 8) rfl rfl)) rfl rfl hl.1 rfl (lv_room (Nat.le_of_ble_eq_true rfl)) dL_law_782 ⟨show 13 + t + 1 + 0 + 0 ≤ 1054 by omega, show 4603 + 6 * t + 6 + 0 + 0 ≤ 12897 by omega⟩) (fun r9 hr9 => ?_)
  subst hr9
  refine lv_iload hx hb dL_law_785 (lv_at hl 1 rfl) ?_
  refine lv_icmp_eq (tgt := 792) hx hb dL_law_787 (by decide) (fun _ => ?_) (fun c1 => absurd e1.symm c1)
  refine lv_iload hx hb dL_law_792 (lv_at hl 1 rfl) ?_
  refine lv_if_ne (tgt := 809) hx hb dL_law_794 (by decide) (fun _ => ?_) (fun c2 => ?_)
  · refine lv_goto (tgt := 1208) hx hb dL_law_809 (by decide) ?_
    exact lc_tail hc0 (by omega) (by omega) hP hD hR hS hl ih
  · skip
    refine lv_aload_n hx hb dL_law_797 rfl (lv_at hl 3 rfl) ?_
    refine lv_iconst (v := nI 0) hx hb dL_law_798 (by decide) ?_
    refine va_lald hx hb hK hP 7 2 rfl rfl (vp_in_nI (by omega) (by omega)) dL_law_799 ?_
    rw [nI_clamp (show 0 < 2 ^ 31 by omega), e2 c2]
    refine lv_iload hx hb dL_law_800 (lv_at hl 0 rfl) ?_
    refine lv_i2l hx hb dL_law_802 rfl ?_
    refine W.lcmp hx hb dL_law_803 ?_
    rw [lg_cmp_self]
    refine lv_if_eq (tgt := 809) hx hb dL_law_804 (by decide) (fun _ => ?_) (fun c3 => absurd rfl c3)
    refine lv_goto (tgt := 1208) hx hb dL_law_809 (by decide) ?_
    exact lc_tail hc0 (by omega) (by omega) hP hD hR hS hl ih
set_option maxHeartbeats 4000000 in
set_option maxRecDepth 100000 in
theorem lc_stop {p : Program} {l : Launch} {e : Env} {s : State} {m : MethodId} {below : List Frame} {meth : Method} {c : Code} {dC : Nat → ClassId} {dI : Nat → Nat → Nat} {cyI cyZ cyJ : ClassId} {A : Nat → Prop} {b L : Nat} {xs : Nat → Int32} {Q : State → Prop} {q0 q1 q2 q3 q4 q5 q6 qo p0 p1 p2 p3 p4 : Nat} {wc wl sc sl cl ct : Nat → Int32} {rw co sk ss sq : Int32} {oo : Nat → Int64} {mn me ml mt : Nat → Int32} {th wo mr mo mk mz mq : Int32} {t : Nat} {H : Heap} {locs : List Loc} {ls : Array Slot} (hc : lwC p l s m c dC dI cyI cyZ cyJ A b L xs) (ht : 5 * t + 5 ≤ L) (hP : va_P (dC, dI) vwCl (wL cyI cyZ cyJ q0 q1 q2 q3 q4 q5 q6 qo p0 p1 p2 p3 p4 wc wl sc sl cl ct rw co sk ss sq oo mn me ml mt th wo mr mo mk mz mq) H) (hD : va_D A (wL cyI cyZ cyJ q0 q1 q2 q3 q4 q5 q6 qo p0 p1 p2 p3 p4 wc wl sc sl cl ct rw co sk ss sq oo mn me ml mt th wo mr mo mk mz mq)) (hR : Rel wc wl sc sl cl ct rw co sk ss sq mn me ml mt wo mr mo mk mz mq) (hS : va_S A s.heap H locs) (hl : lv_has ls 7 [(4, .int (nI (5 * t))), (3, .ref qo), (2, .ref p0), (1, .ref q0), (0, .ref b)])
    (ih : ∀ (H : Heap) (locs : List Loc) (ls : Array Slot), lwI dC dI cyI cyZ cyJ A s b q0 q1 q2 q3 q4 q5 q6 qo p0 p1 p2 p3 p4 (t + 1) H locs ls → W p l e room_1 s m #[Value.ref b] below meth c H locs (13 + (t + 1)) (4603 + 6 * (t + 1)) Q (F0 m 23 ls [])) : W p l e room_1 s m #[Value.ref b] below meth c H locs (13 + t) (4603 + 6 * t) Q (F0 m 812 ls []) := by
  have hc0 := hc
  obtain ⟨hx, hb, hml, hown, hts, hX, hbl, hbA, hA, hK, hz, hL, hst⟩ := hc
  have hKm := hK.sub (tys' := tyW cyI cyZ) [0, 1] rfl
  obtain ⟨x, ex⟩ : ∃ z, xs (5 * t + 1) = z := ⟨_, rfl⟩
  refine lv_aload_n hx hb dL_law_812 rfl (lv_at hl 3 rfl) ?_
  refine lv_aload_n hx hb dL_law_813 rfl (lv_at hl 4 rfl) ?_
  refine lv_iload hx hb dL_law_814 (lv_at hl 0 rfl) ?_
  refine lv_iconst (v := nI 1) hx hb dL_law_816 (by decide) ?_
  refine lv_iadd hx hb dL_law_817 ?_
  rw [nI_add]
  refine va_sld hx hb hX hbl hbA hS (vp_in_nI (by omega) (by omega)) dL_law_818 ?_
  rw [nI_clamp (show 5 * t + 1 < 2 ^ 31 by omega), ex]
  refine lv_aload_n hx hb dL_law_819 rfl (lv_at hl 1 rfl) ?_
  have hPx := hP.sub (ws' := wXO cyI cyZ cyJ q0 q1 q2 q3 q4 q5 q6 qo wc wl sc sl cl ct rw co sk ss sq oo) [0, 1, 2, 3, 4, 5, 6, 7] rfl
  have hDs := hD.sub (ws' := wXO cyI cyZ cyJ q0 q1 q2 q3 q4 q5 q6 qo wc wl sc sl cl ct rw co sk ss sq oo) [0, 1, 2, 3, 4, 5, 6, 7] (by decide) rfl
  have hFc := va_free (wc := wXO cyI cyZ cyJ q0 q1 q2 q3 q4 q5 q6 qo wc wl sc sl cl ct rw co sk ss sq oo) hD hS hA [0, 1, 2, 3, 4, 5, 6, 7] rfl
  refine va_calli (vx_runSW (As := [.ref q0, .int x, .ref qo]) (rest := []) ⟨hx, hb, hml, hown, hts⟩ (k_L_stop l hst dC dI cyI cyZ cyJ _ q0 q1 q2 q3 q4 q5 q6 qo wc wl sc sl cl ct rw co sk ss sq oo hPx (hDs.weaken (fun _ _ _ _ => trivial)) x ) (vx_cwSW 3 hts gL_law_L_stop rfl rfl rfl (by decide +kernel) ⟨Nat.le_of_ble_eq_true rfl, Nat.le_of_ble_eq_true rfl⟩) (pZ_S hK hz hS hFc) rfl rfl hl.1 rfl (lv_room (Nat.le_of_ble_eq_true rfl)) dL_law_820 ⟨show 13 + t + 1 ≤ 1054 by omega, show 4603 + 6 * t + 6 ≤ 12897 by omega⟩) hS (fun q _ h => hFc q h) hFc (fun k u t9 H locs ht9 hvm hw hB hz1 hk1 hS => ?_)
  obtain ⟨oo9, rfl⟩ : ∃ z, z = u := ⟨_, rfl⟩
  have hw : (((x.toInt < 0 ∨ 2 < x.toInt)) ∧ k = 1 ∧ oo9 = oo) ∨ (k = 0 ∧ ∃ (rr : Int32) , ((x = 0 ∧ rr = sk) ∨ (x = 1 ∧ rr = ss) ∨ (x = 2 ∧ rr = sq)) ∧ oo9 = vp_updL oo 0 rr.toInt64) := hw
  have hB : va_P (dC, dI) vwCl (wXO cyI cyZ cyJ q0 q1 q2 q3 q4 q5 q6 qo wc wl sc sl cl ct rw co sk ss sq oo9) t9.heap := hB
  rw [ht9] at hB
  obtain ⟨hP, hD⟩ := va_join (w1 := wXO cyI cyZ cyJ q0 q1 q2 q3 q4 q5 q6 qo wc wl sc sl cl ct rw co sk ss sq oo9) (wr := wM cyI cyZ p0 p1 p2 p3 p4 mn me ml mt th wo mr mo mk mz mq) hP hD [0, 1, 2, 3, 4, 5, 6, 7] [8, 9, 10, 11, 12] rfl rfl (by decide) (by decide) hk1 hFc hB (wO_D (hDs.self (sz := _)))
  have hP : va_P (dC, dI) vwCl (wL cyI cyZ cyJ q0 q1 q2 q3 q4 q5 q6 qo p0 p1 p2 p3 p4 wc wl sc sl cl ct rw co sk ss sq oo9 mn me ml mt th wo mr mo mk mz mq) H := hP.sub (ws' := wL cyI cyZ cyJ q0 q1 q2 q3 q4 q5 q6 qo p0 p1 p2 p3 p4 wc wl sc sl cl ct rw co sk ss sq oo9 mn me ml mt th wo mr mo mk mz mq) [5, 6, 7, 8, 9, 10, 11, 12, 0, 1, 2, 3, 4] rfl
  have hD : va_D A (wL cyI cyZ cyJ q0 q1 q2 q3 q4 q5 q6 qo p0 p1 p2 p3 p4 wc wl sc sl cl ct rw co sk ss sq oo9 mn me ml mt th wo mr mo mk mz mq) := hD.sub (ws' := wL cyI cyZ cyJ q0 q1 q2 q3 q4 q5 q6 qo p0 p1 p2 p3 p4 wc wl sc sl cl ct rw co sk ss sq oo9 mn me ml mt th wo mr mo mk mz mq) [5, 6, 7, 8, 9, 10, 11, 12, 0, 1, 2, 3, 4] (by decide) rfl
  clear hB hk1 hz1 hPx hDs hFc ht9 hvm
  refine lv_istore (lv' := [(5, .int k), (4, .int (nI (5 * t))), (3, .ref qo), (2, .ref p0), (1, .ref q0), (0, .ref b)]) hx hb dL_law_823 hl (by decide) rfl (fun ls hl => ?_)
  refine lv_aload_n hx hb dL_law_825 rfl (lv_at hl 3 rfl) ?_
  refine lv_aload_n hx hb dL_law_826 rfl (lv_at hl 5 rfl) ?_
  refine lv_iload hx hb dL_law_827 (lv_at hl 1 rfl) ?_
  refine lv_iconst (v := nI 1) hx hb dL_law_829 (by decide) ?_
  refine lv_iadd hx hb dL_law_830 ?_
  rw [nI_add]
  refine va_sld hx hb hX hbl hbA hS (vp_in_nI (by omega) (by omega)) dL_law_831 ?_
  rw [nI_clamp (show 5 * t + 1 < 2 ^ 31 by omega), ex]
  have hPm := hP.sub (ws' := wM cyI cyZ p0 p1 p2 p3 p4 mn me ml mt th wo mr mo mk mz mq) [8, 9, 10, 11, 12] rfl
  have hDm := hD.sub (ws' := wM cyI cyZ p0 p1 p2 p3 p4 mn me ml mt th wo mr mo mk mz mq) [8, 9, 10, 11, 12] (by decide) rfl
  have hFm := va_free (wc := wM cyI cyZ p0 p1 p2 p3 p4 mn me ml mt th wo mr mo mk mz mq) hD hS hA [8, 9, 10, 11, 12] rfl
  refine va_calli (va_runV (As := [.int x]) (rest := []) ⟨hx, hb, hml, hown, hts⟩ (k_X1_stop l dC dI cyI cyZ _ p0 p1 p2 p3 p4 mn me ml mt th wo mr mo mk mz mq hPm (hDm.weaken (fun _ _ _ _ => trivial)) x ) (cwV 1 hts gL_law_X1_stop rfl rfl rfl (by decide +kernel) ⟨Nat.le_of_ble_eq_true rfl, Nat.le_of_ble_eq_true rfl⟩) (pK_V hKm (va_recv hK hP (ci := 1) (q0 := 8) rfl rfl)) rfl rfl hl.1 rfl (lv_room (Nat.le_of_ble_eq_true rfl)) dL_law_832 ⟨show 13 + t + 1 + 0 ≤ 1054 by omega, show 4603 + 6 * t + 6 + 0 ≤ 12897 by omega⟩) hS (fun q _ h => hFm q h) hFm (fun v9 u t9 H locs ht9 hvm hm hB hz1 hk1 hS => ?_)
  obtain ⟨th2, rfl⟩ : ∃ z, z = u := ⟨_, rfl⟩
  have hm : ((x.toInt < 0 ∨ 2 < x.toInt) ∧ th2 = 1) ∨ (th2 = 0 ∧ ((x = 0 ∧ v9 = mk) ∨ (x = 1 ∧ v9 = mz) ∨ (x = 2 ∧ v9 = mq))) := hm
  have hB : va_P (dC, dI) vwCl (wM cyI cyZ p0 p1 p2 p3 p4 mn me ml mt th2 wo mr mo mk mz mq) t9.heap := hB
  rw [ht9] at hB
  obtain ⟨hP, hD⟩ := va_join (w1 := wM cyI cyZ p0 p1 p2 p3 p4 mn me ml mt th2 wo mr mo mk mz mq) (wr := wXO cyI cyZ cyJ q0 q1 q2 q3 q4 q5 q6 qo wc wl sc sl cl ct rw co sk ss sq oo9) hP hD [8, 9, 10, 11, 12] [0, 1, 2, 3, 4, 5, 6, 7] rfl rfl (by decide) (by decide) hk1 hFm hB (wM_D (hDm.self (sz := _)))
  have hP : va_P (dC, dI) vwCl (wL cyI cyZ cyJ q0 q1 q2 q3 q4 q5 q6 qo p0 p1 p2 p3 p4 wc wl sc sl cl ct rw co sk ss sq oo9 mn me ml mt th2 wo mr mo mk mz mq) H := hP
  have hD : va_D A (wL cyI cyZ cyJ q0 q1 q2 q3 q4 q5 q6 qo p0 p1 p2 p3 p4 wc wl sc sl cl ct rw co sk ss sq oo9 mn me ml mt th2 wo mr mo mk mz mq) := hD
  clear hB hk1 hz1 hPm hDm hFm ht9 hvm
  obtain ⟨e1, e2, hR⟩ := rel_stop hR hw hm
  clear hw hm
  refine lv_istore (lv' := [(6, .int v9), (5, .int k), (4, .int (nI (5 * t))), (3, .ref qo), (2, .ref p0), (1, .ref q0), (0, .ref b)]) hx hb dL_law_835 hl (by decide) rfl (fun ls hl => ?_)
  refine lv_aload_n hx hb dL_law_837 rfl (lv_at hl 4 rfl) ?_
  have hPm := hP.sub (ws' := wM cyI cyZ p0 p1 p2 p3 p4 mn me ml mt th2 wo mr mo mk mz mq) [8, 9, 10, 11, 12] rfl
  have hDm := hD.sub (ws' := wM cyI cyZ p0 p1 p2 p3 p4 mn me ml mt th2 wo mr mo mk mz mq) [8, 9, 10, 11, 12] (by decide) rfl
  refine gx_calli (va_runV (As := []) (rest := []) ⟨hx, hb, hml, hown, hts⟩ (k_X1_thrown l dC dI cyI cyZ _ p0 p1 p2 p3 p4 mn me ml mt th2 wo mr mo mk mz mq hPm (hDm.weaken (fun _ _ _ _ => trivial))) (cwV 0 hts gL_law_X1_thrown rfl rfl rfl (by decide +kernel) ⟨Nat.le_of_ble_eq_true rfl, Nat.le_of_ble_eq_true rfl⟩) (pK_V hKm (va_recv hK hP (ci := 1) (q0 := 8) rfl rfl)) rfl rfl hl.1 rfl (lv_room (Nat.le_of_ble_eq_true rfl)) dL_law_838 ⟨show 13 + t + 1 + 0 + 0 ≤ 1054 by omega, show 4603 + 6 * t + 6 + 0 + 0 ≤ 12897 by omega⟩) (fun r9 hr9 => ?_)
  subst hr9
  refine lv_iload hx hb dL_law_841 (lv_at hl 1 rfl) ?_
  refine lv_icmp_eq (tgt := 848) hx hb dL_law_843 (by decide) (fun _ => ?_) (fun c1 => absurd e1.symm c1)
  refine lv_iload hx hb dL_law_848 (lv_at hl 1 rfl) ?_
  refine lv_if_ne (tgt := 865) hx hb dL_law_850 (by decide) (fun _ => ?_) (fun c2 => ?_)
  · refine lv_goto (tgt := 1208) hx hb dL_law_865 (by decide) ?_
    exact lc_tail hc0 (by omega) (by omega) hP hD hR hS hl ih
  · skip
    refine lv_aload_n hx hb dL_law_853 rfl (lv_at hl 3 rfl) ?_
    refine lv_iconst (v := nI 0) hx hb dL_law_854 (by decide) ?_
    refine va_lald hx hb hK hP 7 2 rfl rfl (vp_in_nI (by omega) (by omega)) dL_law_855 ?_
    rw [nI_clamp (show 0 < 2 ^ 31 by omega), e2 c2]
    refine lv_iload hx hb dL_law_856 (lv_at hl 0 rfl) ?_
    refine lv_i2l hx hb dL_law_858 rfl ?_
    refine W.lcmp hx hb dL_law_859 ?_
    rw [lg_cmp_self]
    refine lv_if_eq (tgt := 865) hx hb dL_law_860 (by decide) (fun _ => ?_) (fun c3 => absurd rfl c3)
    refine lv_goto (tgt := 1208) hx hb dL_law_865 (by decide) ?_
    exact lc_tail hc0 (by omega) (by omega) hP hD hR hS hl ih
set_option maxHeartbeats 4000000 in
set_option maxRecDepth 100000 in
theorem lc_cut {p : Program} {l : Launch} {e : Env} {s : State} {m : MethodId} {below : List Frame} {meth : Method} {c : Code} {dC : Nat → ClassId} {dI : Nat → Nat → Nat} {cyI cyZ cyJ : ClassId} {A : Nat → Prop} {b L : Nat} {xs : Nat → Int32} {Q : State → Prop} {q0 q1 q2 q3 q4 q5 q6 qo p0 p1 p2 p3 p4 : Nat} {wc wl sc sl cl ct : Nat → Int32} {rw co sk ss sq : Int32} {oo : Nat → Int64} {mn me ml mt : Nat → Int32} {th wo mr mo mk mz mq : Int32} {t : Nat} {H : Heap} {locs : List Loc} {ls : Array Slot} (hc : lwC p l s m c dC dI cyI cyZ cyJ A b L xs) (ht : 5 * t + 5 ≤ L) (hP : va_P (dC, dI) vwCl (wL cyI cyZ cyJ q0 q1 q2 q3 q4 q5 q6 qo p0 p1 p2 p3 p4 wc wl sc sl cl ct rw co sk ss sq oo mn me ml mt th wo mr mo mk mz mq) H) (hD : va_D A (wL cyI cyZ cyJ q0 q1 q2 q3 q4 q5 q6 qo p0 p1 p2 p3 p4 wc wl sc sl cl ct rw co sk ss sq oo mn me ml mt th wo mr mo mk mz mq)) (hR : Rel wc wl sc sl cl ct rw co sk ss sq mn me ml mt wo mr mo mk mz mq) (hS : va_S A s.heap H locs) (hl : lv_has ls 7 [(4, .int (nI (5 * t))), (3, .ref qo), (2, .ref p0), (1, .ref q0), (0, .ref b)])
    (ih : ∀ (H : Heap) (locs : List Loc) (ls : Array Slot), lwI dC dI cyI cyZ cyJ A s b q0 q1 q2 q3 q4 q5 q6 qo p0 p1 p2 p3 p4 (t + 1) H locs ls → W p l e room_1 s m #[Value.ref b] below meth c H locs (13 + (t + 1)) (4603 + 6 * (t + 1)) Q (F0 m 23 ls [])) : W p l e room_1 s m #[Value.ref b] below meth c H locs (13 + t) (4603 + 6 * t) Q (F0 m 868 ls []) := by
  have hc0 := hc
  obtain ⟨hx, hb, hml, hown, hts, hX, hbl, hbA, hA, hK, hz, hL, hst⟩ := hc
  have hKm := hK.sub (tys' := tyW cyI cyZ) [0, 1] rfl
  obtain ⟨x, ex⟩ : ∃ z, xs (5 * t + 1) = z := ⟨_, rfl⟩
  refine lv_aload_n hx hb dL_law_868 rfl (lv_at hl 3 rfl) ?_
  refine lv_aload_n hx hb dL_law_869 rfl (lv_at hl 4 rfl) ?_
  refine lv_iload hx hb dL_law_870 (lv_at hl 0 rfl) ?_
  refine lv_iconst (v := nI 1) hx hb dL_law_872 (by decide) ?_
  refine lv_iadd hx hb dL_law_873 ?_
  rw [nI_add]
  refine va_sld hx hb hX hbl hbA hS (vp_in_nI (by omega) (by omega)) dL_law_874 ?_
  rw [nI_clamp (show 5 * t + 1 < 2 ^ 31 by omega), ex]
  refine lv_aload_n hx hb dL_law_875 rfl (lv_at hl 1 rfl) ?_
  have hPx := hP.sub (ws' := wXO cyI cyZ cyJ q0 q1 q2 q3 q4 q5 q6 qo wc wl sc sl cl ct rw co sk ss sq oo) [0, 1, 2, 3, 4, 5, 6, 7] rfl
  have hDs := hD.sub (ws' := wXO cyI cyZ cyJ q0 q1 q2 q3 q4 q5 q6 qo wc wl sc sl cl ct rw co sk ss sq oo) [0, 1, 2, 3, 4, 5, 6, 7] (by decide) rfl
  have hFc := va_free (wc := wXO cyI cyZ cyJ q0 q1 q2 q3 q4 q5 q6 qo wc wl sc sl cl ct rw co sk ss sq oo) hD hS hA [0, 1, 2, 3, 4, 5, 6, 7] rfl
  refine va_calli (vx_runSW (As := [.ref q0, .int x, .ref qo]) (rest := []) ⟨hx, hb, hml, hown, hts⟩ (k_L_cut l hst dC dI cyI cyZ cyJ _ q0 q1 q2 q3 q4 q5 q6 qo wc wl sc sl cl ct rw co sk ss sq oo hPx (hDs.weaken (fun _ _ _ _ => trivial)) x hR.hrw.1) (vx_cwSW 3 hts gL_law_L_cut rfl rfl rfl (by decide +kernel) ⟨Nat.le_of_ble_eq_true rfl, Nat.le_of_ble_eq_true rfl⟩) (pZ_S hK hz hS hFc) rfl rfl hl.1 rfl (lv_room (Nat.le_of_ble_eq_true rfl)) dL_law_876 ⟨show 13 + t + 1 ≤ 1054 by omega, show 4603 + 6 * t + 6 ≤ 12897 by omega⟩) hS (fun q _ h => hFc q h) hFc (fun k u t9 H locs ht9 hvm hw hB hz1 hk1 hS => ?_)
  obtain ⟨ct9, oo9⟩ := u
  have hw : ((lkR rw ct x = 1) ∧ k = 1 ∧ ct9 = ct ∧ oo9 = oo) ∨ ((lkR rw ct x = 2) ∧ k = 2 ∧ ct9 = ct ∧ oo9 = oo) ∨ (k = 0 ∧ ∃ (rr : Int32) (ro : Nat), (x = nI ro ∧ ro < 40 ∧ lkR rw ct x = 0 ∧ rr = co) ∧ ct9 = upd ct ro 1 ∧ oo9 = vp_updL oo 0 rr.toInt64) := hw
  have hB : va_P (dC, dI) vwCl (wXO cyI cyZ cyJ q0 q1 q2 q3 q4 q5 q6 qo wc wl sc sl cl ct9 rw co sk ss sq oo9) t9.heap := hB
  rw [ht9] at hB
  obtain ⟨hP, hD⟩ := va_join (w1 := wXO cyI cyZ cyJ q0 q1 q2 q3 q4 q5 q6 qo wc wl sc sl cl ct9 rw co sk ss sq oo9) (wr := wM cyI cyZ p0 p1 p2 p3 p4 mn me ml mt th wo mr mo mk mz mq) hP hD [0, 1, 2, 3, 4, 5, 6, 7] [8, 9, 10, 11, 12] rfl rfl (by decide) (by decide) hk1 hFc hB (wO_D (hDs.self (sz := _)))
  have hP : va_P (dC, dI) vwCl (wL cyI cyZ cyJ q0 q1 q2 q3 q4 q5 q6 qo p0 p1 p2 p3 p4 wc wl sc sl cl ct9 rw co sk ss sq oo9 mn me ml mt th wo mr mo mk mz mq) H := hP.sub (ws' := wL cyI cyZ cyJ q0 q1 q2 q3 q4 q5 q6 qo p0 p1 p2 p3 p4 wc wl sc sl cl ct9 rw co sk ss sq oo9 mn me ml mt th wo mr mo mk mz mq) [5, 6, 7, 8, 9, 10, 11, 12, 0, 1, 2, 3, 4] rfl
  have hD : va_D A (wL cyI cyZ cyJ q0 q1 q2 q3 q4 q5 q6 qo p0 p1 p2 p3 p4 wc wl sc sl cl ct9 rw co sk ss sq oo9 mn me ml mt th wo mr mo mk mz mq) := hD.sub (ws' := wL cyI cyZ cyJ q0 q1 q2 q3 q4 q5 q6 qo p0 p1 p2 p3 p4 wc wl sc sl cl ct9 rw co sk ss sq oo9 mn me ml mt th wo mr mo mk mz mq) [5, 6, 7, 8, 9, 10, 11, 12, 0, 1, 2, 3, 4] (by decide) rfl
  clear hB hk1 hz1 hPx hDs hFc ht9 hvm
  refine lv_istore (lv' := [(5, .int k), (4, .int (nI (5 * t))), (3, .ref qo), (2, .ref p0), (1, .ref q0), (0, .ref b)]) hx hb dL_law_879 hl (by decide) rfl (fun ls hl => ?_)
  refine lv_aload_n hx hb dL_law_881 rfl (lv_at hl 3 rfl) ?_
  refine lv_aload_n hx hb dL_law_882 rfl (lv_at hl 5 rfl) ?_
  refine lv_iload hx hb dL_law_883 (lv_at hl 1 rfl) ?_
  refine lv_iconst (v := nI 1) hx hb dL_law_885 (by decide) ?_
  refine lv_iadd hx hb dL_law_886 ?_
  rw [nI_add]
  refine va_sld hx hb hX hbl hbA hS (vp_in_nI (by omega) (by omega)) dL_law_887 ?_
  rw [nI_clamp (show 5 * t + 1 < 2 ^ 31 by omega), ex]
  have hPm := hP.sub (ws' := wM cyI cyZ p0 p1 p2 p3 p4 mn me ml mt th wo mr mo mk mz mq) [8, 9, 10, 11, 12] rfl
  have hDm := hD.sub (ws' := wM cyI cyZ p0 p1 p2 p3 p4 mn me ml mt th wo mr mo mk mz mq) [8, 9, 10, 11, 12] (by decide) rfl
  have hFm := va_free (wc := wM cyI cyZ p0 p1 p2 p3 p4 mn me ml mt th wo mr mo mk mz mq) hD hS hA [8, 9, 10, 11, 12] rfl
  refine va_calli (va_runV (As := [.int x]) (rest := []) ⟨hx, hb, hml, hown, hts⟩ (k_X1_cut l dC dI cyI cyZ _ p0 p1 p2 p3 p4 mn me ml mt th wo mr mo mk mz mq hPm (hDm.weaken (fun _ _ _ _ => trivial)) x hR.hrw.2.2.1) (cwV 1 hts gL_law_X1_cut rfl rfl rfl (by decide +kernel) ⟨Nat.le_of_ble_eq_true rfl, Nat.le_of_ble_eq_true rfl⟩) (pK_V hKm (va_recv hK hP (ci := 1) (q0 := 8) rfl rfl)) rfl rfl hl.1 rfl (lv_room (Nat.le_of_ble_eq_true rfl)) dL_law_888 ⟨show 13 + t + 1 + 0 ≤ 1054 by omega, show 4603 + 6 * t + 6 + 0 ≤ 12897 by omega⟩) hS (fun q _ h => hFm q h) hFm (fun v9 u t9 H locs ht9 hvm hm hB hz1 hk1 hS => ?_)
  obtain ⟨th2, mt2⟩ := u
  have hm : (wo = 0 ∧ th2 = 1 ∧ mt2 = mt) ∨ (¬ wo = 0 ∧ ((rlk mr mt x = 2 ∧ th2 = 2 ∧ mt2 = mt) ∨ (rlk mr mt x = 1 ∧ th2 = 1 ∧ mt2 = mt) ∨ (rlk mr mt x = 0 ∧ th2 = 0 ∧ ∃ ro : Nat, ro < 40 ∧ x = nI ro ∧ v9 = mo ∧ mt2 = upd mt ro 1))) := hm
  have hB : va_P (dC, dI) vwCl (wM cyI cyZ p0 p1 p2 p3 p4 mn me ml mt2 th2 wo mr mo mk mz mq) t9.heap := hB
  rw [ht9] at hB
  obtain ⟨hP, hD⟩ := va_join (w1 := wM cyI cyZ p0 p1 p2 p3 p4 mn me ml mt2 th2 wo mr mo mk mz mq) (wr := wXO cyI cyZ cyJ q0 q1 q2 q3 q4 q5 q6 qo wc wl sc sl cl ct9 rw co sk ss sq oo9) hP hD [8, 9, 10, 11, 12] [0, 1, 2, 3, 4, 5, 6, 7] rfl rfl (by decide) (by decide) hk1 hFm hB (wM_D (hDm.self (sz := _)))
  have hP : va_P (dC, dI) vwCl (wL cyI cyZ cyJ q0 q1 q2 q3 q4 q5 q6 qo p0 p1 p2 p3 p4 wc wl sc sl cl ct9 rw co sk ss sq oo9 mn me ml mt2 th2 wo mr mo mk mz mq) H := hP
  have hD : va_D A (wL cyI cyZ cyJ q0 q1 q2 q3 q4 q5 q6 qo p0 p1 p2 p3 p4 wc wl sc sl cl ct9 rw co sk ss sq oo9 mn me ml mt2 th2 wo mr mo mk mz mq) := hD
  clear hB hk1 hz1 hPm hDm hFm ht9 hvm
  obtain ⟨e1, e2, hR⟩ := rel_cut hR hw hm
  clear hw hm
  refine lv_istore (lv' := [(6, .int v9), (5, .int k), (4, .int (nI (5 * t))), (3, .ref qo), (2, .ref p0), (1, .ref q0), (0, .ref b)]) hx hb dL_law_891 hl (by decide) rfl (fun ls hl => ?_)
  refine lv_aload_n hx hb dL_law_893 rfl (lv_at hl 4 rfl) ?_
  have hPm := hP.sub (ws' := wM cyI cyZ p0 p1 p2 p3 p4 mn me ml mt2 th2 wo mr mo mk mz mq) [8, 9, 10, 11, 12] rfl
  have hDm := hD.sub (ws' := wM cyI cyZ p0 p1 p2 p3 p4 mn me ml mt2 th2 wo mr mo mk mz mq) [8, 9, 10, 11, 12] (by decide) rfl
  refine gx_calli (va_runV (As := []) (rest := []) ⟨hx, hb, hml, hown, hts⟩ (k_X1_thrown l dC dI cyI cyZ _ p0 p1 p2 p3 p4 mn me ml mt2 th2 wo mr mo mk mz mq hPm (hDm.weaken (fun _ _ _ _ => trivial))) (cwV 0 hts gL_law_X1_thrown rfl rfl rfl (by decide +kernel) ⟨Nat.le_of_ble_eq_true rfl, Nat.le_of_ble_eq_true rfl⟩) (pK_V hKm (va_recv hK hP (ci := 1) (q0 := 8) rfl rfl)) rfl rfl hl.1 rfl (lv_room (Nat.le_of_ble_eq_true rfl)) dL_law_894 ⟨show 13 + t + 1 + 0 + 0 ≤ 1054 by omega, show 4603 + 6 * t + 6 + 0 + 0 ≤ 12897 by omega⟩) (fun r9 hr9 => ?_)
  subst hr9
  refine lv_iload hx hb dL_law_897 (lv_at hl 1 rfl) ?_
  refine lv_icmp_eq (tgt := 904) hx hb dL_law_899 (by decide) (fun _ => ?_) (fun c1 => absurd e1.symm c1)
  refine lv_iload hx hb dL_law_904 (lv_at hl 1 rfl) ?_
  refine lv_if_ne (tgt := 921) hx hb dL_law_906 (by decide) (fun _ => ?_) (fun c2 => ?_)
  · refine lv_goto (tgt := 1208) hx hb dL_law_921 (by decide) ?_
    exact lc_tail hc0 (by omega) (by omega) hP hD hR hS hl ih
  · skip
    refine lv_aload_n hx hb dL_law_909 rfl (lv_at hl 3 rfl) ?_
    refine lv_iconst (v := nI 0) hx hb dL_law_910 (by decide) ?_
    refine va_lald hx hb hK hP 7 2 rfl rfl (vp_in_nI (by omega) (by omega)) dL_law_911 ?_
    rw [nI_clamp (show 0 < 2 ^ 31 by omega), e2 c2]
    refine lv_iload hx hb dL_law_912 (lv_at hl 0 rfl) ?_
    refine lv_i2l hx hb dL_law_914 rfl ?_
    refine W.lcmp hx hb dL_law_915 ?_
    rw [lg_cmp_self]
    refine lv_if_eq (tgt := 921) hx hb dL_law_916 (by decide) (fun _ => ?_) (fun c3 => absurd rfl c3)
    refine lv_goto (tgt := 1208) hx hb dL_law_921 (by decide) ?_
    exact lc_tail hc0 (by omega) (by omega) hP hD hR hS hl ih
set_option maxHeartbeats 4000000 in
set_option maxRecDepth 100000 in
theorem lc_cell {p : Program} {l : Launch} {e : Env} {s : State} {m : MethodId} {below : List Frame} {meth : Method} {c : Code} {dC : Nat → ClassId} {dI : Nat → Nat → Nat} {cyI cyZ cyJ : ClassId} {A : Nat → Prop} {b L : Nat} {xs : Nat → Int32} {Q : State → Prop} {q0 q1 q2 q3 q4 q5 q6 qo p0 p1 p2 p3 p4 : Nat} {wc wl sc sl cl ct : Nat → Int32} {rw co sk ss sq : Int32} {oo : Nat → Int64} {mn me ml mt : Nat → Int32} {th wo mr mo mk mz mq : Int32} {t : Nat} {H : Heap} {locs : List Loc} {ls : Array Slot} (hc : lwC p l s m c dC dI cyI cyZ cyJ A b L xs) (ht : 5 * t + 5 ≤ L) (hP : va_P (dC, dI) vwCl (wL cyI cyZ cyJ q0 q1 q2 q3 q4 q5 q6 qo p0 p1 p2 p3 p4 wc wl sc sl cl ct rw co sk ss sq oo mn me ml mt th wo mr mo mk mz mq) H) (hD : va_D A (wL cyI cyZ cyJ q0 q1 q2 q3 q4 q5 q6 qo p0 p1 p2 p3 p4 wc wl sc sl cl ct rw co sk ss sq oo mn me ml mt th wo mr mo mk mz mq)) (hR : Rel wc wl sc sl cl ct rw co sk ss sq mn me ml mt wo mr mo mk mz mq) (hS : va_S A s.heap H locs) (hl : lv_has ls 7 [(4, .int (nI (5 * t))), (3, .ref qo), (2, .ref p0), (1, .ref q0), (0, .ref b)])
    (ih : ∀ (H : Heap) (locs : List Loc) (ls : Array Slot), lwI dC dI cyI cyZ cyJ A s b q0 q1 q2 q3 q4 q5 q6 qo p0 p1 p2 p3 p4 (t + 1) H locs ls → W p l e room_1 s m #[Value.ref b] below meth c H locs (13 + (t + 1)) (4603 + 6 * (t + 1)) Q (F0 m 23 ls [])) : W p l e room_1 s m #[Value.ref b] below meth c H locs (13 + t) (4603 + 6 * t) Q (F0 m 924 ls []) := by
  have hc0 := hc
  obtain ⟨hx, hb, hml, hown, hts, hX, hbl, hbA, hA, hK, hz, hL, hst⟩ := hc
  have hKm := hK.sub (tys' := tyW cyI cyZ) [0, 1] rfl
  obtain ⟨x, ex⟩ : ∃ z, xs (5 * t + 1) = z := ⟨_, rfl⟩
  obtain ⟨y, ey⟩ : ∃ z, xs (5 * t + 2) = z := ⟨_, rfl⟩
  refine lv_aload_n hx hb dL_law_924 rfl (lv_at hl 3 rfl) ?_
  refine lv_aload_n hx hb dL_law_925 rfl (lv_at hl 4 rfl) ?_
  refine lv_iload hx hb dL_law_926 (lv_at hl 0 rfl) ?_
  refine lv_iconst (v := nI 1) hx hb dL_law_928 (by decide) ?_
  refine lv_iadd hx hb dL_law_929 ?_
  rw [nI_add]
  refine va_sld hx hb hX hbl hbA hS (vp_in_nI (by omega) (by omega)) dL_law_930 ?_
  rw [nI_clamp (show 5 * t + 1 < 2 ^ 31 by omega), ex]
  refine lv_aload_n hx hb dL_law_931 rfl (lv_at hl 4 rfl) ?_
  refine lv_iload hx hb dL_law_932 (lv_at hl 0 rfl) ?_
  refine lv_iconst (v := nI 2) hx hb dL_law_934 (by decide) ?_
  refine lv_iadd hx hb dL_law_935 ?_
  rw [nI_add]
  refine va_sld hx hb hX hbl hbA hS (vp_in_nI (by omega) (by omega)) dL_law_936 ?_
  rw [nI_clamp (show 5 * t + 2 < 2 ^ 31 by omega), ey]
  refine lv_aload_n hx hb dL_law_937 rfl (lv_at hl 1 rfl) ?_
  have hPx := hP.sub (ws' := wXO cyI cyZ cyJ q0 q1 q2 q3 q4 q5 q6 qo wc wl sc sl cl ct rw co sk ss sq oo) [0, 1, 2, 3, 4, 5, 6, 7] rfl
  have hDs := hD.sub (ws' := wXO cyI cyZ cyJ q0 q1 q2 q3 q4 q5 q6 qo wc wl sc sl cl ct rw co sk ss sq oo) [0, 1, 2, 3, 4, 5, 6, 7] (by decide) rfl
  have hFc := va_free (wc := wXO cyI cyZ cyJ q0 q1 q2 q3 q4 q5 q6 qo wc wl sc sl cl ct rw co sk ss sq oo) hD hS hA [0, 1, 2, 3, 4, 5, 6, 7] rfl
  refine va_calli (vx_runSW (As := [.ref q0, .int x, .int y, .ref qo]) (rest := []) ⟨hx, hb, hml, hown, hts⟩ (k_L_cell l hst dC dI cyI cyZ cyJ _ q0 q1 q2 q3 q4 q5 q6 qo wc wl sc sl cl ct rw co sk ss sq oo hPx (hDs.weaken (fun _ _ _ _ => trivial)) x y hR.hrw.1 hR.hrw.2.1) (vx_cwSW 4 hts gL_law_L_cell rfl rfl rfl (by decide +kernel) ⟨Nat.le_of_ble_eq_true rfl, Nat.le_of_ble_eq_true rfl⟩) (pZ_S hK hz hS hFc) rfl rfl hl.1 rfl (lv_room (Nat.le_of_ble_eq_true rfl)) dL_law_938 ⟨show 13 + t + 1 ≤ 1054 by omega, show 4603 + 6 * t + 6 ≤ 12897 by omega⟩) hS (fun q _ h => hFc q h) hFc (fun k u t9 H locs ht9 hvm hw hB hz1 hk1 hS => ?_)
  obtain ⟨oo9, rfl⟩ : ∃ z, z = u := ⟨_, rfl⟩
  have hw : ((lkC rw co ct x y = 1) ∧ k = 1 ∧ oo9 = oo) ∨ ((lkC rw co ct x y = 2) ∧ k = 2 ∧ oo9 = oo) ∨ (k = 0 ∧ ∃ (rr : Int32) (ro : Nat) (j : Nat), (x = nI ro ∧ ro < 40 ∧ y = nI j ∧ j < 40 ∧ lkC rw co ct x y = 0 ∧ rr = cl (ro * 40 + j)) ∧ oo9 = vp_updL oo 0 rr.toInt64) := hw
  have hB : va_P (dC, dI) vwCl (wXO cyI cyZ cyJ q0 q1 q2 q3 q4 q5 q6 qo wc wl sc sl cl ct rw co sk ss sq oo9) t9.heap := hB
  rw [ht9] at hB
  obtain ⟨hP, hD⟩ := va_join (w1 := wXO cyI cyZ cyJ q0 q1 q2 q3 q4 q5 q6 qo wc wl sc sl cl ct rw co sk ss sq oo9) (wr := wM cyI cyZ p0 p1 p2 p3 p4 mn me ml mt th wo mr mo mk mz mq) hP hD [0, 1, 2, 3, 4, 5, 6, 7] [8, 9, 10, 11, 12] rfl rfl (by decide) (by decide) hk1 hFc hB (wO_D (hDs.self (sz := _)))
  have hP : va_P (dC, dI) vwCl (wL cyI cyZ cyJ q0 q1 q2 q3 q4 q5 q6 qo p0 p1 p2 p3 p4 wc wl sc sl cl ct rw co sk ss sq oo9 mn me ml mt th wo mr mo mk mz mq) H := hP.sub (ws' := wL cyI cyZ cyJ q0 q1 q2 q3 q4 q5 q6 qo p0 p1 p2 p3 p4 wc wl sc sl cl ct rw co sk ss sq oo9 mn me ml mt th wo mr mo mk mz mq) [5, 6, 7, 8, 9, 10, 11, 12, 0, 1, 2, 3, 4] rfl
  have hD : va_D A (wL cyI cyZ cyJ q0 q1 q2 q3 q4 q5 q6 qo p0 p1 p2 p3 p4 wc wl sc sl cl ct rw co sk ss sq oo9 mn me ml mt th wo mr mo mk mz mq) := hD.sub (ws' := wL cyI cyZ cyJ q0 q1 q2 q3 q4 q5 q6 qo p0 p1 p2 p3 p4 wc wl sc sl cl ct rw co sk ss sq oo9 mn me ml mt th wo mr mo mk mz mq) [5, 6, 7, 8, 9, 10, 11, 12, 0, 1, 2, 3, 4] (by decide) rfl
  clear hB hk1 hz1 hPx hDs hFc ht9 hvm
  refine lv_istore (lv' := [(5, .int k), (4, .int (nI (5 * t))), (3, .ref qo), (2, .ref p0), (1, .ref q0), (0, .ref b)]) hx hb dL_law_941 hl (by decide) rfl (fun ls hl => ?_)
  refine lv_aload_n hx hb dL_law_943 rfl (lv_at hl 3 rfl) ?_
  refine lv_aload_n hx hb dL_law_944 rfl (lv_at hl 5 rfl) ?_
  refine lv_iload hx hb dL_law_945 (lv_at hl 1 rfl) ?_
  refine lv_iconst (v := nI 1) hx hb dL_law_947 (by decide) ?_
  refine lv_iadd hx hb dL_law_948 ?_
  rw [nI_add]
  refine va_sld hx hb hX hbl hbA hS (vp_in_nI (by omega) (by omega)) dL_law_949 ?_
  rw [nI_clamp (show 5 * t + 1 < 2 ^ 31 by omega), ex]
  refine lv_aload_n hx hb dL_law_950 rfl (lv_at hl 5 rfl) ?_
  refine lv_iload hx hb dL_law_951 (lv_at hl 1 rfl) ?_
  refine lv_iconst (v := nI 2) hx hb dL_law_953 (by decide) ?_
  refine lv_iadd hx hb dL_law_954 ?_
  rw [nI_add]
  refine va_sld hx hb hX hbl hbA hS (vp_in_nI (by omega) (by omega)) dL_law_955 ?_
  rw [nI_clamp (show 5 * t + 2 < 2 ^ 31 by omega), ey]
  have hPm := hP.sub (ws' := wM cyI cyZ p0 p1 p2 p3 p4 mn me ml mt th wo mr mo mk mz mq) [8, 9, 10, 11, 12] rfl
  have hDm := hD.sub (ws' := wM cyI cyZ p0 p1 p2 p3 p4 mn me ml mt th wo mr mo mk mz mq) [8, 9, 10, 11, 12] (by decide) rfl
  have hFm := va_free (wc := wM cyI cyZ p0 p1 p2 p3 p4 mn me ml mt th wo mr mo mk mz mq) hD hS hA [8, 9, 10, 11, 12] rfl
  refine va_calli (va_runV (As := [.int x, .int y]) (rest := []) ⟨hx, hb, hml, hown, hts⟩ (k_X1_cell l dC dI cyI cyZ _ p0 p1 p2 p3 p4 mn me ml mt th wo mr mo mk mz mq hPm (hDm.weaken (fun _ _ _ _ => trivial)) x y hR.hrw.2.2.1 hR.hrw.2.2.2) (cwV 2 hts gL_law_X1_cell rfl rfl rfl (by decide +kernel) ⟨Nat.le_of_ble_eq_true rfl, Nat.le_of_ble_eq_true rfl⟩) (pK_V hKm (va_recv hK hP (ci := 1) (q0 := 8) rfl rfl)) rfl rfl hl.1 rfl (lv_room (Nat.le_of_ble_eq_true rfl)) dL_law_956 ⟨show 13 + t + 1 + 0 ≤ 1054 by omega, show 4603 + 6 * t + 6 + 0 ≤ 12897 by omega⟩) hS (fun q _ h => hFm q h) hFm (fun v9 u t9 H locs ht9 hvm hm hB hz1 hk1 hS => ?_)
  obtain ⟨th2, rfl⟩ : ∃ z, z = u := ⟨_, rfl⟩
  have hm : th2 = nI (lkM wo mr mo mt x y) ∧ (lkM wo mr mo mt x y = 0 → ∃ ro j : Nat, ro < 40 ∧ x = nI ro ∧ j < 40 ∧ y = nI j ∧ v9 = ml (40 * ro + j)) := hm
  have hB : va_P (dC, dI) vwCl (wM cyI cyZ p0 p1 p2 p3 p4 mn me ml mt th2 wo mr mo mk mz mq) t9.heap := hB
  rw [ht9] at hB
  obtain ⟨hP, hD⟩ := va_join (w1 := wM cyI cyZ p0 p1 p2 p3 p4 mn me ml mt th2 wo mr mo mk mz mq) (wr := wXO cyI cyZ cyJ q0 q1 q2 q3 q4 q5 q6 qo wc wl sc sl cl ct rw co sk ss sq oo9) hP hD [8, 9, 10, 11, 12] [0, 1, 2, 3, 4, 5, 6, 7] rfl rfl (by decide) (by decide) hk1 hFm hB (wM_D (hDm.self (sz := _)))
  have hP : va_P (dC, dI) vwCl (wL cyI cyZ cyJ q0 q1 q2 q3 q4 q5 q6 qo p0 p1 p2 p3 p4 wc wl sc sl cl ct rw co sk ss sq oo9 mn me ml mt th2 wo mr mo mk mz mq) H := hP
  have hD : va_D A (wL cyI cyZ cyJ q0 q1 q2 q3 q4 q5 q6 qo p0 p1 p2 p3 p4 wc wl sc sl cl ct rw co sk ss sq oo9 mn me ml mt th2 wo mr mo mk mz mq) := hD
  clear hB hk1 hz1 hPm hDm hFm ht9 hvm
  obtain ⟨e1, e2, hR⟩ := rel_cell hR hw hm
  clear hw hm
  refine lv_istore (lv' := [(6, .int v9), (5, .int k), (4, .int (nI (5 * t))), (3, .ref qo), (2, .ref p0), (1, .ref q0), (0, .ref b)]) hx hb dL_law_959 hl (by decide) rfl (fun ls hl => ?_)
  refine lv_aload_n hx hb dL_law_961 rfl (lv_at hl 4 rfl) ?_
  have hPm := hP.sub (ws' := wM cyI cyZ p0 p1 p2 p3 p4 mn me ml mt th2 wo mr mo mk mz mq) [8, 9, 10, 11, 12] rfl
  have hDm := hD.sub (ws' := wM cyI cyZ p0 p1 p2 p3 p4 mn me ml mt th2 wo mr mo mk mz mq) [8, 9, 10, 11, 12] (by decide) rfl
  refine gx_calli (va_runV (As := []) (rest := []) ⟨hx, hb, hml, hown, hts⟩ (k_X1_thrown l dC dI cyI cyZ _ p0 p1 p2 p3 p4 mn me ml mt th2 wo mr mo mk mz mq hPm (hDm.weaken (fun _ _ _ _ => trivial))) (cwV 0 hts gL_law_X1_thrown rfl rfl rfl (by decide +kernel) ⟨Nat.le_of_ble_eq_true rfl, Nat.le_of_ble_eq_true rfl⟩) (pK_V hKm (va_recv hK hP (ci := 1) (q0 := 8) rfl rfl)) rfl rfl hl.1 rfl (lv_room (Nat.le_of_ble_eq_true rfl)) dL_law_962 ⟨show 13 + t + 1 + 0 + 0 ≤ 1054 by omega, show 4603 + 6 * t + 6 + 0 + 0 ≤ 12897 by omega⟩) (fun r9 hr9 => ?_)
  subst hr9
  refine lv_iload hx hb dL_law_965 (lv_at hl 1 rfl) ?_
  refine lv_icmp_eq (tgt := 972) hx hb dL_law_967 (by decide) (fun _ => ?_) (fun c1 => absurd e1.symm c1)
  refine lv_iload hx hb dL_law_972 (lv_at hl 1 rfl) ?_
  refine lv_if_ne (tgt := 989) hx hb dL_law_974 (by decide) (fun _ => ?_) (fun c2 => ?_)
  · refine lv_goto (tgt := 1208) hx hb dL_law_989 (by decide) ?_
    exact lc_tail hc0 (by omega) (by omega) hP hD hR hS hl ih
  · skip
    refine lv_aload_n hx hb dL_law_977 rfl (lv_at hl 3 rfl) ?_
    refine lv_iconst (v := nI 0) hx hb dL_law_978 (by decide) ?_
    refine va_lald hx hb hK hP 7 2 rfl rfl (vp_in_nI (by omega) (by omega)) dL_law_979 ?_
    rw [nI_clamp (show 0 < 2 ^ 31 by omega), e2 c2]
    refine lv_iload hx hb dL_law_980 (lv_at hl 0 rfl) ?_
    refine lv_i2l hx hb dL_law_982 rfl ?_
    refine W.lcmp hx hb dL_law_983 ?_
    rw [lg_cmp_self]
    refine lv_if_eq (tgt := 989) hx hb dL_law_984 (by decide) (fun _ => ?_) (fun c3 => absurd rfl c3)
    refine lv_goto (tgt := 1208) hx hb dL_law_989 (by decide) ?_
    exact lc_tail hc0 (by omega) (by omega) hP hD hR hS hl ih
set_option maxHeartbeats 4000000 in
set_option maxRecDepth 100000 in
theorem lc_dye {p : Program} {l : Launch} {e : Env} {s : State} {m : MethodId} {below : List Frame} {meth : Method} {c : Code} {dC : Nat → ClassId} {dI : Nat → Nat → Nat} {cyI cyZ cyJ : ClassId} {A : Nat → Prop} {b L : Nat} {xs : Nat → Int32} {Q : State → Prop} {q0 q1 q2 q3 q4 q5 q6 qo p0 p1 p2 p3 p4 : Nat} {wc wl sc sl cl ct : Nat → Int32} {rw co sk ss sq : Int32} {oo : Nat → Int64} {mn me ml mt : Nat → Int32} {th wo mr mo mk mz mq : Int32} {t : Nat} {H : Heap} {locs : List Loc} {ls : Array Slot} (hc : lwC p l s m c dC dI cyI cyZ cyJ A b L xs) (ht : 5 * t + 5 ≤ L) (hP : va_P (dC, dI) vwCl (wL cyI cyZ cyJ q0 q1 q2 q3 q4 q5 q6 qo p0 p1 p2 p3 p4 wc wl sc sl cl ct rw co sk ss sq oo mn me ml mt th wo mr mo mk mz mq) H) (hD : va_D A (wL cyI cyZ cyJ q0 q1 q2 q3 q4 q5 q6 qo p0 p1 p2 p3 p4 wc wl sc sl cl ct rw co sk ss sq oo mn me ml mt th wo mr mo mk mz mq)) (hR : Rel wc wl sc sl cl ct rw co sk ss sq mn me ml mt wo mr mo mk mz mq) (hS : va_S A s.heap H locs) (hl : lv_has ls 7 [(4, .int (nI (5 * t))), (3, .ref qo), (2, .ref p0), (1, .ref q0), (0, .ref b)])
    (ih : ∀ (H : Heap) (locs : List Loc) (ls : Array Slot), lwI dC dI cyI cyZ cyJ A s b q0 q1 q2 q3 q4 q5 q6 qo p0 p1 p2 p3 p4 (t + 1) H locs ls → W p l e room_1 s m #[Value.ref b] below meth c H locs (13 + (t + 1)) (4603 + 6 * (t + 1)) Q (F0 m 23 ls [])) : W p l e room_1 s m #[Value.ref b] below meth c H locs (13 + t) (4603 + 6 * t) Q (F0 m 992 ls []) := by
  have hc0 := hc
  obtain ⟨hx, hb, hml, hown, hts, hX, hbl, hbA, hA, hK, hz, hL, hst⟩ := hc
  have hKm := hK.sub (tys' := tyW cyI cyZ) [0, 1] rfl
  obtain ⟨x, ex⟩ : ∃ z, xs (5 * t + 1) = z := ⟨_, rfl⟩
  obtain ⟨y, ey⟩ : ∃ z, xs (5 * t + 2) = z := ⟨_, rfl⟩
  obtain ⟨h, eh⟩ : ∃ z, xs (5 * t + 3) = z := ⟨_, rfl⟩
  obtain ⟨v, ev⟩ : ∃ z, xs (5 * t + 4) = z := ⟨_, rfl⟩
  refine lv_aload_n hx hb dL_law_992 rfl (lv_at hl 3 rfl) ?_
  refine lv_aload_n hx hb dL_law_993 rfl (lv_at hl 4 rfl) ?_
  refine lv_iload hx hb dL_law_994 (lv_at hl 0 rfl) ?_
  refine lv_iconst (v := nI 1) hx hb dL_law_996 (by decide) ?_
  refine lv_iadd hx hb dL_law_997 ?_
  rw [nI_add]
  refine va_sld hx hb hX hbl hbA hS (vp_in_nI (by omega) (by omega)) dL_law_998 ?_
  rw [nI_clamp (show 5 * t + 1 < 2 ^ 31 by omega), ex]
  refine lv_aload_n hx hb dL_law_999 rfl (lv_at hl 4 rfl) ?_
  refine lv_iload hx hb dL_law_1000 (lv_at hl 0 rfl) ?_
  refine lv_iconst (v := nI 2) hx hb dL_law_1002 (by decide) ?_
  refine lv_iadd hx hb dL_law_1003 ?_
  rw [nI_add]
  refine va_sld hx hb hX hbl hbA hS (vp_in_nI (by omega) (by omega)) dL_law_1004 ?_
  rw [nI_clamp (show 5 * t + 2 < 2 ^ 31 by omega), ey]
  refine lv_aload_n hx hb dL_law_1005 rfl (lv_at hl 4 rfl) ?_
  refine lv_iload hx hb dL_law_1006 (lv_at hl 0 rfl) ?_
  refine lv_iconst (v := nI 3) hx hb dL_law_1008 (by decide) ?_
  refine lv_iadd hx hb dL_law_1009 ?_
  rw [nI_add]
  refine va_sld hx hb hX hbl hbA hS (vp_in_nI (by omega) (by omega)) dL_law_1010 ?_
  rw [nI_clamp (show 5 * t + 3 < 2 ^ 31 by omega), eh]
  refine lv_aload_n hx hb dL_law_1011 rfl (lv_at hl 4 rfl) ?_
  refine lv_iload hx hb dL_law_1012 (lv_at hl 0 rfl) ?_
  refine lv_iconst (v := nI 4) hx hb dL_law_1014 (by decide) ?_
  refine lv_iadd hx hb dL_law_1015 ?_
  rw [nI_add]
  refine va_sld hx hb hX hbl hbA hS (vp_in_nI (by omega) (by omega)) dL_law_1016 ?_
  rw [nI_clamp (show 5 * t + 4 < 2 ^ 31 by omega), ev]
  refine lv_aload_n hx hb dL_law_1017 rfl (lv_at hl 1 rfl) ?_
  have hPx := hP.sub (ws' := wXO cyI cyZ cyJ q0 q1 q2 q3 q4 q5 q6 qo wc wl sc sl cl ct rw co sk ss sq oo) [0, 1, 2, 3, 4, 5, 6, 7] rfl
  have hDs := hD.sub (ws' := wXO cyI cyZ cyJ q0 q1 q2 q3 q4 q5 q6 qo wc wl sc sl cl ct rw co sk ss sq oo) [0, 1, 2, 3, 4, 5, 6, 7] (by decide) rfl
  have hFc := va_free (wc := wXO cyI cyZ cyJ q0 q1 q2 q3 q4 q5 q6 qo wc wl sc sl cl ct rw co sk ss sq oo) hD hS hA [0, 1, 2, 3, 4, 5, 6, 7] rfl
  refine va_calli (vx_runSW (As := [.ref q0, .int x, .int y, .int h, .int v, .ref qo]) (rest := []) ⟨hx, hb, hml, hown, hts⟩ (k_L_dye l hst dC dI cyI cyZ cyJ _ q0 q1 q2 q3 q4 q5 q6 qo wc wl sc sl cl ct rw co sk ss sq oo hPx (hDs.weaken (fun _ _ _ _ => trivial)) x y h v hR.hrw.1 hR.hrw.2.1) (vx_cwSW 6 hts gL_law_L_dye rfl rfl rfl (by decide +kernel) ⟨Nat.le_of_ble_eq_true rfl, Nat.le_of_ble_eq_true rfl⟩) (pZ_S hK hz hS hFc) rfl rfl hl.1 rfl (lv_room (Nat.le_of_ble_eq_true rfl)) dL_law_1018 ⟨show 13 + t + 1 ≤ 1054 by omega, show 4603 + 6 * t + 6 ≤ 12897 by omega⟩) hS (fun q _ h => hFc q h) hFc (fun k u t9 H locs ht9 hvm hw hB hz1 hk1 hS => ?_)
  obtain ⟨cl9, oo9⟩ := u
  have hw : ((¬ (¬ h < 0 ∧ h ≤ nI 8)) ∧ k = 1 ∧ cl9 = cl ∧ oo9 = oo) ∨ (((¬ h < 0 ∧ h ≤ nI 8) ∧ lkC rw co ct x y = 1) ∧ k = 2 ∧ cl9 = cl ∧ oo9 = oo) ∨ (((¬ h < 0 ∧ h ≤ nI 8) ∧ lkC rw co ct x y = 2) ∧ k = 3 ∧ cl9 = cl ∧ oo9 = oo) ∨ (k = 0 ∧ ∃ (rr : Int32) (ro : Nat) (j : Nat), (x = nI ro ∧ ro < 40 ∧ y = nI j ∧ j < 40 ∧ (¬ h < 0 ∧ h ≤ nI 8) ∧ lkC rw co ct x y = 0 ∧ rr = cb (cl (ro * 40 + j)) h v) ∧ cl9 = upd cl (ro * 40 + j) (cb (cl (ro * 40 + j)) h v) ∧ oo9 = vp_updL oo 0 rr.toInt64) := hw
  have hB : va_P (dC, dI) vwCl (wXO cyI cyZ cyJ q0 q1 q2 q3 q4 q5 q6 qo wc wl sc sl cl9 ct rw co sk ss sq oo9) t9.heap := hB
  rw [ht9] at hB
  obtain ⟨hP, hD⟩ := va_join (w1 := wXO cyI cyZ cyJ q0 q1 q2 q3 q4 q5 q6 qo wc wl sc sl cl9 ct rw co sk ss sq oo9) (wr := wM cyI cyZ p0 p1 p2 p3 p4 mn me ml mt th wo mr mo mk mz mq) hP hD [0, 1, 2, 3, 4, 5, 6, 7] [8, 9, 10, 11, 12] rfl rfl (by decide) (by decide) hk1 hFc hB (wO_D (hDs.self (sz := _)))
  have hP : va_P (dC, dI) vwCl (wL cyI cyZ cyJ q0 q1 q2 q3 q4 q5 q6 qo p0 p1 p2 p3 p4 wc wl sc sl cl9 ct rw co sk ss sq oo9 mn me ml mt th wo mr mo mk mz mq) H := hP.sub (ws' := wL cyI cyZ cyJ q0 q1 q2 q3 q4 q5 q6 qo p0 p1 p2 p3 p4 wc wl sc sl cl9 ct rw co sk ss sq oo9 mn me ml mt th wo mr mo mk mz mq) [5, 6, 7, 8, 9, 10, 11, 12, 0, 1, 2, 3, 4] rfl
  have hD : va_D A (wL cyI cyZ cyJ q0 q1 q2 q3 q4 q5 q6 qo p0 p1 p2 p3 p4 wc wl sc sl cl9 ct rw co sk ss sq oo9 mn me ml mt th wo mr mo mk mz mq) := hD.sub (ws' := wL cyI cyZ cyJ q0 q1 q2 q3 q4 q5 q6 qo p0 p1 p2 p3 p4 wc wl sc sl cl9 ct rw co sk ss sq oo9 mn me ml mt th wo mr mo mk mz mq) [5, 6, 7, 8, 9, 10, 11, 12, 0, 1, 2, 3, 4] (by decide) rfl
  clear hB hk1 hz1 hPx hDs hFc ht9 hvm
  refine lv_istore (lv' := [(5, .int k), (4, .int (nI (5 * t))), (3, .ref qo), (2, .ref p0), (1, .ref q0), (0, .ref b)]) hx hb dL_law_1021 hl (by decide) rfl (fun ls hl => ?_)
  refine lv_aload_n hx hb dL_law_1023 rfl (lv_at hl 3 rfl) ?_
  refine lv_aload_n hx hb dL_law_1024 rfl (lv_at hl 5 rfl) ?_
  refine lv_iload hx hb dL_law_1025 (lv_at hl 1 rfl) ?_
  refine lv_iconst (v := nI 1) hx hb dL_law_1027 (by decide) ?_
  refine lv_iadd hx hb dL_law_1028 ?_
  rw [nI_add]
  refine va_sld hx hb hX hbl hbA hS (vp_in_nI (by omega) (by omega)) dL_law_1029 ?_
  rw [nI_clamp (show 5 * t + 1 < 2 ^ 31 by omega), ex]
  refine lv_aload_n hx hb dL_law_1030 rfl (lv_at hl 5 rfl) ?_
  refine lv_iload hx hb dL_law_1031 (lv_at hl 1 rfl) ?_
  refine lv_iconst (v := nI 2) hx hb dL_law_1033 (by decide) ?_
  refine lv_iadd hx hb dL_law_1034 ?_
  rw [nI_add]
  refine va_sld hx hb hX hbl hbA hS (vp_in_nI (by omega) (by omega)) dL_law_1035 ?_
  rw [nI_clamp (show 5 * t + 2 < 2 ^ 31 by omega), ey]
  refine lv_aload_n hx hb dL_law_1036 rfl (lv_at hl 5 rfl) ?_
  refine lv_iload hx hb dL_law_1037 (lv_at hl 1 rfl) ?_
  refine lv_iconst (v := nI 3) hx hb dL_law_1039 (by decide) ?_
  refine lv_iadd hx hb dL_law_1040 ?_
  rw [nI_add]
  refine va_sld hx hb hX hbl hbA hS (vp_in_nI (by omega) (by omega)) dL_law_1041 ?_
  rw [nI_clamp (show 5 * t + 3 < 2 ^ 31 by omega), eh]
  refine lv_aload_n hx hb dL_law_1042 rfl (lv_at hl 5 rfl) ?_
  refine lv_iload hx hb dL_law_1043 (lv_at hl 1 rfl) ?_
  refine lv_iconst (v := nI 4) hx hb dL_law_1045 (by decide) ?_
  refine lv_iadd hx hb dL_law_1046 ?_
  rw [nI_add]
  refine va_sld hx hb hX hbl hbA hS (vp_in_nI (by omega) (by omega)) dL_law_1047 ?_
  rw [nI_clamp (show 5 * t + 4 < 2 ^ 31 by omega), ev]
  have hPm := hP.sub (ws' := wM cyI cyZ p0 p1 p2 p3 p4 mn me ml mt th wo mr mo mk mz mq) [8, 9, 10, 11, 12] rfl
  have hDm := hD.sub (ws' := wM cyI cyZ p0 p1 p2 p3 p4 mn me ml mt th wo mr mo mk mz mq) [8, 9, 10, 11, 12] (by decide) rfl
  have hFm := va_free (wc := wM cyI cyZ p0 p1 p2 p3 p4 mn me ml mt th wo mr mo mk mz mq) hD hS hA [8, 9, 10, 11, 12] rfl
  refine va_calli (va_runV (As := [.int x, .int y, .int h, .int v]) (rest := []) ⟨hx, hb, hml, hown, hts⟩ (k_X1_dye l dC dI cyI cyZ _ p0 p1 p2 p3 p4 mn me ml mt th wo mr mo mk mz mq hPm (hDm.weaken (fun _ _ _ _ => trivial)) x y h v hR.hrw.2.2.1 hR.hrw.2.2.2) (cwV 4 hts gL_law_X1_dye rfl rfl rfl (by decide +kernel) ⟨Nat.le_of_ble_eq_true rfl, Nat.le_of_ble_eq_true rfl⟩) (pK_V hKm (va_recv hK hP (ci := 1) (q0 := 8) rfl rfl)) rfl rfl hl.1 rfl (lv_room (Nat.le_of_ble_eq_true rfl)) dL_law_1048 ⟨show 13 + t + 1 + 0 ≤ 1054 by omega, show 4603 + 6 * t + 6 + 0 ≤ 12897 by omega⟩) hS (fun q _ h => hFm q h) hFm (fun v9 u t9 H locs ht9 hvm hm hB hz1 hk1 hS => ?_)
  obtain ⟨th2, ml2⟩ := u
  have hm : (¬ okH h ∧ th2 = 1 ∧ ml2 = ml) ∨ (okH h ∧ ((lkM wo mr mo mt x y = 1 ∧ th2 = 2 ∧ ml2 = ml) ∨ (lkM wo mr mo mt x y = 2 ∧ th2 = 3 ∧ ml2 = ml) ∨ (lkM wo mr mo mt x y = 0 ∧ th2 = 0 ∧ ∃ ro j : Nat, ro < 40 ∧ x = nI ro ∧ j < 40 ∧ y = nI j ∧ v9 = cb (ml (40 * ro + j)) h v ∧ ml2 = upd ml (40 * ro + j) (cb (ml (40 * ro + j)) h v)))) := hm
  have hB : va_P (dC, dI) vwCl (wM cyI cyZ p0 p1 p2 p3 p4 mn me ml2 mt th2 wo mr mo mk mz mq) t9.heap := hB
  rw [ht9] at hB
  obtain ⟨hP, hD⟩ := va_join (w1 := wM cyI cyZ p0 p1 p2 p3 p4 mn me ml2 mt th2 wo mr mo mk mz mq) (wr := wXO cyI cyZ cyJ q0 q1 q2 q3 q4 q5 q6 qo wc wl sc sl cl9 ct rw co sk ss sq oo9) hP hD [8, 9, 10, 11, 12] [0, 1, 2, 3, 4, 5, 6, 7] rfl rfl (by decide) (by decide) hk1 hFm hB (wM_D (hDm.self (sz := _)))
  have hP : va_P (dC, dI) vwCl (wL cyI cyZ cyJ q0 q1 q2 q3 q4 q5 q6 qo p0 p1 p2 p3 p4 wc wl sc sl cl9 ct rw co sk ss sq oo9 mn me ml2 mt th2 wo mr mo mk mz mq) H := hP
  have hD : va_D A (wL cyI cyZ cyJ q0 q1 q2 q3 q4 q5 q6 qo p0 p1 p2 p3 p4 wc wl sc sl cl9 ct rw co sk ss sq oo9 mn me ml2 mt th2 wo mr mo mk mz mq) := hD
  clear hB hk1 hz1 hPm hDm hFm ht9 hvm
  obtain ⟨e1, e2, hR⟩ := rel_dye hR hw hm
  clear hw hm
  refine lv_istore (lv' := [(6, .int v9), (5, .int k), (4, .int (nI (5 * t))), (3, .ref qo), (2, .ref p0), (1, .ref q0), (0, .ref b)]) hx hb dL_law_1051 hl (by decide) rfl (fun ls hl => ?_)
  refine lv_aload_n hx hb dL_law_1053 rfl (lv_at hl 4 rfl) ?_
  have hPm := hP.sub (ws' := wM cyI cyZ p0 p1 p2 p3 p4 mn me ml2 mt th2 wo mr mo mk mz mq) [8, 9, 10, 11, 12] rfl
  have hDm := hD.sub (ws' := wM cyI cyZ p0 p1 p2 p3 p4 mn me ml2 mt th2 wo mr mo mk mz mq) [8, 9, 10, 11, 12] (by decide) rfl
  refine gx_calli (va_runV (As := []) (rest := []) ⟨hx, hb, hml, hown, hts⟩ (k_X1_thrown l dC dI cyI cyZ _ p0 p1 p2 p3 p4 mn me ml2 mt th2 wo mr mo mk mz mq hPm (hDm.weaken (fun _ _ _ _ => trivial))) (cwV 0 hts gL_law_X1_thrown rfl rfl rfl (by decide +kernel) ⟨Nat.le_of_ble_eq_true rfl, Nat.le_of_ble_eq_true rfl⟩) (pK_V hKm (va_recv hK hP (ci := 1) (q0 := 8) rfl rfl)) rfl rfl hl.1 rfl (lv_room (Nat.le_of_ble_eq_true rfl)) dL_law_1054 ⟨show 13 + t + 1 + 0 + 0 ≤ 1054 by omega, show 4603 + 6 * t + 6 + 0 + 0 ≤ 12897 by omega⟩) (fun r9 hr9 => ?_)
  subst hr9
  refine lv_iload hx hb dL_law_1057 (lv_at hl 1 rfl) ?_
  refine lv_icmp_eq (tgt := 1064) hx hb dL_law_1059 (by decide) (fun _ => ?_) (fun c1 => absurd e1.symm c1)
  refine lv_iload hx hb dL_law_1064 (lv_at hl 1 rfl) ?_
  refine lv_if_ne (tgt := 1081) hx hb dL_law_1066 (by decide) (fun _ => ?_) (fun c2 => ?_)
  · refine lv_goto (tgt := 1208) hx hb dL_law_1081 (by decide) ?_
    exact lc_tail hc0 (by omega) (by omega) hP hD hR hS hl ih
  · skip
    refine lv_aload_n hx hb dL_law_1069 rfl (lv_at hl 3 rfl) ?_
    refine lv_iconst (v := nI 0) hx hb dL_law_1070 (by decide) ?_
    refine va_lald hx hb hK hP 7 2 rfl rfl (vp_in_nI (by omega) (by omega)) dL_law_1071 ?_
    rw [nI_clamp (show 0 < 2 ^ 31 by omega), e2 c2]
    refine lv_iload hx hb dL_law_1072 (lv_at hl 0 rfl) ?_
    refine lv_i2l hx hb dL_law_1074 rfl ?_
    refine W.lcmp hx hb dL_law_1075 ?_
    rw [lg_cmp_self]
    refine lv_if_eq (tgt := 1081) hx hb dL_law_1076 (by decide) (fun _ => ?_) (fun c3 => absurd rfl c3)
    refine lv_goto (tgt := 1208) hx hb dL_law_1081 (by decide) ?_
    exact lc_tail hc0 (by omega) (by omega) hP hD hR hS hl ih
set_option maxHeartbeats 4000000 in
set_option maxRecDepth 100000 in
theorem lc_seam {p : Program} {l : Launch} {e : Env} {s : State} {m : MethodId} {below : List Frame} {meth : Method} {c : Code} {dC : Nat → ClassId} {dI : Nat → Nat → Nat} {cyI cyZ cyJ : ClassId} {A : Nat → Prop} {b L : Nat} {xs : Nat → Int32} {Q : State → Prop} {q0 q1 q2 q3 q4 q5 q6 qo p0 p1 p2 p3 p4 : Nat} {wc wl sc sl cl ct : Nat → Int32} {rw co sk ss sq : Int32} {oo : Nat → Int64} {mn me ml mt : Nat → Int32} {th wo mr mo mk mz mq : Int32} {t : Nat} {H : Heap} {locs : List Loc} {ls : Array Slot} (hc : lwC p l s m c dC dI cyI cyZ cyJ A b L xs) (ht : 5 * t + 5 ≤ L) (hP : va_P (dC, dI) vwCl (wL cyI cyZ cyJ q0 q1 q2 q3 q4 q5 q6 qo p0 p1 p2 p3 p4 wc wl sc sl cl ct rw co sk ss sq oo mn me ml mt th wo mr mo mk mz mq) H) (hD : va_D A (wL cyI cyZ cyJ q0 q1 q2 q3 q4 q5 q6 qo p0 p1 p2 p3 p4 wc wl sc sl cl ct rw co sk ss sq oo mn me ml mt th wo mr mo mk mz mq)) (hR : Rel wc wl sc sl cl ct rw co sk ss sq mn me ml mt wo mr mo mk mz mq) (hS : va_S A s.heap H locs) (hl : lv_has ls 7 [(4, .int (nI (5 * t))), (3, .ref qo), (2, .ref p0), (1, .ref q0), (0, .ref b)])
    (ih : ∀ (H : Heap) (locs : List Loc) (ls : Array Slot), lwI dC dI cyI cyZ cyJ A s b q0 q1 q2 q3 q4 q5 q6 qo p0 p1 p2 p3 p4 (t + 1) H locs ls → W p l e room_1 s m #[Value.ref b] below meth c H locs (13 + (t + 1)) (4603 + 6 * (t + 1)) Q (F0 m 23 ls [])) : W p l e room_1 s m #[Value.ref b] below meth c H locs (13 + t) (4603 + 6 * t) Q (F0 m 1084 ls []) := by
  have hc0 := hc
  obtain ⟨hx, hb, hml, hown, hts, hX, hbl, hbA, hA, hK, hz, hL, hst⟩ := hc
  have hKm := hK.sub (tys' := tyW cyI cyZ) [0, 1] rfl
  obtain ⟨x, ex⟩ : ∃ z, xs (5 * t + 1) = z := ⟨_, rfl⟩
  obtain ⟨y, ey⟩ : ∃ z, xs (5 * t + 2) = z := ⟨_, rfl⟩
  refine lv_aload_n hx hb dL_law_1084 rfl (lv_at hl 3 rfl) ?_
  refine lv_aload_n hx hb dL_law_1085 rfl (lv_at hl 4 rfl) ?_
  refine lv_iload hx hb dL_law_1086 (lv_at hl 0 rfl) ?_
  refine lv_iconst (v := nI 1) hx hb dL_law_1088 (by decide) ?_
  refine lv_iadd hx hb dL_law_1089 ?_
  rw [nI_add]
  refine va_sld hx hb hX hbl hbA hS (vp_in_nI (by omega) (by omega)) dL_law_1090 ?_
  rw [nI_clamp (show 5 * t + 1 < 2 ^ 31 by omega), ex]
  refine lv_aload_n hx hb dL_law_1091 rfl (lv_at hl 4 rfl) ?_
  refine lv_iload hx hb dL_law_1092 (lv_at hl 0 rfl) ?_
  refine lv_iconst (v := nI 2) hx hb dL_law_1094 (by decide) ?_
  refine lv_iadd hx hb dL_law_1095 ?_
  rw [nI_add]
  refine va_sld hx hb hX hbl hbA hS (vp_in_nI (by omega) (by omega)) dL_law_1096 ?_
  rw [nI_clamp (show 5 * t + 2 < 2 ^ 31 by omega), ey]
  refine lv_aload_n hx hb dL_law_1097 rfl (lv_at hl 1 rfl) ?_
  have hPx := hP.sub (ws' := wXO cyI cyZ cyJ q0 q1 q2 q3 q4 q5 q6 qo wc wl sc sl cl ct rw co sk ss sq oo) [0, 1, 2, 3, 4, 5, 6, 7] rfl
  have hDs := hD.sub (ws' := wXO cyI cyZ cyJ q0 q1 q2 q3 q4 q5 q6 qo wc wl sc sl cl ct rw co sk ss sq oo) [0, 1, 2, 3, 4, 5, 6, 7] (by decide) rfl
  have hFc := va_free (wc := wXO cyI cyZ cyJ q0 q1 q2 q3 q4 q5 q6 qo wc wl sc sl cl ct rw co sk ss sq oo) hD hS hA [0, 1, 2, 3, 4, 5, 6, 7] rfl
  refine va_calli (vx_runSW (As := [.ref q0, .int x, .int y, .ref qo]) (rest := []) ⟨hx, hb, hml, hown, hts⟩ (k_L_seam l hst dC dI cyI cyZ cyJ _ q0 q1 q2 q3 q4 q5 q6 qo wc wl sc sl cl ct rw co sk ss sq oo hPx (hDs.weaken (fun _ _ _ _ => trivial)) x y hR.hrw.1 hR.hrw.2.1) (vx_cwSW 4 hts gL_law_L_seam rfl rfl rfl (by decide +kernel) ⟨Nat.le_of_ble_eq_true rfl, Nat.le_of_ble_eq_true rfl⟩) (pZ_S hK hz hS hFc) rfl rfl hl.1 rfl (lv_room (Nat.le_of_ble_eq_true rfl)) dL_law_1098 ⟨show 13 + t + 1 ≤ 1054 by omega, show 4603 + 6 * t + 6 ≤ 12897 by omega⟩) hS (fun q _ h => hFc q h) hFc (fun k u t9 H locs ht9 hvm hw hB hz1 hk1 hS => ?_)
  obtain ⟨oo9, rfl⟩ : ∃ z, z = u := ⟨_, rfl⟩
  have hw : ((lkS rw ct x y = 1) ∧ k = 1 ∧ oo9 = oo) ∨ ((lkS rw ct x y = 2) ∧ k = 2 ∧ oo9 = oo) ∨ (k = 0 ∧ ∃ (rr : Int32) (ra : Nat) (rb : Nat), (x = nI ra ∧ ra < 40 ∧ y = nI rb ∧ rb < 40 ∧ lkS rw ct x y = 0 ∧ rr = nSame cl ra rb co.toNatClampNeg) ∧ oo9 = vp_updL oo 0 rr.toInt64) := hw
  have hB : va_P (dC, dI) vwCl (wXO cyI cyZ cyJ q0 q1 q2 q3 q4 q5 q6 qo wc wl sc sl cl ct rw co sk ss sq oo9) t9.heap := hB
  rw [ht9] at hB
  obtain ⟨hP, hD⟩ := va_join (w1 := wXO cyI cyZ cyJ q0 q1 q2 q3 q4 q5 q6 qo wc wl sc sl cl ct rw co sk ss sq oo9) (wr := wM cyI cyZ p0 p1 p2 p3 p4 mn me ml mt th wo mr mo mk mz mq) hP hD [0, 1, 2, 3, 4, 5, 6, 7] [8, 9, 10, 11, 12] rfl rfl (by decide) (by decide) hk1 hFc hB (wO_D (hDs.self (sz := _)))
  have hP : va_P (dC, dI) vwCl (wL cyI cyZ cyJ q0 q1 q2 q3 q4 q5 q6 qo p0 p1 p2 p3 p4 wc wl sc sl cl ct rw co sk ss sq oo9 mn me ml mt th wo mr mo mk mz mq) H := hP.sub (ws' := wL cyI cyZ cyJ q0 q1 q2 q3 q4 q5 q6 qo p0 p1 p2 p3 p4 wc wl sc sl cl ct rw co sk ss sq oo9 mn me ml mt th wo mr mo mk mz mq) [5, 6, 7, 8, 9, 10, 11, 12, 0, 1, 2, 3, 4] rfl
  have hD : va_D A (wL cyI cyZ cyJ q0 q1 q2 q3 q4 q5 q6 qo p0 p1 p2 p3 p4 wc wl sc sl cl ct rw co sk ss sq oo9 mn me ml mt th wo mr mo mk mz mq) := hD.sub (ws' := wL cyI cyZ cyJ q0 q1 q2 q3 q4 q5 q6 qo p0 p1 p2 p3 p4 wc wl sc sl cl ct rw co sk ss sq oo9 mn me ml mt th wo mr mo mk mz mq) [5, 6, 7, 8, 9, 10, 11, 12, 0, 1, 2, 3, 4] (by decide) rfl
  clear hB hk1 hz1 hPx hDs hFc ht9 hvm
  refine lv_istore (lv' := [(5, .int k), (4, .int (nI (5 * t))), (3, .ref qo), (2, .ref p0), (1, .ref q0), (0, .ref b)]) hx hb dL_law_1101 hl (by decide) rfl (fun ls hl => ?_)
  refine lv_aload_n hx hb dL_law_1103 rfl (lv_at hl 3 rfl) ?_
  refine lv_aload_n hx hb dL_law_1104 rfl (lv_at hl 5 rfl) ?_
  refine lv_iload hx hb dL_law_1105 (lv_at hl 1 rfl) ?_
  refine lv_iconst (v := nI 1) hx hb dL_law_1107 (by decide) ?_
  refine lv_iadd hx hb dL_law_1108 ?_
  rw [nI_add]
  refine va_sld hx hb hX hbl hbA hS (vp_in_nI (by omega) (by omega)) dL_law_1109 ?_
  rw [nI_clamp (show 5 * t + 1 < 2 ^ 31 by omega), ex]
  refine lv_aload_n hx hb dL_law_1110 rfl (lv_at hl 5 rfl) ?_
  refine lv_iload hx hb dL_law_1111 (lv_at hl 1 rfl) ?_
  refine lv_iconst (v := nI 2) hx hb dL_law_1113 (by decide) ?_
  refine lv_iadd hx hb dL_law_1114 ?_
  rw [nI_add]
  refine va_sld hx hb hX hbl hbA hS (vp_in_nI (by omega) (by omega)) dL_law_1115 ?_
  rw [nI_clamp (show 5 * t + 2 < 2 ^ 31 by omega), ey]
  have hPm := hP.sub (ws' := wM cyI cyZ p0 p1 p2 p3 p4 mn me ml mt th wo mr mo mk mz mq) [8, 9, 10, 11, 12] rfl
  have hDm := hD.sub (ws' := wM cyI cyZ p0 p1 p2 p3 p4 mn me ml mt th wo mr mo mk mz mq) [8, 9, 10, 11, 12] (by decide) rfl
  have hFm := va_free (wc := wM cyI cyZ p0 p1 p2 p3 p4 mn me ml mt th wo mr mo mk mz mq) hD hS hA [8, 9, 10, 11, 12] rfl
  refine va_calli (va_runV (As := [.int x, .int y]) (rest := []) ⟨hx, hb, hml, hown, hts⟩ (k_X1_seam l dC dI cyI cyZ _ p0 p1 p2 p3 p4 mn me ml mt th wo mr mo mk mz mq hPm (hDm.weaken (fun _ _ _ _ => trivial)) x y hR.hrw.2.2.1 hR.hrw.2.2.2) (cwV 2 hts gL_law_X1_seam rfl rfl rfl (by decide +kernel) ⟨Nat.le_of_ble_eq_true rfl, Nat.le_of_ble_eq_true rfl⟩) (pK_V hKm (va_recv hK hP (ci := 1) (q0 := 8) rfl rfl)) rfl rfl hl.1 rfl (lv_room (Nat.le_of_ble_eq_true rfl)) dL_law_1116 ⟨show 13 + t + 1 + 0 ≤ 1054 by omega, show 4603 + 6 * t + 6 + 0 ≤ 12897 by omega⟩) hS (fun q _ h => hFm q h) hFm (fun v9 u t9 H locs ht9 hvm hm hB hz1 hk1 hS => ?_)
  obtain ⟨th2, rfl⟩ : ∃ z, z = u := ⟨_, rfl⟩
  have hm : th2 = nI (lkSM wo mr mt x y) ∧ (lkSM wo mr mt x y = 0 → ∃ ra rb : Nat, ra < 40 ∧ x = nI ra ∧ rb < 40 ∧ y = nI rb ∧ v9 = nSameM ml ra rb mo.toNatClampNeg) := hm
  have hB : va_P (dC, dI) vwCl (wM cyI cyZ p0 p1 p2 p3 p4 mn me ml mt th2 wo mr mo mk mz mq) t9.heap := hB
  rw [ht9] at hB
  obtain ⟨hP, hD⟩ := va_join (w1 := wM cyI cyZ p0 p1 p2 p3 p4 mn me ml mt th2 wo mr mo mk mz mq) (wr := wXO cyI cyZ cyJ q0 q1 q2 q3 q4 q5 q6 qo wc wl sc sl cl ct rw co sk ss sq oo9) hP hD [8, 9, 10, 11, 12] [0, 1, 2, 3, 4, 5, 6, 7] rfl rfl (by decide) (by decide) hk1 hFm hB (wM_D (hDm.self (sz := _)))
  have hP : va_P (dC, dI) vwCl (wL cyI cyZ cyJ q0 q1 q2 q3 q4 q5 q6 qo p0 p1 p2 p3 p4 wc wl sc sl cl ct rw co sk ss sq oo9 mn me ml mt th2 wo mr mo mk mz mq) H := hP
  have hD : va_D A (wL cyI cyZ cyJ q0 q1 q2 q3 q4 q5 q6 qo p0 p1 p2 p3 p4 wc wl sc sl cl ct rw co sk ss sq oo9 mn me ml mt th2 wo mr mo mk mz mq) := hD
  clear hB hk1 hz1 hPm hDm hFm ht9 hvm
  obtain ⟨e1, e2, hR⟩ := rel_seam hR hw hm
  clear hw hm
  refine lv_istore (lv' := [(6, .int v9), (5, .int k), (4, .int (nI (5 * t))), (3, .ref qo), (2, .ref p0), (1, .ref q0), (0, .ref b)]) hx hb dL_law_1119 hl (by decide) rfl (fun ls hl => ?_)
  refine lv_aload_n hx hb dL_law_1121 rfl (lv_at hl 4 rfl) ?_
  have hPm := hP.sub (ws' := wM cyI cyZ p0 p1 p2 p3 p4 mn me ml mt th2 wo mr mo mk mz mq) [8, 9, 10, 11, 12] rfl
  have hDm := hD.sub (ws' := wM cyI cyZ p0 p1 p2 p3 p4 mn me ml mt th2 wo mr mo mk mz mq) [8, 9, 10, 11, 12] (by decide) rfl
  refine gx_calli (va_runV (As := []) (rest := []) ⟨hx, hb, hml, hown, hts⟩ (k_X1_thrown l dC dI cyI cyZ _ p0 p1 p2 p3 p4 mn me ml mt th2 wo mr mo mk mz mq hPm (hDm.weaken (fun _ _ _ _ => trivial))) (cwV 0 hts gL_law_X1_thrown rfl rfl rfl (by decide +kernel) ⟨Nat.le_of_ble_eq_true rfl, Nat.le_of_ble_eq_true rfl⟩) (pK_V hKm (va_recv hK hP (ci := 1) (q0 := 8) rfl rfl)) rfl rfl hl.1 rfl (lv_room (Nat.le_of_ble_eq_true rfl)) dL_law_1122 ⟨show 13 + t + 1 + 0 + 0 ≤ 1054 by omega, show 4603 + 6 * t + 6 + 0 + 0 ≤ 12897 by omega⟩) (fun r9 hr9 => ?_)
  subst hr9
  refine lv_iload hx hb dL_law_1125 (lv_at hl 1 rfl) ?_
  refine lv_icmp_eq (tgt := 1132) hx hb dL_law_1127 (by decide) (fun _ => ?_) (fun c1 => absurd e1.symm c1)
  refine lv_iload hx hb dL_law_1132 (lv_at hl 1 rfl) ?_
  refine lv_if_ne (tgt := 1149) hx hb dL_law_1134 (by decide) (fun _ => ?_) (fun c2 => ?_)
  · refine lv_goto (tgt := 1208) hx hb dL_law_1149 (by decide) ?_
    exact lc_tail hc0 (by omega) (by omega) hP hD hR hS hl ih
  · skip
    refine lv_aload_n hx hb dL_law_1137 rfl (lv_at hl 3 rfl) ?_
    refine lv_iconst (v := nI 0) hx hb dL_law_1138 (by decide) ?_
    refine va_lald hx hb hK hP 7 2 rfl rfl (vp_in_nI (by omega) (by omega)) dL_law_1139 ?_
    rw [nI_clamp (show 0 < 2 ^ 31 by omega), e2 c2]
    refine lv_iload hx hb dL_law_1140 (lv_at hl 0 rfl) ?_
    refine lv_i2l hx hb dL_law_1142 rfl ?_
    refine W.lcmp hx hb dL_law_1143 ?_
    rw [lg_cmp_self]
    refine lv_if_eq (tgt := 1149) hx hb dL_law_1144 (by decide) (fun _ => ?_) (fun c3 => absurd rfl c3)
    refine lv_goto (tgt := 1208) hx hb dL_law_1149 (by decide) ?_
    exact lc_tail hc0 (by omega) (by omega) hP hD hR hS hl ih
set_option maxHeartbeats 4000000 in
set_option maxRecDepth 100000 in
theorem lc_sum {p : Program} {l : Launch} {e : Env} {s : State} {m : MethodId} {below : List Frame} {meth : Method} {c : Code} {dC : Nat → ClassId} {dI : Nat → Nat → Nat} {cyI cyZ cyJ : ClassId} {A : Nat → Prop} {b L : Nat} {xs : Nat → Int32} {Q : State → Prop} {q0 q1 q2 q3 q4 q5 q6 qo p0 p1 p2 p3 p4 : Nat} {wc wl sc sl cl ct : Nat → Int32} {rw co sk ss sq : Int32} {oo : Nat → Int64} {mn me ml mt : Nat → Int32} {th wo mr mo mk mz mq : Int32} {t : Nat} {H : Heap} {locs : List Loc} {ls : Array Slot} (hc : lwC p l s m c dC dI cyI cyZ cyJ A b L xs) (ht : 5 * t + 5 ≤ L) (hP : va_P (dC, dI) vwCl (wL cyI cyZ cyJ q0 q1 q2 q3 q4 q5 q6 qo p0 p1 p2 p3 p4 wc wl sc sl cl ct rw co sk ss sq oo mn me ml mt th wo mr mo mk mz mq) H) (hD : va_D A (wL cyI cyZ cyJ q0 q1 q2 q3 q4 q5 q6 qo p0 p1 p2 p3 p4 wc wl sc sl cl ct rw co sk ss sq oo mn me ml mt th wo mr mo mk mz mq)) (hR : Rel wc wl sc sl cl ct rw co sk ss sq mn me ml mt wo mr mo mk mz mq) (hS : va_S A s.heap H locs) (hl : lv_has ls 7 [(4, .int (nI (5 * t))), (3, .ref qo), (2, .ref p0), (1, .ref q0), (0, .ref b)])
    (ih : ∀ (H : Heap) (locs : List Loc) (ls : Array Slot), lwI dC dI cyI cyZ cyJ A s b q0 q1 q2 q3 q4 q5 q6 qo p0 p1 p2 p3 p4 (t + 1) H locs ls → W p l e room_1 s m #[Value.ref b] below meth c H locs (13 + (t + 1)) (4603 + 6 * (t + 1)) Q (F0 m 23 ls [])) : W p l e room_1 s m #[Value.ref b] below meth c H locs (13 + t) (4603 + 6 * t) Q (F0 m 1152 ls []) := by
  have hc0 := hc
  obtain ⟨hx, hb, hml, hown, hts, hX, hbl, hbA, hA, hK, hz, hL, hst⟩ := hc
  have hKm := hK.sub (tys' := tyW cyI cyZ) [0, 1] rfl
  obtain ⟨x, ex⟩ : ∃ z, xs (5 * t + 1) = z := ⟨_, rfl⟩
  refine lv_aload_n hx hb dL_law_1152 rfl (lv_at hl 3 rfl) ?_
  refine lv_aload_n hx hb dL_law_1153 rfl (lv_at hl 4 rfl) ?_
  refine lv_iload hx hb dL_law_1154 (lv_at hl 0 rfl) ?_
  refine lv_iconst (v := nI 1) hx hb dL_law_1156 (by decide) ?_
  refine lv_iadd hx hb dL_law_1157 ?_
  rw [nI_add]
  refine va_sld hx hb hX hbl hbA hS (vp_in_nI (by omega) (by omega)) dL_law_1158 ?_
  rw [nI_clamp (show 5 * t + 1 < 2 ^ 31 by omega), ex]
  refine lv_aload_n hx hb dL_law_1159 rfl (lv_at hl 1 rfl) ?_
  have hPx := hP.sub (ws' := wXO cyI cyZ cyJ q0 q1 q2 q3 q4 q5 q6 qo wc wl sc sl cl ct rw co sk ss sq oo) [0, 1, 2, 3, 4, 5, 6, 7] rfl
  have hDs := hD.sub (ws' := wXO cyI cyZ cyJ q0 q1 q2 q3 q4 q5 q6 qo wc wl sc sl cl ct rw co sk ss sq oo) [0, 1, 2, 3, 4, 5, 6, 7] (by decide) rfl
  have hFc := va_free (wc := wXO cyI cyZ cyJ q0 q1 q2 q3 q4 q5 q6 qo wc wl sc sl cl ct rw co sk ss sq oo) hD hS hA [0, 1, 2, 3, 4, 5, 6, 7] rfl
  refine va_calli (vx_runSW (As := [.ref q0, .int x, .ref qo]) (rest := []) ⟨hx, hb, hml, hown, hts⟩ (k_L_sum l hst dC dI cyI cyZ cyJ _ q0 q1 q2 q3 q4 q5 q6 qo wc wl sc sl cl ct rw co sk ss sq oo hPx (hDs.weaken (fun _ _ _ _ => trivial)) x hR.hwl hR.hrw.1) (vx_cwSW 3 hts gL_law_L_sum rfl rfl rfl (by decide +kernel) ⟨Nat.le_of_ble_eq_true rfl, Nat.le_of_ble_eq_true rfl⟩) (pZ_S hK hz hS hFc) rfl rfl hl.1 rfl (lv_room (Nat.le_of_ble_eq_true rfl)) dL_law_1160 ⟨show 13 + t + 1 ≤ 1054 by omega, show 4603 + 6 * t + 6 ≤ 12897 by omega⟩) hS (fun q _ h => hFc q h) hFc (fun k u t9 H locs ht9 hvm hw hB hz1 hk1 hS => ?_)
  obtain ⟨oo9, rfl⟩ : ∃ z, z = u := ⟨_, rfl⟩
  have hw : (((x.toInt < 0 ∨ 4 < x.toInt)) ∧ k = 1 ∧ oo9 = oo) ∨ (k = 0 ∧ ∃ (rr : Int32) , ((x = 0 ∧ rr = wO wc wl 5) ∨ (x = 1 ∧ rr = nOff wl 5) ∨ (x = 2 ∧ rr = rw) ∨ (x = 3 ∧ rr = co) ∨ (x = 4 ∧ rr = (if rw = -1 then -1 else nCut ct rw.toNatClampNeg))) ∧ oo9 = vp_updL oo 0 rr.toInt64) := hw
  have hB : va_P (dC, dI) vwCl (wXO cyI cyZ cyJ q0 q1 q2 q3 q4 q5 q6 qo wc wl sc sl cl ct rw co sk ss sq oo9) t9.heap := hB
  rw [ht9] at hB
  obtain ⟨hP, hD⟩ := va_join (w1 := wXO cyI cyZ cyJ q0 q1 q2 q3 q4 q5 q6 qo wc wl sc sl cl ct rw co sk ss sq oo9) (wr := wM cyI cyZ p0 p1 p2 p3 p4 mn me ml mt th wo mr mo mk mz mq) hP hD [0, 1, 2, 3, 4, 5, 6, 7] [8, 9, 10, 11, 12] rfl rfl (by decide) (by decide) hk1 hFc hB (wO_D (hDs.self (sz := _)))
  have hP : va_P (dC, dI) vwCl (wL cyI cyZ cyJ q0 q1 q2 q3 q4 q5 q6 qo p0 p1 p2 p3 p4 wc wl sc sl cl ct rw co sk ss sq oo9 mn me ml mt th wo mr mo mk mz mq) H := hP.sub (ws' := wL cyI cyZ cyJ q0 q1 q2 q3 q4 q5 q6 qo p0 p1 p2 p3 p4 wc wl sc sl cl ct rw co sk ss sq oo9 mn me ml mt th wo mr mo mk mz mq) [5, 6, 7, 8, 9, 10, 11, 12, 0, 1, 2, 3, 4] rfl
  have hD : va_D A (wL cyI cyZ cyJ q0 q1 q2 q3 q4 q5 q6 qo p0 p1 p2 p3 p4 wc wl sc sl cl ct rw co sk ss sq oo9 mn me ml mt th wo mr mo mk mz mq) := hD.sub (ws' := wL cyI cyZ cyJ q0 q1 q2 q3 q4 q5 q6 qo p0 p1 p2 p3 p4 wc wl sc sl cl ct rw co sk ss sq oo9 mn me ml mt th wo mr mo mk mz mq) [5, 6, 7, 8, 9, 10, 11, 12, 0, 1, 2, 3, 4] (by decide) rfl
  clear hB hk1 hz1 hPx hDs hFc ht9 hvm
  refine lv_istore (lv' := [(5, .int k), (4, .int (nI (5 * t))), (3, .ref qo), (2, .ref p0), (1, .ref q0), (0, .ref b)]) hx hb dL_law_1163 hl (by decide) rfl (fun ls hl => ?_)
  refine lv_aload_n hx hb dL_law_1165 rfl (lv_at hl 3 rfl) ?_
  refine lv_aload_n hx hb dL_law_1166 rfl (lv_at hl 5 rfl) ?_
  refine lv_iload hx hb dL_law_1167 (lv_at hl 1 rfl) ?_
  refine lv_iconst (v := nI 1) hx hb dL_law_1169 (by decide) ?_
  refine lv_iadd hx hb dL_law_1170 ?_
  rw [nI_add]
  refine va_sld hx hb hX hbl hbA hS (vp_in_nI (by omega) (by omega)) dL_law_1171 ?_
  rw [nI_clamp (show 5 * t + 1 < 2 ^ 31 by omega), ex]
  have hPm := hP.sub (ws' := wM cyI cyZ p0 p1 p2 p3 p4 mn me ml mt th wo mr mo mk mz mq) [8, 9, 10, 11, 12] rfl
  have hDm := hD.sub (ws' := wM cyI cyZ p0 p1 p2 p3 p4 mn me ml mt th wo mr mo mk mz mq) [8, 9, 10, 11, 12] (by decide) rfl
  have hFm := va_free (wc := wM cyI cyZ p0 p1 p2 p3 p4 mn me ml mt th wo mr mo mk mz mq) hD hS hA [8, 9, 10, 11, 12] rfl
  refine va_calli (va_runV (As := [.int x]) (rest := []) ⟨hx, hb, hml, hown, hts⟩ (k_X1_sum l dC dI cyI cyZ _ p0 p1 p2 p3 p4 mn me ml mt th wo mr mo mk mz mq hPm (hDm.weaken (fun _ _ _ _ => trivial)) x hR.hmn hR.hrw.2.2.1) (cwV 1 hts gL_law_X1_sum rfl rfl rfl (by decide +kernel) ⟨Nat.le_of_ble_eq_true rfl, Nat.le_of_ble_eq_true rfl⟩) (pK_V hKm (va_recv hK hP (ci := 1) (q0 := 8) rfl rfl)) rfl rfl hl.1 rfl (lv_room (Nat.le_of_ble_eq_true rfl)) dL_law_1172 ⟨show 13 + t + 1 + 0 ≤ 1054 by omega, show 4603 + 6 * t + 6 + 0 ≤ 12897 by omega⟩) hS (fun q _ h => hFm q h) hFm (fun v9 u t9 H locs ht9 hvm hm hB hz1 hk1 hS => ?_)
  obtain ⟨th2, rfl⟩ : ∃ z, z = u := ⟨_, rfl⟩
  have hm : ((x.toInt < 0 ∨ 4 < x.toInt) ∧ th2 = 1) ∨ (th2 = 0 ∧ ((x = 0 ∧ v9 = wOm me mn 5) ∨ (x = 1 ∧ v9 = nOffM mn 5) ∨ (x = 2 ∧ v9 = (if wo = 0 then -1 else mr)) ∨ (x = 3 ∧ v9 = (if wo = 0 then -1 else mo)) ∨ (x = 4 ∧ v9 = (if wo = 0 then -1 else nCutM mt mr.toNatClampNeg)))) := hm
  have hB : va_P (dC, dI) vwCl (wM cyI cyZ p0 p1 p2 p3 p4 mn me ml mt th2 wo mr mo mk mz mq) t9.heap := hB
  rw [ht9] at hB
  obtain ⟨hP, hD⟩ := va_join (w1 := wM cyI cyZ p0 p1 p2 p3 p4 mn me ml mt th2 wo mr mo mk mz mq) (wr := wXO cyI cyZ cyJ q0 q1 q2 q3 q4 q5 q6 qo wc wl sc sl cl ct rw co sk ss sq oo9) hP hD [8, 9, 10, 11, 12] [0, 1, 2, 3, 4, 5, 6, 7] rfl rfl (by decide) (by decide) hk1 hFm hB (wM_D (hDm.self (sz := _)))
  have hP : va_P (dC, dI) vwCl (wL cyI cyZ cyJ q0 q1 q2 q3 q4 q5 q6 qo p0 p1 p2 p3 p4 wc wl sc sl cl ct rw co sk ss sq oo9 mn me ml mt th2 wo mr mo mk mz mq) H := hP
  have hD : va_D A (wL cyI cyZ cyJ q0 q1 q2 q3 q4 q5 q6 qo p0 p1 p2 p3 p4 wc wl sc sl cl ct rw co sk ss sq oo9 mn me ml mt th2 wo mr mo mk mz mq) := hD
  clear hB hk1 hz1 hPm hDm hFm ht9 hvm
  obtain ⟨e1, e2, hR⟩ := rel_sum hR hw hm
  clear hw hm
  refine lv_istore (lv' := [(6, .int v9), (5, .int k), (4, .int (nI (5 * t))), (3, .ref qo), (2, .ref p0), (1, .ref q0), (0, .ref b)]) hx hb dL_law_1175 hl (by decide) rfl (fun ls hl => ?_)
  refine lv_aload_n hx hb dL_law_1177 rfl (lv_at hl 4 rfl) ?_
  have hPm := hP.sub (ws' := wM cyI cyZ p0 p1 p2 p3 p4 mn me ml mt th2 wo mr mo mk mz mq) [8, 9, 10, 11, 12] rfl
  have hDm := hD.sub (ws' := wM cyI cyZ p0 p1 p2 p3 p4 mn me ml mt th2 wo mr mo mk mz mq) [8, 9, 10, 11, 12] (by decide) rfl
  refine gx_calli (va_runV (As := []) (rest := []) ⟨hx, hb, hml, hown, hts⟩ (k_X1_thrown l dC dI cyI cyZ _ p0 p1 p2 p3 p4 mn me ml mt th2 wo mr mo mk mz mq hPm (hDm.weaken (fun _ _ _ _ => trivial))) (cwV 0 hts gL_law_X1_thrown rfl rfl rfl (by decide +kernel) ⟨Nat.le_of_ble_eq_true rfl, Nat.le_of_ble_eq_true rfl⟩) (pK_V hKm (va_recv hK hP (ci := 1) (q0 := 8) rfl rfl)) rfl rfl hl.1 rfl (lv_room (Nat.le_of_ble_eq_true rfl)) dL_law_1178 ⟨show 13 + t + 1 + 0 + 0 ≤ 1054 by omega, show 4603 + 6 * t + 6 + 0 + 0 ≤ 12897 by omega⟩) (fun r9 hr9 => ?_)
  subst hr9
  refine lv_iload hx hb dL_law_1181 (lv_at hl 1 rfl) ?_
  refine lv_icmp_eq (tgt := 1188) hx hb dL_law_1183 (by decide) (fun _ => ?_) (fun c1 => absurd e1.symm c1)
  refine lv_iload hx hb dL_law_1188 (lv_at hl 1 rfl) ?_
  refine lv_if_ne (tgt := 1205) hx hb dL_law_1190 (by decide) (fun _ => ?_) (fun c2 => ?_)
  · refine lv_goto (tgt := 1208) hx hb dL_law_1205 (by decide) ?_
    exact lc_tail hc0 (by omega) (by omega) hP hD hR hS hl ih
  · skip
    refine lv_aload_n hx hb dL_law_1193 rfl (lv_at hl 3 rfl) ?_
    refine lv_iconst (v := nI 0) hx hb dL_law_1194 (by decide) ?_
    refine va_lald hx hb hK hP 7 2 rfl rfl (vp_in_nI (by omega) (by omega)) dL_law_1195 ?_
    rw [nI_clamp (show 0 < 2 ^ 31 by omega), e2 c2]
    refine lv_iload hx hb dL_law_1196 (lv_at hl 0 rfl) ?_
    refine lv_i2l hx hb dL_law_1198 rfl ?_
    refine W.lcmp hx hb dL_law_1199 ?_
    rw [lg_cmp_self]
    refine lv_if_eq (tgt := 1205) hx hb dL_law_1200 (by decide) (fun _ => ?_) (fun c3 => absurd rfl c3)
    refine lv_goto (tgt := 1208) hx hb dL_law_1205 (by decide) ?_
    exact lc_tail hc0 (by omega) (by omega) hP hD hR hS hl ih
