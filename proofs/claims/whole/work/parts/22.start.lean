/-! THE CLAIM OUT OF ONE WALK OF THE LAW'S BODY. Your part is whole_start (and what it stands on); all else here is the same for every law, but numbers. -/
def R_law : String := "ReelLoomLaw"
def lw_P (b : Addr) (xs : List Int32) (args : Array Value) (s : State) : Prop := args = #[.ref b] ∧ s.IntsAt b xs ∧ xs.length ≤ 2560 ∧ (Jvm.Cond.and given_1 narrow_1).before args s = true
def lw_Q (_ : Array Value) (s : State) (o : Outcome) (t : State) : Prop := o = .returned (some (.int 1)) ∧ Framed s o t [] 1054 12897
def lw_Z (below : List Frame) (a : Array Value) (s : State) : State → Prop := fun t => ∃ o, t.status = .running ∧ Ended t below o ∧ lw_Q a s o t
/-- the law's own end, with 1 on the stack, nothing written that was there before, its room as the claim has it -/
theorem lw_ret {p : Program} {l : Launch} {e : Env} {s : State} {m : MethodId} {below : List Frame} {meth : Method} {c : Code} {b : Nat} (hx : p.tables.exec = Jvm.exec) (hb : c.code = code) (hr : meth.sig.returnType = ret) (hlocks : meth.locks = false) {pc : Nat} {H : Heap} {ls : Array Slot} (hdg : decode code pc = .ok (.ireturn, 1)) : W p l e room_1 s m #[Value.ref b] below meth c H [] 1054 12897 (lw_Z below #[Value.ref b] s) (F0 m pc ls [.int 1]) := by
  intro T hT X
  obtain ⟨fs, hret, hrun, hended, hW, hframe⟩ := X.leave (v := some (.int 1)) (hlocks := hlocks) (fun h => by rw [hr] at h; cases h)
  have hmeth' : T.vm.method? m = some meth := X.method'
  refine ⟨T.setFrames fs, ?_, .returned (some (.int 1)), hrun, hended, rfl, ⟨_, rfl⟩, hW, hframe⟩
  jvm_step X.here [X.here.top, hx, hb, hdg, hmeth', hr, ret, narrow_b1]
  (try refine ⟨rfl, ?_⟩); (try refine ⟨rfl, ?_⟩)
  first | (intro acts; rw [hret _ acts rfl rfl rfl]) | rw [hret _ _ rfl rfl rfl]
  exact Steps.refl _
/-- what holds at the law's entry: the machine, the code, the tables' words (any of lw_tbl by 'hts w (by decide +kernel)'), the script of L ints xs at the cell b, what the Statement gives of the start (any of its parts by flat_of_before) -/
def lw_At (p : Program) (s : State) (m : MethodId) (meth : Method) (c : Code) (b L : Nat) (xs : Nat → Int32) : Prop :=
  p.tables.exec = Jvm.exec ∧ c.code = code ∧ meth.sig.returnType = ret ∧ c.maxLocals = 7 ∧ s.vm.findClass R_law = some m.cls ∧ (∀ w ∈ lw_tbl, w.before #[Value.ref b] s = true) ∧ va_X b L xs s s.heap ∧ b < s.heap.size ∧ meth.locks = false ∧ (Jvm.Cond.and given_1 narrow_1).before #[Value.ref b] s = true
theorem z_strs : ∀ q ∈ zL, Cond.stringRef RX0 q.1 q.2 ∈ lw_tbl := by decide +kernel
theorem z_prs : ∀ q ∈ zPr, Cond.not (.castable q.1 q.2) ∈ flatC (Jvm.Cond.and given_1 narrow_1) := by decide +kernel
theorem zT_start {s : State} {b cur : Nat} (hts : ∀ w ∈ lw_tbl, w.before #[Value.ref b] s = true) (hgv : (Jvm.Cond.and given_1 narrow_1).before #[Value.ref b] s = true) (hcur : s.vm.findClass RX0 = some cur) : zT (fun q : Nat => s.heap.size ≤ q) s := by
  have hs := flat_of_before _ hgv
  have hA : ∀ a : Nat, a < s.heap.size → ¬ (fun q : Nat => s.heap.size ≤ q) a := fun a h => Nat.not_le.mpr h
  refine ⟨vx_Zqof (hts (.laysStatic Bundle.tN "UNASSIGNED_STACK" Bundle.steD) (by decide +kernel)) (hts (.initialized Bundle.tN) (by decide +kernel)) (hs (.isRef (.static Bundle.tN "UNASSIGNED_STACK" Bundle.steD)) (by decide +kernel)) hA, vx_Zqof (hts (.laysStatic Bundle.tN "SUPPRESSED_SENTINEL" Bundle.listD) (by decide +kernel)) (hts (.initialized Bundle.tN) (by decide +kernel)) (hs (.isRef (.static Bundle.tN "SUPPRESSED_SENTINEL" Bundle.listD)) (by decide +kernel)) hA, ⟨va_Nw.of rfl (hts (.castable "java/lang/IllegalArgumentException" "java/lang/IllegalArgumentException") (by decide +kernel)), va_Nw.of rfl (hts (.castable "java/lang/IllegalStateException" "java/lang/IllegalStateException") (by decide +kernel)), va_Nw.of rfl (hts (.castable "java/lang/IndexOutOfBoundsException" "java/lang/IndexOutOfBoundsException") (by decide +kernel)), va_Nw.of rfl (hts (.castable "java/lang/UnsupportedOperationException" "java/lang/UnsupportedOperationException") (by decide +kernel)), va_Nw.of rfl (hts (.declares (zI "java/lang/RuntimeException")) (by decide +kernel)), va_Nw.of rfl (hts (.declares (zI "java/lang/Exception")) (by decide +kernel)), va_Nw.of rfl (hts (.declares (zI "java/lang/Throwable")) (by decide +kernel)), fun a c h => va_Nc.of (hs _ (z_prs (a, c) h))⟩, fun k tx h => ?_⟩
  have h1 := hts _ (z_strs (k, tx) h)
  obtain ⟨-, -, -, a, -, -, -, -, -, hev⟩ := Cond.stringRef_spec hcur h1
  exact ⟨a, vk_R.of h1 hev⟩
theorem rel_start : Rel (fun _ => 0) (fa (fun _ => 0) (-1) 5) (fun _ => 0) (fa (fun _ => 0) (-1) 5) (fun _ => 0) (fun _ => 0) (-1) (-1) 0 0 0 (fa (fun _ => 0) (-1) 10) (fun _ => 0) (fun _ => 0) (fun _ => 0) 0 0 0 0 0 0 := by
  refine ⟨fun k i hk hi => ⟨rfl, rfl⟩, fun k hk => ⟨?_, ?_⟩, fun k hk => Or.inl ?_, fun k hk => Or.inl ?_, fun k hk => rfl, Or.inl ⟨rfl, rfl, rfl, rfl, rfl⟩, rfl, rfl, rfl⟩
  · rw [fa_v, fa_v, if_pos (by omega), if_pos hk]
  · rw [fa_v, fa_v, if_pos (by omega), if_pos hk]
  · rw [fa_v, if_pos hk]
  · rw [fa_v, if_pos hk]
set_option maxHeartbeats 4000000 in
set_option maxRecDepth 100000 in
theorem law_loop {p : Program} {l : Launch} {e : Env} {s : State} {m : MethodId} {below : List Frame} {meth : Method} {c : Code} {dC : Nat → ClassId} {dI : Nat → Nat → Nat} {cyI cyZ cyJ : ClassId} {b L : Nat} {xs : Nat → Int32} {q0 q1 q2 q3 q4 q5 q6 qo p0 p1 p2 p3 p4 : Nat} (hc : lwC p l s m c dC dI cyI cyZ cyJ (fun q : Nat => s.heap.size ≤ q) b L xs) (hr : meth.sig.returnType = ret) (hlocks : meth.locks = false) :
    ∀ (n t : Nat), t + n = L / 5 → ∀ (H : Heap) (locs : List Loc) (ls : Array Slot), lwI dC dI cyI cyZ cyJ (fun q : Nat => s.heap.size ≤ q) s b q0 q1 q2 q3 q4 q5 q6 qo p0 p1 p2 p3 p4 t H locs ls → W p l e room_1 s m #[Value.ref b] below meth c H locs (13 + t) (4603 + 6 * t) (lw_Z below #[Value.ref b] s) (F0 m 23 ls []) := by
  obtain ⟨hx, hb, hml, hown, hts, hX, hbl, hbA, hA, hK, hz, hL, hst⟩ := id hc
  intro n
  induction n with
  | zero =>
    intro t ht H locs ls hI
    obtain ⟨wc, wl, sc, sl, cl, ct, rw, co, sk, ss, sq, oo, mn, me, ml, mt, th, wo, mr, mo, mk0, mz, mq, hP, hD, hR, hS, hl⟩ := hI
    refine lv_iload hx hb dL_law_23 (lv_at hl 0 rfl) ?_
    refine lv_aload_n hx hb dL_law_25 rfl (lv_at hl 4 rfl) ?_
    refine va_slen hx hb hX hbl hbA hS dL_law_26 ?_
    refine lv_iconst (v := nI 5) hx hb dL_law_27 (by decide) ?_
    refine lv_isub hx hb dL_law_28 ?_
    have eL : Int32.ofNat L = nI L := rfl
    rw [eL]
    have c1 : nI L - nI 5 < nI (5 * t) := by
      by_cases h5 : 5 ≤ L
      · rw [pk_sub h5]; exact nI_lt (by omega) (by omega)
      · obtain rfl : t = 0 := by omega
        exact pk_sneg (by omega) (by omega)
    refine lv_icmp_gt (tgt := 1214) hx hb dL_law_29 (by decide) (fun _ => ?_) (fun c2 => absurd c1 c2)
    refine lv_iconst (v := 1) hx hb dL_law_1214 (by decide) ?_
    refine va_forget (fun q hq => hS.2.2 q hq) ?_
    refine W.widen (k := 1054) (n := 12897) (by omega) (by omega) ?_
    exact lw_ret hx hb hr hlocks dL_law_1215
  | succ n ih =>
    intro t ht H locs ls hI
    obtain ⟨wc, wl, sc, sl, cl, ct, rw, co, sk, ss, sq, oo, mn, me, ml, mt, th, wo, mr, mo, mk0, mz, mq, hP, hD, hR, hS, hl⟩ := hI
    refine lv_iload hx hb dL_law_23 (lv_at hl 0 rfl) ?_
    refine lv_aload_n hx hb dL_law_25 rfl (lv_at hl 4 rfl) ?_
    refine va_slen hx hb hX hbl hbA hS dL_law_26 ?_
    refine lv_iconst (v := nI 5) hx hb dL_law_27 (by decide) ?_
    refine lv_isub hx hb dL_law_28 ?_
    have eL : Int32.ofNat L = nI L := rfl
    rw [eL]
    have c1 : ¬ nI L - nI 5 < nI (5 * t) := by
      rw [pk_sub (show 5 ≤ L by omega)]; exact nI_nlt (by omega) (by omega)
    refine lv_icmp_gt (tgt := 1214) hx hb dL_law_29 (by decide) (fun c2 => absurd c2 c1) (fun _ => ?_)
    refine lv_aload_n hx hb dL_law_32 rfl (lv_at hl 4 rfl) ?_
    refine lv_iload hx hb dL_law_33 (lv_at hl 0 rfl) ?_
    refine va_sld hx hb hX hbl hbA hS (vp_in_nI (by omega) (by omega)) dL_law_35 ?_
    refine lv_bipush (v := 15) hx hb dL_law_36 (by decide) ?_
    refine lv_iand hx hb dL_law_38 ?_
    obtain ⟨j, hj, ej⟩ := and15 (xs (nI (5 * t)).toNatClampNeg)
    rw [ej]
    clear ej
    have ht5 : 5 * t + 5 ≤ L := by omega
    have ih := ih (t + 1) (by omega)
    match j, hj with
    | 0, _ =>
      refine lv_tableIn (off := 77) (tgt := 116) hx hb dL_law_39 (by decide +kernel) (by decide +kernel) (by decide +kernel) (by decide) ?_
      exact lc_mount hc ht5 hP hD hR hS hl ih
    | 1, _ =>
      refine lv_tableIn (off := 145) (tgt := 184) hx hb dL_law_39 (by decide +kernel) (by decide +kernel) (by decide +kernel) (by decide) ?_
      exact lc_off hc ht5 hP hD hR hS hl ih
    | 2, _ =>
      refine lv_tableIn (off := 201) (tgt := 240) hx hb dL_law_39 (by decide +kernel) (by decide +kernel) (by decide +kernel) (by decide) ?_
      exact lc_swap hc ht5 hP hD hR hS hl ih
    | 3, _ =>
      refine lv_tableIn (off := 257) (tgt := 296) hx hb dL_law_39 (by decide +kernel) (by decide +kernel) (by decide +kernel) (by decide) ?_
      exact lc_copy hc ht5 hP hD hR hS hl ih
    | 4, _ =>
      refine lv_tableIn (off := 313) (tgt := 352) hx hb dL_law_39 (by decide +kernel) (by decide +kernel) (by decide +kernel) (by decide) ?_
      exact lc_size hc ht5 hP hD hR hS hl ih
    | 5, _ =>
      refine lv_tableIn (off := 397) (tgt := 436) hx hb dL_law_39 (by decide +kernel) (by decide +kernel) (by decide +kernel) (by decide) ?_
      exact lc_get hc ht5 hP hD hR hS hl ih
    | 6, _ =>
      refine lv_tableIn (off := 465) (tgt := 504) hx hb dL_law_39 (by decide +kernel) (by decide +kernel) (by decide +kernel) (by decide) ?_
      exact lc_set hc ht5 hP hD hR hS hl ih
    | 7, _ =>
      refine lv_tableIn (off := 545) (tgt := 584) hx hb dL_law_39 (by decide +kernel) (by decide +kernel) (by decide +kernel) (by decide) ?_
      exact lc_alter hc ht5 hP hD hR hS hl ih
    | 8, _ =>
      refine lv_tableIn (off := 637) (tgt := 676) hx hb dL_law_39 (by decide +kernel) (by decide +kernel) (by decide +kernel) (by decide) ?_
      exact lc_weave hc ht5 hP hD hR hS hl ih
    | 9, _ =>
      refine lv_tableIn (off := 705) (tgt := 744) hx hb dL_law_39 (by decide +kernel) (by decide +kernel) (by decide +kernel) (by decide) ?_
      exact lc_pass hc ht5 hP hD hR hS hl ih
    | 10, _ =>
      refine lv_tableIn (off := 773) (tgt := 812) hx hb dL_law_39 (by decide +kernel) (by decide +kernel) (by decide +kernel) (by decide) ?_
      exact lc_stop hc ht5 hP hD hR hS hl ih
    | 11, _ =>
      refine lv_tableIn (off := 829) (tgt := 868) hx hb dL_law_39 (by decide +kernel) (by decide +kernel) (by decide +kernel) (by decide) ?_
      exact lc_cut hc ht5 hP hD hR hS hl ih
    | 12, _ =>
      refine lv_tableIn (off := 885) (tgt := 924) hx hb dL_law_39 (by decide +kernel) (by decide +kernel) (by decide +kernel) (by decide) ?_
      exact lc_cell hc ht5 hP hD hR hS hl ih
    | 13, _ =>
      refine lv_tableIn (off := 953) (tgt := 992) hx hb dL_law_39 (by decide +kernel) (by decide +kernel) (by decide +kernel) (by decide) ?_
      exact lc_dye hc ht5 hP hD hR hS hl ih
    | 14, _ =>
      refine lv_tableIn (off := 1045) (tgt := 1084) hx hb dL_law_39 (by decide +kernel) (by decide +kernel) (by decide +kernel) (by decide) ?_
      exact lc_seam hc ht5 hP hD hR hS hl ih
    | 15, _ =>
      refine lv_tableIn (off := 1113) (tgt := 1152) hx hb dL_law_39 (by decide +kernel) (by decide +kernel) (by decide +kernel) (by decide) ?_
      exact lc_sum hc ht5 hP hD hR hS hl ih
    | j + 16, hj => exact absurd hj (by omega)
set_option maxHeartbeats 4000000 in
set_option maxRecDepth 100000 in
/-- THE LAW, from its entry -/
theorem whole_start {p : Program} {e : Env} {s : State} {m : MethodId} {below : List Frame} {meth : Method} {c : Code} (l : Launch) (hst : l.stackTraces = false) {b L : Nat} {xs : Nat → Int32} (hL : L ≤ 2560) (C0 : lw_At p s m meth c b L xs) : W p l e room_1 s m #[Value.ref b] below meth c s.heap [] 0 0 (lw_Z below #[Value.ref b] s) (entryFrame m ([Value.ref b] : List Value).toArray 7) := by
  obtain ⟨hx, hb0, hr, hml, hown0, hts0, hX, hbl, hlocks, hgv⟩ := C0
  have hb : c.code = cL_law := hb0
  have hown : s.vm.findClass RL = some m.cls := hown0
  have hts : ∀ w ∈ wsL_law, w.before #[Value.ref b] s = true := fun w h => hts0 w (wsL_law_in w h)
  have hA : ∀ q : Nat, s.heap.size ≤ q → (fun q : Nat => s.heap.size ≤ q) q := fun _ h => h
  have hbA : ¬ (fun q : Nat => s.heap.size ≤ q) b := Nat.not_le.mpr hbl
  obtain ⟨c0, iS0, hKn0⟩ := u_known (C := RX0) (T := TX0) (N := 11) (n := 11) hts inlX0 (hts (.instantiable RX0 11) (by decide +kernel))
  obtain ⟨c1, iS1, hKn1⟩ := u_known (C := RX1) (T := TX1) (N := 11) (n := 11) hts inlX1 (hts (.instantiable RX1 11) (by decide +kernel))
  have hz : zT (fun q : Nat => s.heap.size ≤ q) s := zT_start hts0 hgv hKn0.2.1
  obtain ⟨dC, dI, hKc⟩ : ∃ (dC : Nat → ClassId) (dI : Nat → Nat → Nat), ∀ (k : Nat) (q : vw_C), vwCl[k]? = some q → u_Kn s q.1 q.2.1 q.2.2 (dC k) (dI k) := by
    refine ⟨fun k => if k = 0 then c0 else c1, fun k => if k = 0 then iS0 else iS1, ?_⟩
    intro k q hq
    match k, hq with
    | 0, hq => cases hq; exact hKn0
    | 1, hq => cases hq; exact hKn1
    | k + 2, hq => simp [vwCl] at hq
  obtain ⟨cyI, kI, coI, fI, gI, eI⟩ := Cond.arrayClass_spec (hts0 (.arrayClass .int) (by decide +kernel))
  obtain ⟨cyZ, kZ, coZ, fZ, gZ, eZ⟩ := Cond.arrayClass_spec (hts0 (.arrayClass .boolean) (by decide +kernel))
  obtain ⟨cyJ, kJ, coJ, fJ, gJ, eJ⟩ := Cond.arrayClass_spec (hts0 (.arrayClass .long) (by decide +kernel))
  have hK : va_K (dC, dI) vwCl (tyO cyI cyZ cyJ) s := by
    refine ⟨hKc, fun k q h => ?_⟩
    match k, h with
    | 0, h => cases h; exact ⟨fun n z => ⟨fun k h => (by cases h), kI, gI, coI, eI⟩, fI⟩
    | 1, h => cases h; exact ⟨fun n z => ⟨fun k h => (by cases h), kZ, gZ, coZ, eZ⟩, fZ⟩
    | 2, h => cases h; exact ⟨fun n z => ⟨fun k h => (by cases h), kJ, gJ, coJ, eJ⟩, fJ⟩
    | k + 3, h => simp at h
  have hKm := hK.sub (tys' := tyW cyI cyZ) [0, 1] rfl
  have hc : lwC p l s m c dC dI cyI cyZ cyJ (fun q : Nat => s.heap.size ≤ q) b L xs := ⟨hx, hb, hml, hown, hts, hX, hbl, hbA, hA, hK, hz, hL, hst⟩
  have hS : va_S (fun q : Nat => s.heap.size ≤ q) s.heap s.heap [] := va_S.rf
  have hP : va_P (dC, dI) vwCl [] s.heap := fun k q h => by simp at h
  have hD : va_D (fun q : Nat => s.heap.size ≤ q) [] := ⟨fun i j p q h => by simp at h, fun k q h => by simp at h⟩
  have hl := lv_entry ([.ref b]) (n := 7) (Nat.le_of_ble_eq_true rfl)
  rw [lg_entry_eq]
  generalize (lg_sl ([.ref b]) ++ List.replicate (7 - (lg_sl ([.ref b])).length) Slot.unset).toArray = ls at hl ⊢
  have hl : lv_has ls 7 [(0, .ref b)] := hl
  refine va_new (D := (dC, dI)) (ci := 0) (fs := [.null, .null, .null, .null, .null, .null, .int 0, .int 0, .int 0, .int 0, .int 0]) (C := RX0) (T := TX0) (N := 11) hx hb hts inlX0 tyX0 tyX0_ok hown (hts (.classLink RL 8 RX0) (by decide +kernel)) (hts (.instantiable RX0 11) (by decide +kernel)) (hts (.initialized RX0) (by decide +kernel)) hK hP hD hS hA rfl (fun j hj => by rcases (show j = 0 ∨ j = 1 ∨ j = 2 ∨ j = 3 ∨ j = 4 ∨ j = 5 ∨ j = 6 ∨ j = 7 ∨ j = 8 ∨ j = 9 ∨ j = 10 by omega) with rfl | rfl | rfl | rfl | rfl | rfl | rfl | rfl | rfl | rfl | rfl <;> rfl) (show 0 + 1 ≤ 1054 by omega) (show 0 + 11 ≤ 12897 by omega) dL_law_0 (fun q0 H hP hD hS => ?_)
  have hP : va_P (dC, dI) vwCl [(q0, .inr (0, [.null, .null, .null, .null, .null, .null, .int 0, .int 0, .int 0, .int 0, .int 0]))] H := hP
  have hD : va_D (fun q : Nat => s.heap.size ≤ q) [(q0, .inr (0, [.null, .null, .null, .null, .null, .null, .int 0, .int 0, .int 0, .int 0, .int 0]))] := hD
  refine lv_dup hx hb dL_law_3 rfl ?_
  have hFc := va_free (wc := [(q0, .inr (0, [.null, .null, .null, .null, .null, .null, .int 0, .int 0, .int 0, .int 0, .int 0]))]) hD hS hA [0] rfl
  refine va_callv (va_runI (As := []) (rest := [.ref q0]) ⟨hx, hb, hml, hown, hts⟩ (k_X0_init l dC dI cyI cyZ _ q0 hP (hD.weaken (fun _ _ _ _ => trivial))) (cwI 0 hts gL_law_X0_init rfl rfl rfl (hts (.initialized RX0) (by decide +kernel)) (hts (.methodLink RL 70 yX0_init) (by decide +kernel)) (hts (.instanceMethod yX0_init) (by decide +kernel)) rfl (by decide +kernel) ⟨Nat.le_of_ble_eq_true rfl, Nat.le_of_ble_eq_true rfl⟩) (pK_S hKm) rfl rfl hl.1 rfl (lv_room (Nat.le_of_ble_eq_true rfl)) dL_law_4 ⟨show 0 + 1 + 6 ≤ 1054 by omega, show 0 + 11 + 2290 ≤ 12897 by omega⟩) hS (fun q _ h => hFc q h) hFc (fun u t9 H locs ht9 hvm hw hB hz1 hk1 hS => ?_)
  obtain ⟨q1, q2, q3, q4, q5, q6⟩ := u
  obtain ⟨hP1, hD1⟩ := hB
  rw [ht9] at hP1
  obtain ⟨hP, hD⟩ := va_join (wr := []) (w1 := [(q0, .inr (0, [.ref q1, .ref q2, .ref q3, .ref q4, .ref q5, .ref q6, .int (-1), .int (-1), .int 0, .int 0, .int 0])), (q1, .inl (cyI, 320, .inl (fun _ => 0))), (q2, .inl (cyI, 5, .inl (fa (fun _ => 0) (-1) 5))), (q3, .inl (cyI, 320, .inl (fun _ => 0))), (q4, .inl (cyI, 5, .inl (fa (fun _ => 0) (-1) 5))), (q5, .inl (cyI, 1600, .inl (fun _ => 0))), (q6, .inl (cyZ, 40, .inl (fun _ => 0)))]) hP hD [0] [] rfl rfl (by decide) (by decide) hk1 hFc hP1 hD1
  have hP : va_P (dC, dI) vwCl [(q0, .inr (0, [.ref q1, .ref q2, .ref q3, .ref q4, .ref q5, .ref q6, .int (-1), .int (-1), .int 0, .int 0, .int 0])), (q1, .inl (cyI, 320, .inl (fun _ => 0))), (q2, .inl (cyI, 5, .inl (fa (fun _ => 0) (-1) 5))), (q3, .inl (cyI, 320, .inl (fun _ => 0))), (q4, .inl (cyI, 5, .inl (fa (fun _ => 0) (-1) 5))), (q5, .inl (cyI, 1600, .inl (fun _ => 0))), (q6, .inl (cyZ, 40, .inl (fun _ => 0)))] H := hP
  have hD : va_D (fun q : Nat => s.heap.size ≤ q) [(q0, .inr (0, [.ref q1, .ref q2, .ref q3, .ref q4, .ref q5, .ref q6, .int (-1), .int (-1), .int 0, .int 0, .int 0])), (q1, .inl (cyI, 320, .inl (fun _ => 0))), (q2, .inl (cyI, 5, .inl (fa (fun _ => 0) (-1) 5))), (q3, .inl (cyI, 320, .inl (fun _ => 0))), (q4, .inl (cyI, 5, .inl (fa (fun _ => 0) (-1) 5))), (q5, .inl (cyI, 1600, .inl (fun _ => 0))), (q6, .inl (cyZ, 40, .inl (fun _ => 0)))] := hD
  clear hP1 hD1 hk1 hz1 ht9 hvm hFc
  refine lv_astore_n (lv' := [(1, .ref q0), (0, .ref b)]) hx hb dL_law_7 rfl hl (by decide) rfl (fun ls hl => ?_)
  refine va_new (D := (dC, dI)) (ci := 1) (fs := [.int 0, .null, .null, .int 0, .int 0, .int 0, .null, .null, .int 0, .int 0, .int 0]) (C := RX1) (T := TX1) (N := 11) hx hb hts inlX1 tyX1 tyX1_ok hown (hts (.classLink RL 71 RX1) (by decide +kernel)) (hts (.instantiable RX1 11) (by decide +kernel)) (hts (.initialized RX1) (by decide +kernel)) hK hP hD hS hA rfl (fun j hj => by rcases (show j = 0 ∨ j = 1 ∨ j = 2 ∨ j = 3 ∨ j = 4 ∨ j = 5 ∨ j = 6 ∨ j = 7 ∨ j = 8 ∨ j = 9 ∨ j = 10 by omega) with rfl | rfl | rfl | rfl | rfl | rfl | rfl | rfl | rfl | rfl | rfl <;> rfl) (show 0 + 1 + 6 + 1 ≤ 1054 by omega) (show 0 + 11 + 2290 + 11 ≤ 12897 by omega) dL_law_8 (fun p0 H hP hD hS => ?_)
  have hP : va_P (dC, dI) vwCl ([(q0, .inr (0, [.ref q1, .ref q2, .ref q3, .ref q4, .ref q5, .ref q6, .int (-1), .int (-1), .int 0, .int 0, .int 0])), (q1, .inl (cyI, 320, .inl (fun _ => 0))), (q2, .inl (cyI, 5, .inl (fa (fun _ => 0) (-1) 5))), (q3, .inl (cyI, 320, .inl (fun _ => 0))), (q4, .inl (cyI, 5, .inl (fa (fun _ => 0) (-1) 5))), (q5, .inl (cyI, 1600, .inl (fun _ => 0))), (q6, .inl (cyZ, 40, .inl (fun _ => 0))), (p0, .inr (1, [.int 0, .null, .null, .int 0, .int 0, .int 0, .null, .null, .int 0, .int 0, .int 0]))]) H := hP
  have hD : va_D (fun q : Nat => s.heap.size ≤ q) ([(q0, .inr (0, [.ref q1, .ref q2, .ref q3, .ref q4, .ref q5, .ref q6, .int (-1), .int (-1), .int 0, .int 0, .int 0])), (q1, .inl (cyI, 320, .inl (fun _ => 0))), (q2, .inl (cyI, 5, .inl (fa (fun _ => 0) (-1) 5))), (q3, .inl (cyI, 320, .inl (fun _ => 0))), (q4, .inl (cyI, 5, .inl (fa (fun _ => 0) (-1) 5))), (q5, .inl (cyI, 1600, .inl (fun _ => 0))), (q6, .inl (cyZ, 40, .inl (fun _ => 0))), (p0, .inr (1, [.int 0, .null, .null, .int 0, .int 0, .int 0, .null, .null, .int 0, .int 0, .int 0]))]) := hD
  refine lv_dup hx hb dL_law_11 rfl ?_
  have hPc := hP.sub (ws' := [(p0, .inr (1, [.int 0, .null, .null, .int 0, .int 0, .int 0, .null, .null, .int 0, .int 0, .int 0]))]) [7] rfl
  have hDc := hD.sub (ws' := [(p0, .inr (1, [.int 0, .null, .null, .int 0, .int 0, .int 0, .null, .null, .int 0, .int 0, .int 0]))]) [7] (by decide) rfl
  have hFc := va_free (wc := [(p0, .inr (1, [.int 0, .null, .null, .int 0, .int 0, .int 0, .null, .null, .int 0, .int 0, .int 0]))]) hD hS hA [7] rfl
  refine va_callv (va_runI (As := []) (rest := [.ref p0]) ⟨hx, hb, hml, hown, hts⟩ (k_X1_init l dC dI cyI cyZ _ p0 hPc (hDc.weaken (fun _ _ _ _ => trivial))) (cwI 0 hts gL_law_X1_init rfl rfl rfl (hts (.initialized RX1) (by decide +kernel)) (hts (.methodLink RL 73 yX1_init) (by decide +kernel)) (hts (.instanceMethod yX1_init) (by decide +kernel)) rfl (by decide +kernel) ⟨Nat.le_of_ble_eq_true rfl, Nat.le_of_ble_eq_true rfl⟩) (pK_S hKm) rfl rfl hl.1 rfl (lv_room (Nat.le_of_ble_eq_true rfl)) dL_law_12 ⟨show 0 + 1 + 6 + 1 + 4 ≤ 1054 by omega, show 0 + 11 + 2290 + 11 + 2290 ≤ 12897 by omega⟩) hS (fun q _ h => hFc q h) hFc (fun u t9 H locs ht9 hvm hw hB hz1 hk1 hS => ?_)
  obtain ⟨p1, p2, p3, p4⟩ := u
  obtain ⟨hP1, hD1⟩ := hB
  rw [ht9] at hP1
  obtain ⟨hP, hD⟩ := va_join (wr := [(q0, .inr (0, [.ref q1, .ref q2, .ref q3, .ref q4, .ref q5, .ref q6, .int (-1), .int (-1), .int 0, .int 0, .int 0])), (q1, .inl (cyI, 320, .inl (fun _ => 0))), (q2, .inl (cyI, 5, .inl (fa (fun _ => 0) (-1) 5))), (q3, .inl (cyI, 320, .inl (fun _ => 0))), (q4, .inl (cyI, 5, .inl (fa (fun _ => 0) (-1) 5))), (q5, .inl (cyI, 1600, .inl (fun _ => 0))), (q6, .inl (cyZ, 40, .inl (fun _ => 0)))]) (w1 := [(p0, .inr (1, [.int 0, .ref p1, .ref p2, .int 0, .int 0, .int 0, .ref p3, .ref p4, .int 0, .int 0, .int 0])), (p1, .inl (cyI, 10, .inl (fa (fun _ => 0) (-1) 10))), (p2, .inl (cyI, 640, .inl (fun _ => 0))), (p3, .inl (cyI, 1600, .inl (fun _ => 0))), (p4, .inl (cyZ, 40, .inl (fun _ => 0)))]) hP hD [7] [0, 1, 2, 3, 4, 5, 6] rfl rfl (by decide) (by decide) hk1 hFc hP1 hD1
  have hP : va_P (dC, dI) vwCl ([(q0, .inr (0, [.ref q1, .ref q2, .ref q3, .ref q4, .ref q5, .ref q6, .int (-1), .int (-1), .int 0, .int 0, .int 0])), (q1, .inl (cyI, 320, .inl (fun _ => 0))), (q2, .inl (cyI, 5, .inl (fa (fun _ => 0) (-1) 5))), (q3, .inl (cyI, 320, .inl (fun _ => 0))), (q4, .inl (cyI, 5, .inl (fa (fun _ => 0) (-1) 5))), (q5, .inl (cyI, 1600, .inl (fun _ => 0))), (q6, .inl (cyZ, 40, .inl (fun _ => 0))), (p0, .inr (1, [.int 0, .ref p1, .ref p2, .int 0, .int 0, .int 0, .ref p3, .ref p4, .int 0, .int 0, .int 0])), (p1, .inl (cyI, 10, .inl (fa (fun _ => 0) (-1) 10))), (p2, .inl (cyI, 640, .inl (fun _ => 0))), (p3, .inl (cyI, 1600, .inl (fun _ => 0))), (p4, .inl (cyZ, 40, .inl (fun _ => 0)))]) H := hP
  have hD : va_D (fun q : Nat => s.heap.size ≤ q) ([(q0, .inr (0, [.ref q1, .ref q2, .ref q3, .ref q4, .ref q5, .ref q6, .int (-1), .int (-1), .int 0, .int 0, .int 0])), (q1, .inl (cyI, 320, .inl (fun _ => 0))), (q2, .inl (cyI, 5, .inl (fa (fun _ => 0) (-1) 5))), (q3, .inl (cyI, 320, .inl (fun _ => 0))), (q4, .inl (cyI, 5, .inl (fa (fun _ => 0) (-1) 5))), (q5, .inl (cyI, 1600, .inl (fun _ => 0))), (q6, .inl (cyZ, 40, .inl (fun _ => 0))), (p0, .inr (1, [.int 0, .ref p1, .ref p2, .int 0, .int 0, .int 0, .ref p3, .ref p4, .int 0, .int 0, .int 0])), (p1, .inl (cyI, 10, .inl (fa (fun _ => 0) (-1) 10))), (p2, .inl (cyI, 640, .inl (fun _ => 0))), (p3, .inl (cyI, 1600, .inl (fun _ => 0))), (p4, .inl (cyZ, 40, .inl (fun _ => 0)))]) := hD
  clear hP1 hD1 hk1 hz1 ht9 hvm hFc hPc hDc
  refine lv_astore_n (lv' := [(2, .ref p0), (1, .ref q0), (0, .ref b)]) hx hb dL_law_15 rfl hl (by decide) rfl (fun ls hl => ?_)
  refine lv_iconst (v := 1) hx hb dL_law_16 (by decide) ?_
  refine va_newa (D := (dC, dI)) (a0 := (1, .inr (.inl (fun _ => 0)))) (N' := 1) (ty := .long) (atype := .long) hx hb (hts0 (.arrayClass .long) (by decide +kernel)) rfl hK hP hD hS hA (fun _ => rfl) (by decide) (by decide) (by decide) (show 0 + 1 + 6 + 1 + 4 + 1 ≤ 1054 by omega) (show 0 + 11 + 2290 + 11 + 2290 + 1 ≤ 12897 by omega) dL_law_17 (fun qo cA H hK1 hP hD hS => ?_)
  obtain rfl : cyJ = cA := Option.some.inj ((show s.vm.findClass ("[" ++ FieldType.long.toString) = some cyJ from (hK1.2 2 _ rfl).2).symm.trans (hK1.2 3 _ rfl).2)
  clear hK1
  have hP : va_P (dC, dI) vwCl (wL cyI cyZ cyJ q0 q1 q2 q3 q4 q5 q6 qo p0 p1 p2 p3 p4 (fun _ => 0) (fa (fun _ => 0) (-1) 5) (fun _ => 0) (fa (fun _ => 0) (-1) 5) (fun _ => 0) (fun _ => 0) (-1) (-1) 0 0 0 (fun _ => 0) (fa (fun _ => 0) (-1) 10) (fun _ => 0) (fun _ => 0) (fun _ => 0) 0 0 0 0 0 0 0) H := hP.sub (ws' := wL cyI cyZ cyJ q0 q1 q2 q3 q4 q5 q6 qo p0 p1 p2 p3 p4 (fun _ => 0) (fa (fun _ => 0) (-1) 5) (fun _ => 0) (fa (fun _ => 0) (-1) 5) (fun _ => 0) (fun _ => 0) (-1) (-1) 0 0 0 (fun _ => 0) (fa (fun _ => 0) (-1) 10) (fun _ => 0) (fun _ => 0) (fun _ => 0) 0 0 0 0 0 0 0) [0, 1, 2, 3, 4, 5, 6, 12, 7, 8, 9, 10, 11] rfl
  have hD : va_D (fun q : Nat => s.heap.size ≤ q) (wL cyI cyZ cyJ q0 q1 q2 q3 q4 q5 q6 qo p0 p1 p2 p3 p4 (fun _ => 0) (fa (fun _ => 0) (-1) 5) (fun _ => 0) (fa (fun _ => 0) (-1) 5) (fun _ => 0) (fun _ => 0) (-1) (-1) 0 0 0 (fun _ => 0) (fa (fun _ => 0) (-1) 10) (fun _ => 0) (fun _ => 0) (fun _ => 0) 0 0 0 0 0 0 0) := hD.sub (ws' := wL cyI cyZ cyJ q0 q1 q2 q3 q4 q5 q6 qo p0 p1 p2 p3 p4 (fun _ => 0) (fa (fun _ => 0) (-1) 5) (fun _ => 0) (fa (fun _ => 0) (-1) 5) (fun _ => 0) (fun _ => 0) (-1) (-1) 0 0 0 (fun _ => 0) (fa (fun _ => 0) (-1) 10) (fun _ => 0) (fun _ => 0) (fun _ => 0) 0 0 0 0 0 0 0) [0, 1, 2, 3, 4, 5, 6, 12, 7, 8, 9, 10, 11] (by decide) rfl
  refine lv_astore_n (lv' := [(3, .ref qo), (2, .ref p0), (1, .ref q0), (0, .ref b)]) hx hb dL_law_19 rfl hl (by decide) rfl (fun ls hl => ?_)
  refine lv_iconst (v := nI (5 * 0)) hx hb dL_law_20 (by decide) ?_
  refine lv_istore (lv' := [(4, .int (nI (5 * 0))), (3, .ref qo), (2, .ref p0), (1, .ref q0), (0, .ref b)]) hx hb dL_law_21 hl (by decide) rfl (fun ls hl => ?_)
  refine W.widen (k := 13 + 0) (n := 4603 + 6 * 0) (by omega) (by omega) ?_
  exact law_loop hc hr hlocks (L / 5) 0 (by omega) _ _ _ ⟨_, _, _, _, _, _, _, _, _, _, _, _, _, _, _, _, _, _, _, _, _, _, _, hP, hD, rel_start, hS, hl⟩
set_option maxHeartbeats 4000000 in
theorem lw_walk (l : Launch) (hst : l.stackTraces = false) (b : Addr) (xs : List Int32) : MetFree l x (headSpec (Jvm.Cond.code x code maxLocals ret :: tables_1) room_1) (lw_P b xs) (fun _ _ _ _ _ => True) lw_Q := by
  refine MetFree.of_bodyS (code := code) (maxLocals := maxLocals) (ret := ret) (by decide) ?_ ?_
  · intro args s m h hn
    obtain ⟨meth, c, h1, h2, h3, h4, h5, h6, -, -⟩ := Cond.code_spec hn (atoms_spec (ws := Jvm.Cond.code x code maxLocals ret :: tables_1) h _ List.mem_cons_self)
    exact ⟨meth, c, h1, h2, h3, h4, h5, h6⟩
  · intro p e s m args below meth c s₁ B hml0 hP _
    obtain ⟨rfl, hx, hbd, hgv⟩ := hP
    obtain ⟨scr, harrAt, hlist, hof, hsmall⟩ := hx
    obtain ⟨hcb, hkn, -, -⟩ := State.arrayAt?_spec harrAt
    have hown : s.vm.findClass R_law = some m.cls := findClass_of_methodNamed B.named
    have hts0 : ∀ c ∈ (Jvm.Cond.code x code maxLocals ret :: tables_1), c.before #[Value.ref b] s = true := atoms_spec (ws := Jvm.Cond.code x code maxLocals ret :: tables_1) B.pre
    have hts : ∀ w ∈ lw_tbl, w.before #[Value.ref b] s = true := k2_hts_sels lw_privs (fun w hw => hts0 w (List.mem_cons_of_mem _ hw)) lw_privs_ok
    have hml : c.maxLocals = 7 := B.maxLocals_eq (hts0 _ List.mem_cons_self)
    have X₀ : Stand p l e room_1 s m #[Value.ref b] below meth c s₁ [] 0 0 := Stand.of_body B
    have hh0 : s₁.heap = s.heap := by rw [B.state]; rfl
    have hsz : scr.slots.size = xs.length := by rw [← Array.length_toList, hlist, List.length_map]
    have hval : ∀ j : Nat, j < xs.length → scr.slots[j]? = some (.int (xs.getD j 0)) := fun j hj => by
      rw [← Array.getElem?_toList, hlist]
      simp [hj]
    have hbl : b < s.heap.size := (Array.getElem?_eq_some_iff.mp hcb).1
    have hX : va_X b xs.length (fun j => xs.getD j 0) s s.heap := ⟨scr, hcb, hof, hkn, hsz, hval⟩
    have K : W p l e room_1 s m #[Value.ref b] below meth c s₁.heap [] 0 0 (lw_Z below #[Value.ref b] s) (entryFrame m ([Value.ref b] : List Value).toArray 7) := by
      rw [hh0]
      exact whole_start l hst hbd ⟨B.exec, B.bytes, B.returns, hml, hown, hts, hX, hbl, B.notSynchronized, hgv⟩
    obtain ⟨t, a1, o, b1, b2, b3⟩ := K s₁ rfl X₀
    exact ⟨t, o, a1, b1, b2, b3⟩
theorem lw_pre_spec {args : Array Value} {s : State} (h : (Jvm.Cond.and given_1 narrow_1).before args s = true) (hr : rest_1_c.before args s = true) : ∃ (b : Addr) (xs : List Int32), lw_P b xs args s := by
  have hs := flat_of_before _ h
  have hq := flat_of_before _ hr
  have hc : (Cond.count 1).before args s = true := hs _ (by decide +kernel)
  have harr : (Cond.arrayOf (.arg 0) .int).before args s = true := hs _ (by decide +kernel)
  have hle : (Cond.le (.length (.arg 0)) (.int 2560)).before args s = true := hs _ (by decide +kernel)
  have hlen : (Cond.isInt (.length (.arg 0))).before args s = true := hq _ (by decide +kernel)
  have hall : (Cond.all (.arg 0) (.isInt (.elem (.arg 0) (.index 0)))).before args s = true := hq _ (by decide +kernel)
  obtain ⟨b, xs, hb, hx⟩ := State.ints_of_pre rfl harr hlen hall
  have hsm : xs.length < 2 ^ 31 := hx.choose_spec.2.2.2
  have hev : (Term.length (.arg 0)).eval args s none [] s = some (.int xs.length.toInt32) := hx.length_eval hb
  have hv := Cond.le_ints hev (show (Term.int 2560).eval args s none [] s = some (.int 2560) from rfl)
  have hd : xs.length.toInt32 ≤ 2560 := by
    simpa [Cond.before, Cond.holds, hv] using hle
  have hN : xs.length ≤ 2560 := (Int32.ofNat_le_ofNat hsm (by decide)).mp (show Int32.ofNat xs.length ≤ Int32.ofNat 2560 from hd)
  exact ⟨b, xs, Cond.one_arg hc (show args[0]? = some (.ref b) from hb), hx, hN, h⟩
theorem lw_comes (l : Launch) (hst : l.stackTraces = false) : Comes l x (Jvm.Cond.code x code maxLocals ret :: tables_1) room_1 (fun tb e args s => Calls_1 tb e args s ∧ rest_1 tb e args s ∧ Pre_1 tb e args s)
    (fun _ _ args s o t => lw_Q args s o t) := by
  intro p e ha hc hk s m args below hf hfit hheap happ hpre
  obtain ⟨b, xs, hP⟩ := lw_pre_spec hpre.2.2 hpre.2.1
  obtain ⟨k, o, h1, h2, h3, hQ⟩ := lw_walk l hst b xs p e ha hc hk s m args below hf ((Spec.applies_iff_loose hf).mp happ).1 hP trivial
  exact ⟨k, o, h1, h2, h3, hQ⟩
theorem lw_frame {s t : State} {o : Outcome} {args : Array Value} (h : Framed s o t [] 1054 12897) :
    Framed s o t (fieldLocs frame_1_writes args s ++ arrayLocs frame_1_arrays args s ++ staticLocs frame_1_statics s) 1054 12897 := h
theorem lw_limb (L : Cond) (hL : ∀ (args : Array Value) (s t : State), L.after args s (.returned (some (.int 1))) t = true) :
    ArmFor flags0 classFile x code maxLocals ret World_1 tables_1 room_1 Calls_1 rest_1 Pre_1
      (fun tb e a s o t => postC L tb e a s o t ∧ Framed s o t (fieldLocs frame_1_writes a s ++ arrayLocs frame_1_arrays a s ++ staticLocs frame_1_statics s) 1054 12897) := by
  intro l hfl _ _ p e ha hc hk s m args below hf hfit hheap happ hpre
  have hst : l.stackTraces = false := by
    unfold Launch.stackTraces
    rw [hfl]
    decide +kernel
  obtain ⟨k, o, h1, h2, h3, rfl, hF⟩ := lw_comes l hst p e ha hc hk s m args below hf hfit hheap happ hpre
  exact ⟨k, _, h1, h2, h3, hL args s _, lw_frame hF⟩
theorem i_vc : Claimed_1_1 ∧ Claimed_1_2 := ⟨lw_limb limb_1_1 (fun args s t => by simp [limb_1_1, Cond.after, Cond.holds, Cond.value]), lw_limb limb_1_2 (fun args s t => Cond.after_iff.mpr (by
  first | (rw [show limb_1_2 = Cond.eq .result (.int 1) from rfl, Cond.eq_ints (x := 1) (y := 1) rfl rfl]; simp; done) | (simp [limb_1_2, Cond.value, Term.eval]; done)))⟩
