abbrev wX (cyI cyZ : ClassId) (q0 q1 q2 q3 q4 q5 q6 : Nat) (wc wl sc sl cl ct : Nat → Int32) (rw co sk ss sq : Int32) : va_W :=
  [(q0, .inr (0, [.ref q1, .ref q2, .ref q3, .ref q4, .ref q5, .ref q6, .int rw, .int co, .int sk, .int ss, .int sq])), (q1, .inl (cyI, 320, .inl wc)), (q2, .inl (cyI, 5, .inl wl)), (q3, .inl (cyI, 320, .inl sc)), (q4, .inl (cyI, 5, .inl sl)), (q5, .inl (cyI, 1600, .inl cl)), (q6, .inl (cyZ, 40, .inl ct))]
abbrev wM (cyI cyZ : ClassId) (p0 p1 p2 p3 p4 : Nat) (mn me ml mt : Nat → Int32) (th wo mr mo mk mz mq : Int32) : va_W :=
  [(p0, .inr (1, [.int th, .ref p1, .ref p2, .int wo, .int mr, .int mo, .ref p3, .ref p4, .int mk, .int mz, .int mq])), (p1, .inl (cyI, 10, .inl mn)), (p2, .inl (cyI, 640, .inl me)), (p3, .inl (cyI, 1600, .inl ml)), (p4, .inl (cyZ, 40, .inl mt))]
abbrev tyW (cyI cyZ : ClassId) : List (ClassId × FieldType) := [(cyI, .int), (cyZ, .boolean)]
/-- addresses alone decide whether cells are apart -/
theorem va_D.addr {A : Nat → Prop} {w w' : va_W} (h : va_D A w) (e : w.map (fun q => q.1) = w'.map (fun q => q.1)) : va_D A w' := by
  have key : ∀ (i : Nat) (p : Nat × va_E), w'[i]? = some p → ∃ q, w[i]? = some q ∧ q.1 = p.1 := by
    intro i p hp
    have h1 : (w'.map (fun q => q.1))[i]? = some p.1 := by rw [List.getElem?_map, hp]; rfl
    rw [← e, List.getElem?_map] at h1
    cases hw : w[i]? with
    | none => rw [hw] at h1; cases h1
    | some q => rw [hw] at h1; exact ⟨q, rfl, Option.some.inj h1⟩
  refine ⟨fun i j p q hp hq hpq => ?_, fun k q hq => ?_⟩
  · obtain ⟨p', h1, h2⟩ := key i p hp
    obtain ⟨q', h3, h4⟩ := key j q hq
    exact h.1 i j p' q' h1 h3 (by rw [h2, h4]; exact hpq)
  · obtain ⟨q', h3, h4⟩ := key k q hq
    rw [← h4]; exact h.2 k q' h3
/-- a world whose cells stand as they stood -/
theorem va_P.old {D : va_G} {cl : List vw_C} {w : va_W} {H H1 : Heap} (h : va_P D cl w H) (hk : ∀ q : Nat, q < H.size → H1[q]? = H[q]?) : va_P D cl w H1 := h.kept fun k q hq => hk q.1 ((h k q hq).lt)
/-! ends of methods that write nothing: the heap is the one that came (or, thrown, has one cell more) -/
def gx_Qi (post : Int32 → Prop) (H0 : Heap) : Array Value → State → Outcome → State → Prop := fun _ _ oc t => ∃ r : Int32, oc = .returned (some (.int r)) ∧ post r ∧ t.heap = H0
def gx_Qv (ok : Prop) (H0 : Heap) : Array Value → State → Outcome → State → Prop := fun _ _ oc t => oc = .returned none ∧ ok ∧ t.heap = H0
def gx_X (bad : String → Prop) (H0 : Heap) : String → State → State → Prop := fun E _ t => bad E ∧ H0.size ≤ t.heap.size ∧ ∀ q : Nat, q < H0.size → t.heap[q]? = H0[q]?
def gx_new (H0 : Heap) : Nat → Prop := fun q => H0.size ≤ q
section GX
variable {p : Program} {l : Launch} {e : Env} {R : Room} {s : State} {m : MethodId} {args : Array Value} {below : List Frame} {meth : Method} {c : Code} {H : Heap} {locs : List Loc} {cells slots : Nat} {Q : State → Prop}
variable {mc ms : Nat} {free : Addr → Prop} {A0 : Nat → Prop} {H0 : Heap} {a : Array Value} {pc : Nat} {ls : Array Slot} {st0 rest : List Value}
theorem gx_same {T T' : State} {locs' : List Loc} {cells' slots' : Nat} (X : Stand p l e R s m args below meth c T locs cells slots) (X' : Stand p l e R s m args below meth c T' locs' cells' slots') (h : T'.heap = T.heap) : Stand p l e R s m args below meth c T' locs cells slots := by
  have h1 := X.same
  have h2 := X'.same
  refine { X' with same := ?_ }
  obtain ⟨e1, e2, e3, e4, e5, e6⟩ := h1
  obtain ⟨f1, f2, f3, f4, f5, f6⟩ := h2
  have hh : (T'.setVm s.vm).heap = (T.setVm s.vm).heap := h
  exact ⟨f1, f2, by rw [hh]; exact e3, f4, by rw [hh]; exact e5, fun a c9 hc => by
    obtain ⟨c', g1, g2⟩ := e6 a c9 hc
    exact ⟨c', by rw [hh]; exact g1, g2⟩⟩
theorem gx_calli {post : Int32 → Prop} (hr : va_Run p l e R s m args below meth c H locs cells slots mc ms (F0 m pc ls st0) rest (gx_Qi post H a) free)
    (kk : ∀ r : Int32, post r → W p l e R s m args below meth c H locs cells slots Q (F0 m (pc + 3) ls (.int r :: rest))) : W p l e R s m args below meth c H locs cells slots Q (F0 m pc ls st0) := by
  intro T hT X
  obtain ⟨v, st₀, t, T', L, h0, X', hL, e1, e2, ⟨r, hv, hp, hh⟩, st⟩ := hr T hT X
  cases hv
  have hT' : T'.heap = T.heap := by rw [e1, hh, hT]
  obtain ⟨t2, a1, b1⟩ := kk r hp T' (by rw [hT', hT]) (gx_same X X' hT')
  exact ⟨t2, st t2 a1, b1⟩
theorem gx_callv {ok : Prop} {bad : String → Prop} (hr : vx_Run p l e R s m args below meth c H locs cells slots mc ms (F0 m pc ls st0) rest (gx_Qv ok H a) (gx_X bad H) free) (hS : va_S A0 H0 H locs) (hf : ∀ q, free q → A0 q)
    (kx : ∀ (E : String) (ce : Cell) (q9 : Addr) (H1 : Heap) (locs1 : List Loc), bad E → H.size ≤ H1.size → (∀ q : Nat, q < H.size → H1[q]? = H[q]?) → va_S A0 H0 H1 locs1 → H1[q9]? = some ce → ce.vm = .none → s.vm.findClass E = some ce.cls → vx_W p l e R s m args below meth c H1 locs1 (cells + mc) (slots + ms) Q (F0 m pc ls rest) q9)
    (kk : ok → W p l e R s m args below meth c H locs cells slots Q (F0 m (pc + 3) ls rest)) : W p l e R s m args below meth c H locs cells slots Q (F0 m pc ls st0) := by
  intro T hT X
  rcases hr T hT X with ⟨v, st₀, t, T', L, h0, X', hL, e1, e2, ⟨hv, hp, hh⟩, st⟩ | ⟨q, st₀, t, T', L, E, ce, h0, X', hL, e1, e2, ⟨hb, hz, hk⟩, hce, hcv, hcl, st⟩
  · cases hv
    have hT' : T'.heap = T.heap := by rw [e1, hh, hT]
    obtain ⟨t2, a1, b1⟩ := kk hp T' (by rw [hT', hT]) (gx_same X X' hT')
    exact ⟨t2, st t2 a1, b1⟩
  · obtain ⟨t2, a1, b1⟩ := kx E ce q T'.heap (locs ++ L) hb (by rw [e1]; exact hz) (fun q hq => by rw [e1]; exact hk q hq)
      ⟨Nat.le_trans hS.1 (by rw [e1]; exact hz), fun q h1 h2 => by rw [e1, hk q (Nat.lt_of_lt_of_le h1 hS.1)]; exact hS.2.1 q h1 h2, fun q hq => by
        rcases List.mem_append.mp hq with h | h
        · exact hS.2.2 q h
        · exact hf _ (hL q h)⟩ (by rw [e1]; exact hce) hcv hcl T' rfl X'
    exact ⟨t2, st.trans a1, b1⟩
/-- a call of a public method: it answers, or throws with all as it was -/
theorem gx_callx {S : Type} {post : Int32 → S → Prop} {B : S → State → Prop} {A1 : Nat → Prop} {bad : String → Prop} (hr : vx_Run p l e R s m args below meth c H locs cells slots mc ms (F0 m pc ls st0) rest (va_Qi post B A1 a) (gx_X bad H) free) (hS : va_S A0 H0 H locs) (hA : ∀ q, q < H.size → A1 q → A0 q) (hf : ∀ q, free q → A0 q)
    (kx : ∀ (E : String) (ce : Cell) (q9 : Addr) (H1 : Heap) (locs1 : List Loc), bad E → H.size ≤ H1.size → (∀ q : Nat, q < H.size → H1[q]? = H[q]?) → va_S A0 H0 H1 locs1 → H1[q9]? = some ce → ce.vm = .none → s.vm.findClass E = some ce.cls → vx_W p l e R s m args below meth c H1 locs1 (cells + mc) (slots + ms) Q (F0 m pc ls rest) q9)
    (kk : ∀ (r : Int32) (u : S) (t : State) (H1 : Heap) (locs1 : List Loc), t.heap = H1 → s.vm.Alike t.vm → post r u → B u t → H.size ≤ H1.size → (∀ q : Nat, q < H.size → ¬ A1 q → H1[q]? = H[q]?) → va_S A0 H0 H1 locs1 → W p l e R s m args below meth c H1 locs1 (cells + mc) (slots + ms) Q (F0 m (pc + 3) ls (.int r :: rest))) : W p l e R s m args below meth c H locs cells slots Q (F0 m pc ls st0) := by
  intro T hT X
  rcases hr T hT X with ⟨v, st₀, t, T', L, h0, X', hL, e1, e2, ⟨⟨r, u, hv, hp, hb⟩, hF⟩, st⟩ | ⟨q, st₀, t, T', L, E, ce, h0, X', hL, e1, e2, ⟨hb, hz, hk⟩, hce, hcv, hcl, st⟩
  · cases hv
    obtain ⟨k1, k2, k3⟩ := vx_keep h0 e1 hS hA hf hL hF
    obtain ⟨t2, a1, b1⟩ := kk r u t T'.heap (locs ++ L) e1.symm (by rw [← e2]; exact X'.warmed.alike) hp hb k1 k2 k3 T' rfl X'
    exact ⟨t2, st t2 a1, b1⟩
  · obtain ⟨t2, a1, b1⟩ := kx E ce q T'.heap (locs ++ L) hb (by rw [e1]; exact hz) (fun q hq => by rw [e1]; exact hk q hq)
      ⟨Nat.le_trans hS.1 (by rw [e1]; exact hz), fun q h1 h2 => by rw [e1, hk q (Nat.lt_of_lt_of_le h1 hS.1)]; exact hS.2.1 q h1 h2, fun q hq => by
        rcases List.mem_append.mp hq with h | h
        · exact hS.2.2 q h
        · exact hf _ (hL q h)⟩ (by rw [e1]; exact hce) hcv hcl T' rfl X'
    exact ⟨t2, st.trans a1, b1⟩
end GX
/-! what a throw needs of the start -/
abbrev zI (C : String) : MethodName := ⟨C, "<init>", "(Ljava/lang/String;)V"⟩
abbrev zN : List String := ["java/lang/RuntimeException", "java/lang/Exception"]
def zL : List (Nat × String) := [(57, "a reel has 0 to 64 cells"), (89, "a cloth has at most 40 rows and columns"), (92, "a cloth has no less than 0 rows and columns"), (95, "a colour is 0 to 65535"), (107, "a stop is asked for 0 to 2"), (131, "a sum is asked for 0 to 4"), (133, "there is no such sort"), (135, "there is no such how"), (137, "pulls are altered by how 0 and 1 alone"), (141, "pulls are altered by at most 800000"), (143, "lifts are altered by how 3, 4 and 5 alone"), (147, "the reel is off"), (152, "the reel has no such cell"), (155, "there is no cloth"), (157, "the cloth has no such row"), (159, "the row is cut"), (161, "the cloth has no such column")]
def zPr : List (String × String) := [("java/lang/IllegalArgumentException", "java/lang/IllegalStateException"), ("java/lang/IllegalArgumentException", "java/lang/IndexOutOfBoundsException"), ("java/lang/IllegalArgumentException", "java/lang/UnsupportedOperationException"), ("java/lang/IllegalStateException", "java/lang/IllegalArgumentException"), ("java/lang/IllegalStateException", "java/lang/IndexOutOfBoundsException"), ("java/lang/IllegalStateException", "java/lang/UnsupportedOperationException"), ("java/lang/IndexOutOfBoundsException", "java/lang/IllegalArgumentException"), ("java/lang/IndexOutOfBoundsException", "java/lang/IllegalStateException"), ("java/lang/IndexOutOfBoundsException", "java/lang/UnsupportedOperationException"), ("java/lang/UnsupportedOperationException", "java/lang/IllegalArgumentException"), ("java/lang/UnsupportedOperationException", "java/lang/IllegalStateException"), ("java/lang/UnsupportedOperationException", "java/lang/IndexOutOfBoundsException")]
def zW (U : State) : Prop := va_Nw (.castable "java/lang/IllegalArgumentException" "java/lang/IllegalArgumentException") U ∧ va_Nw (.castable "java/lang/IllegalStateException" "java/lang/IllegalStateException") U ∧ va_Nw (.castable "java/lang/IndexOutOfBoundsException" "java/lang/IndexOutOfBoundsException") U ∧ va_Nw (.castable "java/lang/UnsupportedOperationException" "java/lang/UnsupportedOperationException") U ∧ va_Nw (.declares (zI "java/lang/RuntimeException")) U ∧ va_Nw (.declares (zI "java/lang/Exception")) U ∧ va_Nw (.declares (zI "java/lang/Throwable")) U ∧ ∀ a b, (a, b) ∈ zPr → va_Nc a b U
def zT (A : Nat → Prop) (U : State) : Prop := vx_Zq Bundle.tN "UNASSIGNED_STACK" Bundle.steD A U U.heap ∧ vx_Zq Bundle.tN "SUPPRESSED_SENTINEL" Bundle.listD A U U.heap ∧ zW U ∧ ∀ k tx, (k, tx) ∈ zL → ∃ a, vk_R RX0 k tx a U
theorem zT.go {A A' : Nat → Prop} {s U : State} {H : Heap} {locs : List Loc} (hz : zT A s) (hS : va_S A s.heap H locs) (hAA : ∀ q, A' q → A q) (hU : U.heap = H) (hW : s.WarmedH U.vm) : zT A' U := by
  obtain ⟨h1, h2, ⟨w1, w2, w3, w4, w5, w6, w7, w8⟩, h4⟩ := hz
  refine ⟨?_, ?_, ⟨w1.warmC hW, w2.warmC hW, w3.warmC hW, w4.warmC hW, w5.warmD hW, w6.warmD hW, w7.warmD hW, fun a b h => (w8 a b h).moved hW.alike⟩, fun k tx h => ?_⟩
  · rw [hU]; exact (vx_Zq.moved hW.alike (h1.kept hS.2.1)).narrow hAA
  · rw [hU]; exact (vx_Zq.moved hW.alike (h2.kept hS.2.1)).narrow hAA
  · obtain ⟨a, ha⟩ := h4 k tx h
    exact ⟨a, ha.warm hW⟩
theorem zT.calling {A : Nat → Prop} {U : State} (h : zT A U) (g : JFrame) (mk : MethodId) (a : Array Value) : zT A (U.calling g mk a) := zT.go (s := U) (U := U.calling g mk a) (H := U.heap) (locs := []) h va_S.rf (fun _ h => h) rfl (State.WarmedH.refl U)
theorem zHatIA {A : Nat → Prop} {args : Array Value} {s : State} (hz : zT A s) (h1 : ∀ w ∈ (vx_atS RX0 59 "java/lang/IllegalArgumentException" zN).filter goodWord, w.before args s = true) : ∀ w ∈ vx_atS RX0 59 "java/lang/IllegalArgumentException" zN, w.before args s = true := by
  obtain ⟨-, -, ⟨w1, w2, w3, w4, w5, w6, w7, -⟩, -⟩ := hz
  exact vx_hat (B := [.castable "java/lang/IllegalArgumentException" "java/lang/IllegalArgumentException", .declares (zI "java/lang/RuntimeException"), .declares (zI "java/lang/Exception"), .declares (zI "java/lang/Throwable")]) h1 (by decide +kernel) (vx_c (va_Nw.use rfl w1) (vx_c (va_Nw.use rfl w5) (vx_c (va_Nw.use rfl w6) (vx_c (va_Nw.use rfl w7) vx_n))))
theorem zGdIA : ∀ w ∈ Cond.classLink RX0 55 "java/lang/IllegalArgumentException" :: Cond.initialized "java/lang/IllegalArgumentException" :: vx_atS RX0 59 "java/lang/IllegalArgumentException" zN, vx_ot w = true := by decide +kernel
theorem zHatUO {A : Nat → Prop} {args : Array Value} {s : State} (hz : zT A s) (h1 : ∀ w ∈ (vx_atS RX0 91 "java/lang/UnsupportedOperationException" zN).filter goodWord, w.before args s = true) : ∀ w ∈ vx_atS RX0 91 "java/lang/UnsupportedOperationException" zN, w.before args s = true := by
  obtain ⟨-, -, ⟨w1, w2, w3, w4, w5, w6, w7, -⟩, -⟩ := hz
  exact vx_hat (B := [.castable "java/lang/UnsupportedOperationException" "java/lang/UnsupportedOperationException", .declares (zI "java/lang/RuntimeException"), .declares (zI "java/lang/Exception"), .declares (zI "java/lang/Throwable")]) h1 (by decide +kernel) (vx_c (va_Nw.use rfl w4) (vx_c (va_Nw.use rfl w5) (vx_c (va_Nw.use rfl w6) (vx_c (va_Nw.use rfl w7) vx_n))))
theorem zGdUO : ∀ w ∈ Cond.classLink RX0 87 "java/lang/UnsupportedOperationException" :: Cond.initialized "java/lang/UnsupportedOperationException" :: vx_atS RX0 91 "java/lang/UnsupportedOperationException" zN, vx_ot w = true := by decide +kernel
theorem zHatIS {A : Nat → Prop} {args : Array Value} {s : State} (hz : zT A s) (h1 : ∀ w ∈ (vx_atS RX0 149 "java/lang/IllegalStateException" zN).filter goodWord, w.before args s = true) : ∀ w ∈ vx_atS RX0 149 "java/lang/IllegalStateException" zN, w.before args s = true := by
  obtain ⟨-, -, ⟨w1, w2, w3, w4, w5, w6, w7, -⟩, -⟩ := hz
  exact vx_hat (B := [.castable "java/lang/IllegalStateException" "java/lang/IllegalStateException", .declares (zI "java/lang/RuntimeException"), .declares (zI "java/lang/Exception"), .declares (zI "java/lang/Throwable")]) h1 (by decide +kernel) (vx_c (va_Nw.use rfl w2) (vx_c (va_Nw.use rfl w5) (vx_c (va_Nw.use rfl w6) (vx_c (va_Nw.use rfl w7) vx_n))))
theorem zGdIS : ∀ w ∈ Cond.classLink RX0 145 "java/lang/IllegalStateException" :: Cond.initialized "java/lang/IllegalStateException" :: vx_atS RX0 149 "java/lang/IllegalStateException" zN, vx_ot w = true := by decide +kernel
theorem zHatIO {A : Nat → Prop} {args : Array Value} {s : State} (hz : zT A s) (h1 : ∀ w ∈ (vx_atS RX0 154 "java/lang/IndexOutOfBoundsException" zN).filter goodWord, w.before args s = true) : ∀ w ∈ vx_atS RX0 154 "java/lang/IndexOutOfBoundsException" zN, w.before args s = true := by
  obtain ⟨-, -, ⟨w1, w2, w3, w4, w5, w6, w7, -⟩, -⟩ := hz
  exact vx_hat (B := [.castable "java/lang/IndexOutOfBoundsException" "java/lang/IndexOutOfBoundsException", .declares (zI "java/lang/RuntimeException"), .declares (zI "java/lang/Exception"), .declares (zI "java/lang/Throwable")]) h1 (by decide +kernel) (vx_c (va_Nw.use rfl w3) (vx_c (va_Nw.use rfl w5) (vx_c (va_Nw.use rfl w6) (vx_c (va_Nw.use rfl w7) vx_n))))
theorem zGdIO : ∀ w ∈ Cond.classLink RX0 150 "java/lang/IndexOutOfBoundsException" :: Cond.initialized "java/lang/IndexOutOfBoundsException" :: vx_atS RX0 154 "java/lang/IndexOutOfBoundsException" zN, vx_ot w = true := by decide +kernel
abbrev pK (dC : Nat → ClassId) (dI : Nat → Nat → Nat) (tys : List (ClassId × FieldType)) (H0 : Heap) : State → Prop := fun U => U.heap = H0 ∧ va_K (dC, dI) vwCl tys U
abbrev pZ (dC : Nat → ClassId) (dI : Nat → Nat → Nat) (tys : List (ClassId × FieldType)) (H0 : Heap) (A : Nat → Prop) : State → Prop := fun U => U.heap = H0 ∧ va_K (dC, dI) vwCl tys U ∧ zT A U
section PP
variable {dC : Nat → ClassId} {dI : Nat → Nat → Nat} {tys : List (ClassId × FieldType)} {s : State} {H : Heap} {As : List Value} {A A' : Nat → Prop} {locs : List Loc} {b : Addr} {C : String}
theorem pK_S (hK : va_K (dC, dI) vwCl tys s) : PreS s H (va_Pc As (pK dC dI tys H)) As := ⟨fun a U g mk q => ⟨q.1, q.2.1, va_K.moved (u := U) (U := U.calling g mk a) (Vm.Alike.refl U.vm) q.2.2⟩, fun U hU hW => ⟨rfl, hU, va_K.moved hW.alike hK⟩⟩
theorem pK_V (hK : va_K (dC, dI) vwCl tys s) (hr : ∃ cell : Cell, H[b]? = some cell ∧ cell.vm.isStatics = false ∧ s.vm.findClass C = some cell.cls) : PreV s H C b (va_Pc (.ref b :: As) (pK dC dI tys H)) As := ⟨pK_S (As := .ref b :: As) hK |>.1, hr, pK_S (As := .ref b :: As) hK |>.2⟩
theorem pZ_S (hK : va_K (dC, dI) vwCl tys s) (hz : zT A s) (hS : va_S A s.heap H locs) (hAA : ∀ q, A' q → A q) : PreS s H (va_Pc As (pZ dC dI tys H A')) As := ⟨fun a U g mk q => ⟨q.1, q.2.1, va_K.moved (u := U) (U := U.calling g mk a) (Vm.Alike.refl U.vm) q.2.2.1, q.2.2.2.calling g mk a⟩, fun U hU hW => ⟨rfl, hU, va_K.moved hW.alike hK, hz.go hS hAA hU hW⟩⟩
theorem pZ_V (hK : va_K (dC, dI) vwCl tys s) (hz : zT A s) (hS : va_S A s.heap H locs) (hAA : ∀ q, A' q → A q) (hr : ∃ cell : Cell, H[b]? = some cell ∧ cell.vm.isStatics = false ∧ s.vm.findClass C = some cell.cls) : PreV s H C b (va_Pc (.ref b :: As) (pZ dC dI tys H A')) As := ⟨pZ_S (As := .ref b :: As) hK hz hS hAA |>.1, hr, pZ_S (As := .ref b :: As) hK hz hS hAA |>.2⟩
end PP
/-- a loop of N turns: what holds at its head, turn by turn -/
theorem lpW {p : Program} {l : Launch} {e : Env} {R : Room} {s : State} {m : MethodId} {args : Array Value} {below : List Frame} {meth : Method} {c : Code} {cells slots : Nat} {Q : State → Prop} {pc : Nat} {st : List Value} (N : Nat) (I : Nat → Heap → List Loc → Array Slot → Prop)
    (step : ∀ i, i < N → ∀ (H : Heap) (locs : List Loc) (ls : Array Slot), I i H locs ls → (∀ (H : Heap) (locs : List Loc) (ls : Array Slot), I (i + 1) H locs ls → W p l e R s m args below meth c H locs cells slots Q (F0 m pc ls st)) → W p l e R s m args below meth c H locs cells slots Q (F0 m pc ls st))
    (last : ∀ (H : Heap) (locs : List Loc) (ls : Array Slot), I N H locs ls → W p l e R s m args below meth c H locs cells slots Q (F0 m pc ls st)) :
    ∀ (i : Nat), i ≤ N → ∀ {H : Heap} {locs : List Loc} {ls : Array Slot}, I i H locs ls → W p l e R s m args below meth c H locs cells slots Q (F0 m pc ls st) := by
  have key : ∀ (n i : Nat), i + n = N → ∀ (H : Heap) (locs : List Loc) (ls : Array Slot), I i H locs ls → W p l e R s m args below meth c H locs cells slots Q (F0 m pc ls st) := by
    intro n
    induction n with
    | zero =>
      intro i hi H locs ls h
      have : i = N := by omega
      subst this
      exact last H locs ls h
    | succ n ih =>
      intro i hi H locs ls h
      exact step i (by omega) H locs ls h (fun H locs ls h2 => ih (i + 1) (by omega) H locs ls h2)
  intro i hi H locs ls h
  exact key (N - i) i (by omega) H locs ls h
theorem wX_D {A : Nat → Prop} {cyI cyZ : ClassId} {q0 q1 q2 q3 q4 q5 q6 : Nat} {wc wl sc sl cl ct wc2 wl2 sc2 sl2 cl2 ct2 : Nat → Int32} {rw co sk ss sq rw2 co2 sk2 ss2 sq2 : Int32} (h : va_D A (wX cyI cyZ q0 q1 q2 q3 q4 q5 q6 wc wl sc sl cl ct rw co sk ss sq)) : va_D A (wX cyI cyZ q0 q1 q2 q3 q4 q5 q6 wc2 wl2 sc2 sl2 cl2 ct2 rw2 co2 sk2 ss2 sq2) := h.addr rfl
theorem wM_D {A : Nat → Prop} {cyI cyZ : ClassId} {p0 p1 p2 p3 p4 : Nat} {mn me ml mt mn2 me2 ml2 mt2 : Nat → Int32} {th wo mr mo ka kb kc th2 wo2 mr2 mo2 ka2 kb2 kc2 : Int32} (h : va_D A (wM cyI cyZ p0 p1 p2 p3 p4 mn me ml mt th wo mr mo ka kb kc)) : va_D A (wM cyI cyZ p0 p1 p2 p3 p4 mn2 me2 ml2 mt2 th2 wo2 mr2 mo2 ka2 kb2 kc2) := h.addr rfl
