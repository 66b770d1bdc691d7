/-! how the class's cells and the reference's lie beside one another -/
def rC (wc sc me : Nat → Int32) : Prop := ∀ k i, k < 5 → i < 64 → me (64 * (2 * k) + i) = wc (k * 64 + i) ∧ me (64 * (2 * k) + (64 + i)) = sc (k * 64 + i)
def rL (wl sl mn : Nat → Int32) : Prop := ∀ k, k < 5 → mn (2 * k) = wl k ∧ mn (2 * k + 1) = sl k
def rB (wl : Nat → Int32) : Prop := ∀ k, k < 5 → wl k = -1 ∨ ∃ n : Nat, n ≤ 64 ∧ wl k = nI n
def rK (cl ml : Nat → Int32) : Prop := ∀ k, k < 1600 → ml k = cl k
def rW (ct : Nat → Int32) (rw co : Int32) (mt : Nat → Int32) (wo mr mo : Int32) : Prop := (wo = 0 ∧ rw = -1 ∧ co = -1 ∧ mr = 0 ∧ mo = 0) ∨ (wo = 1 ∧ ∃ a b : Nat, a ≤ 40 ∧ b ≤ 40 ∧ rw = nI a ∧ mr = nI a ∧ co = nI b ∧ mo = nI b ∧ ∀ k, k < a → mt k = ct k)
def Rel (wc wl sc sl cl ct : Nat → Int32) (rw co sk ss sq : Int32) (mn me ml mt : Nat → Int32) (wo mr mo mk mz mq : Int32) : Prop :=
  rC wc sc me ∧ rL wl sl mn ∧ rB wl ∧ rB sl ∧ rK cl ml ∧ rW ct rw co mt wo mr mo ∧ sk = mk ∧ ss = mz ∧ sq = mq
theorem nI_j {a b : Nat} (h : nI a = nI b) (ha : a < 100000 := by omega) (hb : b < 100000 := by omega) : a = b := (nI_eq (by omega) (by omega)).mp h
theorem nI_okS {a : Nat} (h : a < 5) : okS (nI a) := ⟨nI_pos (by omega), nI_lt h (by omega)⟩
theorem nI_m1 {a : Nat} (h : a < 100000) : ¬ nI a = -1 := fun q => absurd (nI_pos (n := a) (by omega)) (by rw [q]; decide)
theorem fl_v (f : Nat → Int32) (b : Nat) (x : Int32) (n j : Nat) : fl f b x n j = if b ≤ j ∧ j < b + n then x else f j := by
  induction n with
  | zero => rw [if_neg (by omega)]; rfl
  | succ n ih =>
    show upd (fl f b x n) (b + n) x j = _
    simp only [upd]
    by_cases e : j = b + n
    · rw [if_pos e, if_pos (by omega)]
    · rw [if_neg e, ih]
      by_cases e2 : b ≤ j ∧ j < b + n
      · rw [if_pos e2, if_pos (by omega)]
      · rw [if_neg e2, if_neg (by omega)]
theorem fa_v (f : Nat → Int32) (x : Int32) (n j : Nat) : fa f x n j = if j < n then x else f j := by
  induction n with
  | zero => rw [if_neg (by omega)]; rfl
  | succ n ih =>
    show upd (fa f x n) n x j = _
    simp only [upd]
    by_cases e : j = n
    · rw [if_pos e, if_pos (by omega)]
    · rw [if_neg e, ih]
      by_cases e2 : j < n
      · rw [if_pos e2, if_pos (by omega)]
      · rw [if_neg e2, if_neg (by omega)]
theorem swp_v (f g : Nat → Int32) (b n j : Nat) : (swp f g b n).1 j = (if b ≤ j ∧ j < b + n then g j else f j) ∧ (swp f g b n).2 j = (if b ≤ j ∧ j < b + n then f j else g j) := by
  induction n generalizing j with
  | zero => rw [if_neg (by omega), if_neg (by omega)]; exact ⟨rfl, rfl⟩
  | succ n ih =>
    show upd (swp f g b n).1 (b + n) ((swp f g b n).2 (b + n)) j = _ ∧ upd (swp f g b n).2 (b + n) ((swp f g b n).1 (b + n)) j = _
    simp only [upd]
    by_cases e : j = b + n
    · rw [if_pos e, if_pos e, if_pos (by omega), if_pos (by omega), (ih (b + n)).1, (ih (b + n)).2, if_neg (by omega), if_neg (by omega), e]; exact ⟨rfl, rfl⟩
    · rw [if_neg e, if_neg e, (ih j).1, (ih j).2]
      by_cases e2 : b ≤ j ∧ j < b + n
      · rw [if_pos e2, if_pos e2, if_pos (by omega), if_pos (by omega)]; exact ⟨rfl, rfl⟩
      · rw [if_neg e2, if_neg e2, if_neg (by omega), if_neg (by omega)]; exact ⟨rfl, rfl⟩
theorem swm_v (f : Nat → Int32) (b n : Nat) (hn : n ≤ 64) (j : Nat) : swm f b n j = if b ≤ j ∧ j < b + n then f (j + 64) else if b + 64 ≤ j ∧ j < b + 64 + n then f (j - 64) else f j := by
  induction n generalizing j with
  | zero => rw [if_neg (by omega), if_neg (by omega)]; rfl
  | succ n ih =>
    show upd (upd (swm f b n) (b + n) (swm f b n (b + (64 + n)))) (b + (64 + n)) (swm f b n (b + n)) j = _
    have i1 := ih (by omega) (b + (64 + n))
    have i2 := ih (by omega) (b + n)
    rw [if_neg (by omega), if_neg (by omega)] at i1 i2
    simp only [upd]
    by_cases e : j = b + (64 + n)
    · rw [if_pos e, if_neg (by omega), if_pos (by omega), i2, e]; congr 1; omega
    · rw [if_neg e]
      by_cases e1 : j = b + n
      · rw [if_pos e1, if_pos (by omega), i1, e1]; congr 1; omega
      · rw [if_neg e1, ih (by omega) j]
        by_cases e2 : b ≤ j ∧ j < b + n
        · rw [if_pos e2, if_pos (by omega)]
        · rw [if_neg e2]
          by_cases e3 : b + 64 ≤ j ∧ j < b + 64 + n
          · rw [if_pos e3, if_neg (by omega), if_pos (by omega)]
          · rw [if_neg e3, if_neg (by omega), if_neg (by omega)]
theorem cpn_v (f g : Nat → Int32) (b n j : Nat) : cpn f g b n j = if b ≤ j ∧ j < b + n then g j else f j := by
  induction n with
  | zero => rw [if_neg (by omega)]; rfl
  | succ n ih =>
    show upd (cpn f g b n) (b + n) (g (b + n)) j = _
    simp only [upd]
    by_cases e : j = b + n
    · rw [if_pos e, if_pos (by omega), e]
    · rw [if_neg e, ih]
      by_cases e2 : b ≤ j ∧ j < b + n
      · rw [if_pos e2, if_pos (by omega)]
      · rw [if_neg e2, if_neg (by omega)]
theorem cpm_v (f : Nat → Int32) (b n : Nat) (hn : n ≤ 64) (j : Nat) : cpm f b n j = if b + 64 ≤ j ∧ j < b + 64 + n then f (j - 64) else f j := by
  induction n generalizing j with
  | zero => rw [if_neg (by omega)]; rfl
  | succ n ih =>
    show upd (cpm f b n) (b + (64 + n)) (cpm f b n (b + n)) j = _
    have i2 := ih (by omega) (b + n)
    rw [if_neg (by omega)] at i2
    simp only [upd]
    by_cases e : j = b + (64 + n)
    · rw [if_pos e, if_pos (by omega), i2, e]; congr 1; omega
    · rw [if_neg e, ih (by omega) j]
      by_cases e3 : b + 64 ≤ j ∧ j < b + 64 + n
      · rw [if_pos e3, if_pos (by omega)]
      · rw [if_neg e3, if_neg (by omega)]
theorem rC_upd {wc sc me : Nat → Int32} (h : rC wc sc me) {so i : Nat} (hs : so < 5) (hi : i < 64) (v : Int32) : rC (upd wc (so * 64 + i) v) sc (upd me (64 * (2 * so) + i) v) := by
  intro k j hk hj
  have h := h k j hk hj
  simp only [upd]
  refine ⟨?_, ?_⟩
  · by_cases e : k * 64 + j = so * 64 + i
    · rw [if_pos e, if_pos (by omega)]
    · rw [if_neg e, if_neg (by omega)]; exact h.1
  · rw [if_neg (by omega)]; exact h.2
theorem rC_fl {wc sc me : Nat → Int32} (h : rC wc sc me) {so n : Nat} (hs : so < 5) (hn : n ≤ 64) (v : Int32) : rC (fl wc (so * 64) v n) sc (fl me (64 * (2 * so)) v n) := by
  intro k j hk hj
  have h := h k j hk hj
  rw [fl_v, fl_v, fl_v]
  refine ⟨?_, ?_⟩
  · by_cases e : so * 64 ≤ k * 64 + j ∧ k * 64 + j < so * 64 + n
    · rw [if_pos e, if_pos (by omega)]
    · rw [if_neg e, if_neg (by omega)]; exact h.1
  · rw [if_neg (by omega)]; exact h.2
theorem rC_sw {wc sc me : Nat → Int32} (h : rC wc sc me) {so : Nat} (hs : so < 5) : rC (swp wc sc (so * 64) 64).1 (swp wc sc (so * 64) 64).2 (swm me (64 * (2 * so)) 64) := by
  intro k j hk hj
  have h := h k j hk hj
  rw [(swp_v ..).1, (swp_v ..).2, swm_v _ _ _ (by omega), swm_v _ _ _ (by omega)]
  by_cases e : so = k
  · subst e
    rw [if_pos (by omega), if_pos (by omega), if_neg (by omega), if_pos (by omega), if_pos (by omega)]
    have e1 : 64 * (2 * so) + j + 64 = 64 * (2 * so) + (64 + j) := by omega
    have e2 : 64 * (2 * so) + (64 + j) - 64 = 64 * (2 * so) + j := by omega
    rw [e1, e2]; exact ⟨h.2, h.1⟩
  · rw [if_neg (by omega), if_neg (by omega), if_neg (by omega), if_neg (by omega), if_neg (by omega), if_neg (by omega)]; exact h
theorem rC_cp {wc sc me : Nat → Int32} (h : rC wc sc me) {so n : Nat} (hs : so < 5) (hn : n ≤ 64) : rC wc (cpn sc wc (so * 64) n) (cpm me (64 * (2 * so)) n) := by
  intro k j hk hj
  have h := h k j hk hj
  rw [cpn_v, cpm_v _ _ _ hn, cpm_v _ _ _ hn]
  by_cases e : so = k ∧ j < n
  · obtain ⟨rfl, e⟩ := e
    rw [if_neg (by omega), if_pos (by omega), if_pos (by omega)]
    have e2 : 64 * (2 * so) + (64 + j) - 64 = 64 * (2 * so) + j := by omega
    rw [e2]; exact ⟨h.1, h.1⟩
  · rw [if_neg (by omega), if_neg (by omega), if_neg (by omega)]; exact h
theorem rL_w {wl sl mn : Nat → Int32} (h : rL wl sl mn) {so : Nat} (hs : so < 5) (v : Int32) : rL (upd wl so v) sl (upd mn (2 * so) v) := by
  intro k hk
  have h := h k hk
  simp only [upd]
  refine ⟨?_, ?_⟩
  · by_cases e : k = so
    · rw [if_pos e, if_pos (by omega)]
    · rw [if_neg e, if_neg (by omega)]; exact h.1
  · rw [if_neg (by omega)]; exact h.2
theorem rL_s {wl sl mn : Nat → Int32} (h : rL wl sl mn) {so : Nat} (hs : so < 5) (v : Int32) : rL wl (upd sl so v) (upd mn (2 * so + 1) v) := by
  intro k hk
  have h := h k hk
  simp only [upd]
  refine ⟨?_, ?_⟩
  · rw [if_neg (by omega)]; exact h.1
  · by_cases e : k = so
    · rw [if_pos e, if_pos (by omega)]
    · rw [if_neg e, if_neg (by omega)]; exact h.2
theorem rB_upd {wl : Nat → Int32} (h : rB wl) (so : Nat) {v : Int32} (hv : v = -1 ∨ ∃ n : Nat, n ≤ 64 ∧ v = nI n) : rB (upd wl so v) := by
  intro k hk
  simp only [upd]
  by_cases e : k = so
  · rw [if_pos e]; exact hv
  · rw [if_neg e]; exact h k hk
theorem rK_upd {cl ml : Nat → Int32} (h : rK cl ml) (ro j : Nat) (v : Int32) : rK (upd cl (ro * 40 + j) v) (upd ml (40 * ro + j) v) := by
  intro k hk
  have h := h k hk
  have e0 : 40 * ro + j = ro * 40 + j := by omega
  simp only [upd, e0]
  by_cases e : k = ro * 40 + j
  · rw [if_pos e, if_pos e]
  · rw [if_neg e, if_neg e]; exact h
theorem rK_fa (cl ml : Nat → Int32) : rK (fa cl 0 1600) (fa ml 0 1600) := by
  intro k hk
  rw [fa_v, fa_v, if_pos hk, if_pos hk]
theorem Rel.hwl {wc wl sc sl cl ct : Nat → Int32} {rw co sk ss sq : Int32} {mn me ml mt : Nat → Int32} {wo mr mo mk mz mq : Int32} (h : Rel wc wl sc sl cl ct rw co sk ss sq mn me ml mt wo mr mo mk mz mq) : ∀ k, k < 5 → wl k = -1 ∨ ∃ n : Nat, n ≤ 64 ∧ wl k = nI n := h.2.2.1
theorem Rel.hmn {wc wl sc sl cl ct : Nat → Int32} {rw co sk ss sq : Int32} {mn me ml mt : Nat → Int32} {wo mr mo mk mz mq : Int32} (h : Rel wc wl sc sl cl ct rw co sk ss sq mn me ml mt wo mr mo mk mz mq) : ∀ k, k < 5 → mn (2 * k) = -1 ∨ ∃ n : Nat, n ≤ 64 ∧ mn (2 * k) = nI n := fun k hk => by rw [(h.2.1 k hk).1]; exact h.2.2.1 k hk
theorem Rel.hrw {wc wl sc sl cl ct : Nat → Int32} {rw co sk ss sq : Int32} {mn me ml mt : Nat → Int32} {wo mr mo mk mz mq : Int32} (h : Rel wc wl sc sl cl ct rw co sk ss sq mn me ml mt wo mr mo mk mz mq) : rw ≤ nI 40 ∧ co ≤ nI 40 ∧ mr ≤ nI 40 ∧ mo ≤ nI 40 := by
  rcases h.2.2.2.2.2.1 with ⟨-, rfl, rfl, rfl, rfl⟩ | ⟨-, a, b, ha, hb, rfl, rfl, rfl, rfl, -⟩
  · decide
  · exact ⟨nI_le ha (by omega), nI_le hb (by omega), nI_le ha (by omega), nI_le hb (by omega)⟩
theorem col_rel {wc wl sc sl cl ct me mn ml mt : Nat → Int32} (sk ss mq : Int32) {ro j : Nat} (v : Int32) (hC : rC wc sc me) (hL : rL wl sl mn) (hK : rK cl ml) (ht : mt ro = ct ro) (hj : j < 40) :
    ∃ (b : Bool) (wc2 cl2 me2 ml2 : Nat → Int32) (s1 s2 : Int32), pcol wc wl cl ct sk ss ro j v = (b, wc2, cl2, s1, s2) ∧ mcol me mn ml mt sk ss mq ro j v = (b, me2, ml2, s1, s2, if b = true then mq else nI j) ∧ rC wc2 sc me2 ∧ rK cl2 ml2 := by
  have l0 := (hL 0 (by omega)).1
  have l1 := (hL 1 (by omega)).1
  have l2 := (hL 2 (by omega)).1
  have l3 := (hL 3 (by omega)).1
  have l4 := (hL 4 (by omega)).1
  have e0 := (hC 0 j (by omega) (by omega)).1
  have e1 := (hC 1 j (by omega) (by omega)).1
  have e3 := (hC 3 j (by omega) (by omega)).1
  have st : ∀ k, k < 5 → stM mn k = stK wl k := fun k hk => by show (if mn (2 * k) = -1 then (1 : Int32) else 2) = if wl k = -1 then 1 else 2; rw [(hL k hk).1]
  have C1 := rC_upd hC (so := 1) (i := j) (by omega) (by omega) (ft 1 (wc (1 * 64 + j) + 1))
  have f2 := (C1 2 j (by omega) (by omega)).1
  have C2 := rC_upd C1 (so := 2) (i := j) (by omega) (by omega) (ft 2 (upd wc (1 * 64 + j) (ft 1 (wc (1 * 64 + j) + 1)) (2 * 64 + j) + 2))
  have f4 := (C2 4 j (by omega) (by omega)).1
  have C3 := rC_upd C1 (so := 2) (i := j) (by omega) (by omega) (ft 2 (upd wc (1 * 64 + j) (ft 1 (wc (1 * 64 + j) + 1)) (2 * 64 + j) + im1))
  unfold pcol mcol
  rw [st 0 (by omega), st 1 (by omega), st 2 (by omega), st 3 (by omega), st 4 (by omega), l0, l1, l2, l3, l4, e3, e0, e1, f2, f4, ht]
  by_cases c1 : nI j < wl 3
  · rw [if_neg (not_not_intro c1), if_neg (not_not_intro c1)]
    by_cases c2 : wc (3 * 64 + j) = 1 ∧ ¬ nI j < wl 0
    · rw [if_pos c2, if_pos c2]; exact ⟨_, _, _, _, _, _, _, rfl, rfl, hC, hK⟩
    · rw [if_neg c2, if_neg c2]
      by_cases c3 : ct ro = 0
      · rw [if_neg (not_not_intro c3), if_neg (not_not_intro c3)]
        by_cases c4 : nI j < wl 1
        · rw [if_neg (not_not_intro c4), if_neg (not_not_intro c4)]
          by_cases c5 : nI j < wl 2
          · rw [if_neg (not_not_intro c5), if_neg (not_not_intro c5)]
            by_cases c6 : wc (3 * 64 + j) = 1 ∧ ¬ nI j < wl 4
            · rw [if_pos c6, if_pos c6]; exact ⟨_, _, _, _, _, _, _, rfl, rfl, C2, rK_upd hK ro j _⟩
            · rw [if_neg c6, if_neg c6]
              by_cases c7 : wc (3 * 64 + j) = 1
              · rw [if_pos c7, if_pos c7]; exact ⟨_, _, _, _, _, _, _, rfl, rfl, rC_upd C2 (so := 4) (i := j) (by omega) (by omega) _, rK_upd hK ro j _⟩
              · rw [if_neg c7, if_neg c7]; exact ⟨_, _, _, _, _, _, _, rfl, rfl, C3, rK_upd hK ro j _⟩
          · rw [if_pos c5, if_pos c5]; exact ⟨_, _, _, _, _, _, _, rfl, rfl, C1, rK_upd hK ro j _⟩
        · rw [if_pos c4, if_pos c4]; exact ⟨_, _, _, _, _, _, _, rfl, rfl, hC, rK_upd hK ro j _⟩
      · rw [if_pos c3, if_pos c3]; exact ⟨_, _, _, _, _, _, _, rfl, rfl, hC, hK⟩
  · rw [if_pos c1, if_pos c1]; exact ⟨_, _, _, _, _, _, _, rfl, rfl, hC, hK⟩
theorem run_rel {wl sl ct mn mt sc : Nat → Int32} {ro : Nat} (v : Int32) (hL : rL wl sl mn) (ht : mt ro = ct ro) : ∀ (n j : Nat) (wc cl me ml : Nat → Int32) (sk ss mq : Int32), j + n ≤ 40 → rC wc sc me → rK cl ml → mq = nI (j + n) →
    ∃ (jj : Nat) (wc2 cl2 me2 ml2 : Nat → Int32) (s1 s2 : Int32), prun wl ct ro v n j wc cl sk ss = (jj, wc2, cl2, s1, s2) ∧ mrun mn mt ro v n j me ml sk ss mq = (jj, me2, ml2, s1, s2, nI jj) ∧ rC wc2 sc me2 ∧ rK cl2 ml2 := by
  intro n
  induction n with
  | zero => intro j wc cl me ml sk ss mq hn hC hK hq; subst hq; exact ⟨_, _, _, _, _, _, _, rfl, rfl, hC, hK⟩
  | succ n ih =>
    intro j wc cl me ml sk ss mq hn hC hK hq
    obtain ⟨b, wc2, cl2, me2, ml2, s1, s2, h1, h2, hC2, hK2⟩ := col_rel sk ss mq v hC hL hK ht (j := j) (by omega)
    cases b with
    | true =>
      obtain ⟨jj, wc3, cl3, me3, ml3, s3, s4, h3, h4, hC3, hK3⟩ := ih (j + 1) wc2 cl2 me2 ml2 s1 s2 mq (by omega) hC2 hK2 (by rw [hq]; congr 1; omega)
      refine ⟨jj, wc3, cl3, me3, ml3, s3, s4, ?_, ?_, hC3, hK3⟩
      · show (match pcol wc wl cl ct sk ss ro j v with | (true, wc2, cl2, sk2, ss2) => prun wl ct ro v n (j + 1) wc2 cl2 sk2 ss2 | (false, wc2, cl2, sk2, ss2) => (j, wc2, cl2, sk2, ss2)) = _
        rw [h1]; exact h3
      · show (match mcol me mn ml mt sk ss mq ro j v with | (true, me2, ml2, mk2, mz2, mq2) => mrun mn mt ro v n (j + 1) me2 ml2 mk2 mz2 mq2 | (false, me2, ml2, mk2, mz2, mq2) => (j, me2, ml2, mk2, mz2, mq2)) = _
        rw [h2]; exact h4
    | false =>
      refine ⟨j, wc2, cl2, me2, ml2, s1, s2, ?_, ?_, hC2, hK2⟩
      · show (match pcol wc wl cl ct sk ss ro j v with | (true, wc2, cl2, sk2, ss2) => prun wl ct ro v n (j + 1) wc2 cl2 sk2 ss2 | (false, wc2, cl2, sk2, ss2) => (j, wc2, cl2, sk2, ss2)) = _
        rw [h1]
      · show (match mcol me mn ml mt sk ss mq ro j v with | (true, me2, ml2, mk2, mz2, mq2) => mrun mn mt ro v n (j + 1) me2 ml2 mk2 mz2 mq2 | (false, me2, ml2, mk2, mz2, mq2) => (j, me2, ml2, mk2, mz2, mq2)) = _
        rw [h2]; rfl
theorem wI_rel {wc sc me : Nat → Int32} (h : rC wc sc me) {so : Nat} (hs : so < 5) (a : Int32) : ∀ n, n ≤ 64 → wIm me so a n = wI wc so a n := by
  intro n
  induction n with
  | zero => intro _; rfl
  | succ n ih => intro hn; show wIm me so a n + (nI so + 1) * me (64 * (2 * so) + n) = wI wc so a n + (nI so + 1) * wc (so * 64 + n); rw [ih (by omega), (h so n hs (by omega)).1]
theorem wO_rel {wc wl sc sl me mn : Nat → Int32} (h : rC wc sc me) (hL : rL wl sl mn) (hB : rB wl) : ∀ n, n ≤ 5 → wOm me mn n = wO wc wl n := by
  intro n
  induction n with
  | zero => intro _; rfl
  | succ n ih =>
    intro hn; show wIm me n (wOm me mn n) (mn (2 * n)).toNatClampNeg = wI wc n (wO wc wl n) (wl n).toNatClampNeg
    rw [ih (by omega), (hL n (by omega)).1]
    refine wI_rel h (by omega) _ _ ?_
    rcases hB n (by omega) with e | ⟨k, hk, e⟩
    · rw [e]; decide
    · rw [e, nI_clamp (by omega)]; exact hk
theorem ite_a1 (u w a : Int32) : a + (if u = w then 1 else 0) = if u = w then a + 1 else a := by
  by_cases h : u = w
  · rw [if_pos h, if_pos h]
  · rw [if_neg h, if_neg h]; exact Int32.add_zero a
theorem ite_a0 (u w a : Int32) : a + (if u = w then 0 else 1) = if u = w then a else a + 1 := by
  by_cases h : u = w
  · rw [if_pos h, if_pos h]; exact Int32.add_zero a
  · rw [if_neg h, if_neg h]
theorem nOff_rel {wl sl mn : Nat → Int32} (hL : rL wl sl mn) : ∀ n, n ≤ 5 → nOffM mn n = nOff wl n := by
  intro n
  induction n with
  | zero => intro _; rfl
  | succ n ih => intro hn; show nOffM mn n + (if mn (2 * n) = -1 then 1 else 0) = if wl n = -1 then nOff wl n + 1 else nOff wl n; rw [ite_a1, ih (by omega), (hL n (by omega)).1]
theorem nCut_rel {ct mt : Nat → Int32} : ∀ n, (∀ k, k < n → mt k = ct k) → nCutM mt n = nCut ct n := by
  intro n
  induction n with
  | zero => intro _; rfl
  | succ n ih => intro h; show nCutM mt n + (if mt n = 0 then 0 else 1) = if ct n = 0 then nCut ct n else nCut ct n + 1; rw [ite_a0, ih (fun k hk => h k (by omega)), h n (by omega)]
theorem nSame_rel {cl ml : Nat → Int32} (h : rK cl ml) {ra rb : Nat} (ha : ra < 40) (hb : rb < 40) : ∀ n, n ≤ 40 → nSameM ml ra rb n = nSame cl ra rb n := by
  intro n
  induction n with
  | zero => intro _; rfl
  | succ n ih =>
    intro hn; show nSameM ml ra rb n + (if ml (40 * ra + n) = ml (40 * rb + n) then 1 else 0) = if cl (ra * 40 + n) = cl (rb * 40 + n) then nSame cl ra rb n + 1 else nSame cl ra rb n
    rw [ite_a1, ih (by omega), h _ (by omega), h _ (by omega), Nat.mul_comm 40 ra, Nat.mul_comm 40 rb]
theorem rlk_rel {ct mt : Nat → Int32} {a : Nat} (ha : a ≤ 40) (h : ∀ k, k < a → mt k = ct k) (x : Int32) : rlk (nI a) mt x = rlk (nI a) ct x := by
  unfold rlk
  by_cases c : ¬ x < 0 ∧ x < nI a
  · rw [if_neg (not_not_intro c), if_neg (not_not_intro c)]
    obtain ⟨j, hj, rfl⟩ := nI_of c.1
    rw [nI_clamp hj, h j ((nI_ltI hj (by omega)).mp c.2)]
  · rw [if_pos c, if_pos c]
theorem lkC_rel {ct mt : Nat → Int32} {rw co wo mr mo : Int32} (h : rW ct rw co mt wo mr mo) (x y : Int32) : lkM wo mr mo mt x y = lkC rw co ct x y := by
  rcases h with ⟨rfl, rfl, rfl, rfl, rfl⟩ | ⟨rfl, a, b, ha, hb, rfl, rfl, rfl, rfl, ht⟩
  · unfold lkM lkC; rw [if_pos rfl, if_pos rfl]
  · unfold lkM lkC
    rw [if_neg (by decide), if_neg (nI_m1 (by omega))]
    by_cases c : ¬ x < 0 ∧ x < nI a
    · rw [if_neg (not_not_intro c), if_neg (not_not_intro c)]
      obtain ⟨j, hj, rfl⟩ := nI_of c.1
      rw [nI_clamp hj, ht j ((nI_ltI hj (by omega)).mp c.2)]
    · rw [if_pos c, if_pos c]
theorem lkS_rel {ct mt : Nat → Int32} {rw co wo mr mo : Int32} (h : rW ct rw co mt wo mr mo) (x y : Int32) : lkSM wo mr mt x y = lkS rw ct x y := by
  rcases h with ⟨rfl, rfl, rfl, rfl, rfl⟩ | ⟨rfl, a, b, ha, hb, rfl, rfl, rfl, rfl, ht⟩
  · unfold lkSM lkS; rw [if_pos rfl, if_pos rfl]
  · unfold lkSM lkS
    rw [if_neg (by decide), if_neg (nI_m1 (by omega)), rlk_rel ha ht, rlk_rel ha ht]
def cG (P : Nat → Prop) (wl : Nat → Int32) (x y k : Int32) (same : Prop) (ok : Nat → Nat → Prop) : Prop := ((¬ ∃ so : Nat, so < 5 ∧ x = nI so ∧ P so) ∧ k = 1 ∧ same) ∨ ∃ so : Nat, so < 5 ∧ x = nI so ∧ P so ∧ ((wl so = -1 ∧ k = 2 ∧ same) ∨ (¬ wl so = -1 ∧ ¬ (¬ y < 0 ∧ y < wl so) ∧ k = 3 ∧ same) ∨ (¬ wl so = -1 ∧ k = 0 ∧ ∃ i : Nat, i < 64 ∧ y = nI i ∧ nI i < wl so ∧ ok so i))
theorem cG_det {P : Nat → Prop} {wl : Nat → Int32} {x y k th : Int32} {S1 S2 : Prop} {ok1 ok2 : Nat → Nat → Prop} (h1 : cG P wl x y k S1 ok1) (h2 : cG P wl x y th S2 ok2) : k = th ∧ ((¬ k = 0 ∧ S1 ∧ S2) ∨ (k = 0 ∧ ∃ so i : Nat, so < 5 ∧ i < 64 ∧ ok1 so i ∧ ok2 so i)) := by
  rcases h1 with ⟨a1, rfl, s1⟩ | ⟨so, hs, hx, hp, h1⟩
  · rcases h2 with ⟨a2, rfl, s2⟩ | ⟨so2, hs2, hx2, hp2, h2⟩
    · exact ⟨rfl, Or.inl ⟨by decide, s1, s2⟩⟩
    · exact absurd ⟨so2, hs2, hx2, hp2⟩ a1
  · rcases h2 with ⟨a2, rfl, s2⟩ | ⟨so2, hs2, hx2, hp2, h2⟩
    · exact absurd ⟨so, hs, hx, hp⟩ a2
    · obtain rfl : so = so2 := nI_j (hx.symm.trans hx2)
      rcases h1 with ⟨o1, rfl, s1⟩ | ⟨o1, n1, rfl, s1⟩ | ⟨o1, rfl, i, hi, hy, hlt, k1⟩
      · rcases h2 with ⟨o2, rfl, s2⟩ | ⟨o2, n2, rfl, s2⟩ | ⟨o2, rfl, i2, hi2, hy2, hlt2, k2⟩
        · exact ⟨rfl, Or.inl ⟨by decide, s1, s2⟩⟩
        · exact absurd o1 o2
        · exact absurd o1 o2
      · rcases h2 with ⟨o2, rfl, s2⟩ | ⟨o2, n2, rfl, s2⟩ | ⟨o2, rfl, i2, hi2, hy2, hlt2, k2⟩
        · exact absurd o2 o1
        · exact ⟨rfl, Or.inl ⟨by decide, s1, s2⟩⟩
        · exact absurd ⟨by rw [hy2]; exact nI_pos (by omega), by rw [hy2]; exact hlt2⟩ n1
      · rcases h2 with ⟨o2, rfl, s2⟩ | ⟨o2, n2, rfl, s2⟩ | ⟨o2, rfl, i2, hi2, hy2, hlt2, k2⟩
        · exact absurd o2 o1
        · exact absurd ⟨by rw [hy]; exact nI_pos (by omega), by rw [hy]; exact hlt⟩ n2
        · obtain rfl : i = i2 := nI_j (hy.symm.trans hy2)
          exact ⟨rfl, Or.inr ⟨rfl, so, i, hs, hi, k1, k2⟩⟩
theorem mG_c {wl sl mn : Nat → Int32} {x y th2 : Int32} {same : Prop} {ok : Nat → Nat → Prop} (hL : rL wl sl mn) (h : mG mn x y th2 same ok) : cG (fun _ => True) wl x y th2 same ok := by
  rcases h with ⟨hn, a⟩ | ⟨so, hs, hx, h⟩
  · exact Or.inl ⟨fun ⟨so, hs, hx, _⟩ => hn (by rw [hx]; exact nI_okS hs), a⟩
  · rw [(hL so hs).1] at h; exact Or.inr ⟨so, hs, hx, trivial, h⟩
theorem mA_c {wl sl mn : Nat → Int32} {x y h v th2 : Int32} {same : Prop} {ok : Nat → Nat → Prop} (hL : rL wl sl mn) (q : mA mn x y h v th2 same ok) : cG (fun so => okA so h v) wl x y th2 same ok := by
  rcases q with ⟨hn, a⟩ | ⟨so, hs, hx, hp, h⟩
  · exact Or.inl ⟨hn, a⟩
  · rw [(hL so hs).1] at h; exact Or.inr ⟨so, hs, hx, hp, h⟩
theorem w40 {m n : Nat} (hm : m ≤ 40) (hn : n ≤ 40) : ¬ (nI 40 < nI m ∨ nI 40 < nI n) ∧ ¬ (nI m < 0 ∨ nI n < 0) :=
  ⟨fun q => q.elim (nI_nlt hm (by omega)) (nI_nlt hn (by omega)), fun q => q.elim (nI_pos (by omega)) (nI_pos (by omega))⟩
theorem rW_w {ct : Nat → Int32} {rw co : Int32} {mt : Nat → Int32} {wo mr mo : Int32} (h : rW ct rw co mt wo mr mo) : (rw = -1 ↔ wo = 0) ∧ (¬ rw = -1 → ∃ a b : Nat, a ≤ 40 ∧ b ≤ 40 ∧ rw = nI a ∧ mr = nI a ∧ co = nI b ∧ mo = nI b ∧ ∀ k, k < a → mt k = ct k) := by
  rcases h with ⟨rfl, rfl, rfl, rfl, rfl⟩ | ⟨rfl, a, b, ha, hb, h1, h2, h3, h4, ht⟩
  · exact ⟨⟨fun _ => rfl, fun _ => rfl⟩, fun h => absurd rfl h⟩
  · exact ⟨⟨fun q => absurd (h1.symm.trans q) (nI_m1 (by omega)), fun q => absurd q (by decide)⟩, fun _ => ⟨a, b, ha, hb, h1, h2, h3, h4, ht⟩⟩
theorem rW_v {ct : Nat → Int32} {rw co : Int32} {mt : Nat → Int32} {wo mr mo : Int32} (h : rW ct rw co mt wo mr mo) : (if wo = 0 then -1 else mr) = rw ∧ (if wo = 0 then -1 else mo) = co ∧ (if wo = 0 then -1 else nCutM mt mr.toNatClampNeg) = (if rw = -1 then -1 else nCut ct rw.toNatClampNeg) := by
  rcases h with ⟨rfl, rfl, rfl, rfl, rfl⟩ | ⟨rfl, a, b, ha, hb, rfl, rfl, rfl, rfl, ht⟩
  · exact ⟨rfl, rfl, by rw [if_pos rfl, if_pos rfl]⟩
  · refine ⟨if_neg (by decide), if_neg (by decide), ?_⟩
    rw [if_neg (by decide), if_neg (nI_m1 (by omega)), nI_clamp (by omega)]; exact nCut_rel a ht
theorem lkR_rel {ct mt : Nat → Int32} {rw co wo mr mo : Int32} (h : rW ct rw co mt wo mr mo) (x : Int32) : (if wo = 0 then 1 else rlk mr mt x) = lkR rw ct x := by
  rcases h with ⟨rfl, rfl, rfl, rfl, rfl⟩ | ⟨rfl, a, b, ha, hb, rfl, rfl, rfl, rfl, ht⟩
  · unfold lkR; rw [if_pos rfl, if_pos rfl]
  · unfold lkR; rw [if_neg (by decide), if_neg (nI_m1 (by omega)), rlk_rel ha ht]

theorem rel_mount {wc wl sc sl cl ct : Nat → Int32} {rw co sk ss sq : Int32} {mn me ml mt : Nat → Int32} {wo mr mo mk mz mq : Int32} {x y r b th2  : Int32} {oo oo9 : Nat → Int64} {wc9 wl9 mn2 me2 : Nat → Int32} (hR : Rel wc wl sc sl cl ct rw co sk ss sq mn me ml mt wo mr mo mk mz mq) (hw : ((¬ ((¬ x < 0 ∧ x < nI 5) ∧ ¬ y < 0 ∧ y ≤ nI 64)) ∧ r = 1 ∧ wc9 = wc ∧ wl9 = wl ∧ oo9 = oo) ∨ (r = 0 ∧ ∃ (rr : Int32) (so : Nat) (nn : Nat), (x = nI so ∧ so < 5 ∧ y = nI nn ∧ nn ≤ 64 ∧ rr = wl so) ∧ wc9 = fl wc (so * 64) 0 nn ∧ wl9 = upd wl so (nI nn) ∧ oo9 = vp_updL oo 0 rr.toInt64)) (hm : (¬ (okS x ∧ ¬ y < 0 ∧ y ≤ nI 64) ∧ th2 = 1 ∧ mn2 = mn ∧ me2 = me) ∨ (th2 = 0 ∧ ∃ so nn : Nat, so < 5 ∧ x = nI so ∧ nn ≤ 64 ∧ y = nI nn ∧ b = mn (2 * so) ∧ mn2 = upd mn (2 * so) (nI nn) ∧ me2 = fl me (64 * (2 * so)) 0 nn)) : r = th2 ∧ (r = 0 → oo9 0 = b.toInt64) ∧ Rel wc9 wl9 sc sl cl ct rw co sk ss sq mn2 me2 ml mt wo mr mo mk mz mq := by
  obtain ⟨hC, hL, hB, hB2, hK, hW, hS⟩ := hR
  rcases hw with ⟨hn, rfl, rfl, rfl, rfl⟩ | ⟨rfl, rr, so, nn, ⟨rfl, hso, rfl, hnn, rfl⟩, rfl, rfl, rfl⟩
  · rcases hm with ⟨hn2, rfl, rfl, rfl⟩ | ⟨rfl, so2, nn2, hso2, hx, hnn2, hy, rfl, rfl, rfl⟩
    · exact ⟨rfl, fun h => absurd h (by decide), hC, hL, hB, hB2, hK, hW, hS⟩
    · subst hx; subst hy; exact absurd ⟨nI_okS hso2, nI_pos (by omega), nI_le hnn2 (by omega)⟩ hn
  · rcases hm with ⟨hn2, rfl, rfl, rfl⟩ | ⟨rfl, so2, nn2, hso2, hx, hnn2, hy, rfl, rfl, rfl⟩
    · exact absurd ⟨nI_okS hso, nI_pos (by omega), nI_le hnn (by omega)⟩ hn2
    · obtain rfl := nI_j hx; obtain rfl := nI_j hy
      exact ⟨rfl, fun _ => by rw [pk_uLs, (hL so hso).1], rC_fl hC hso hnn 0, rL_w hL hso _, rB_upd hB so (Or.inr ⟨nn, hnn, rfl⟩), hB2, hK, hW, hS⟩
theorem rel_off {wc wl sc sl cl ct : Nat → Int32} {rw co sk ss sq : Int32} {mn me ml mt : Nat → Int32} {wo mr mo mk mz mq : Int32} {x r b th2  : Int32} {oo oo9 : Nat → Int64} {wl9 mn2 : Nat → Int32} (hR : Rel wc wl sc sl cl ct rw co sk ss sq mn me ml mt wo mr mo mk mz mq) (hw : ((¬ (¬ x < 0 ∧ x < nI 5)) ∧ r = 1 ∧ wl9 = wl ∧ oo9 = oo) ∨ ((∃ so : Nat, so < 5 ∧ x = nI so ∧ wl so = -1) ∧ r = 2 ∧ wl9 = wl ∧ oo9 = oo) ∨ (r = 0 ∧ ∃ (rr : Int32) (so : Nat), (x = nI so ∧ so < 5 ∧ ¬ wl so = -1 ∧ rr = wl so) ∧ wl9 = upd wl so (-1) ∧ oo9 = vp_updL oo 0 rr.toInt64)) (hm : (¬ okS x ∧ th2 = 1 ∧ mn2 = mn) ∨ ∃ so : Nat, so < 5 ∧ x = nI so ∧ ((mn (2 * so) = -1 ∧ th2 = 2 ∧ mn2 = mn) ∨ (¬ mn (2 * so) = -1 ∧ th2 = 0 ∧ b = mn (2 * so) ∧ mn2 = upd mn (2 * so) (-1)))) : r = th2 ∧ (r = 0 → oo9 0 = b.toInt64) ∧ Rel wc wl9 sc sl cl ct rw co sk ss sq mn2 me ml mt wo mr mo mk mz mq := by
  obtain ⟨hC, hL, hB, hB2, hK, hW, hS⟩ := hR
  rcases hw with ⟨hn, rfl, rfl, rfl⟩ | ⟨⟨so, hso, rfl, ho⟩, rfl, rfl, rfl⟩ | ⟨rfl, rr, so, ⟨rfl, hso, ho, rfl⟩, rfl, rfl⟩
  · rcases hm with ⟨hn2, rfl, rfl⟩ | ⟨so2, hso2, hx, -⟩
    · exact ⟨rfl, fun h => absurd h (by decide), hC, hL, hB, hB2, hK, hW, hS⟩
    · exact absurd (by rw [hx]; exact nI_okS hso2) hn
  · rcases hm with ⟨hn2, rfl, rfl⟩ | ⟨so2, hso2, hx, ⟨ho2, rfl, rfl⟩ | ⟨ho2, rfl, rfl, rfl⟩⟩
    · exact absurd (nI_okS hso) hn2
    · exact ⟨rfl, fun h => absurd h (by decide), hC, hL, hB, hB2, hK, hW, hS⟩
    · obtain rfl := nI_j hx; exact absurd ((hL so hso).1.trans ho) ho2
  · rcases hm with ⟨hn2, rfl, rfl⟩ | ⟨so2, hso2, hx, ⟨ho2, rfl, rfl⟩ | ⟨ho2, rfl, rfl, rfl⟩⟩
    · exact absurd (nI_okS hso) hn2
    · obtain rfl := nI_j hx; exact absurd ((hL so hso).1.symm.trans ho2) ho
    · obtain rfl := nI_j hx
      exact ⟨rfl, fun _ => by rw [pk_uLs, (hL so hso).1], hC, rL_w hL hso _, rB_upd hB so (Or.inl rfl), hB2, hK, hW, hS⟩
theorem rel_swap {wc wl sc sl cl ct : Nat → Int32} {rw co sk ss sq : Int32} {mn me ml mt : Nat → Int32} {wo mr mo mk mz mq : Int32} {x r b th2  : Int32} {oo oo9 : Nat → Int64} {wc9 sc9 wl9 sl9 mn2 me2 : Nat → Int32} (hR : Rel wc wl sc sl cl ct rw co sk ss sq mn me ml mt wo mr mo mk mz mq) (hw : ((¬ (¬ x < 0 ∧ x < nI 5)) ∧ r = 1 ∧ wc9 = wc ∧ sc9 = sc ∧ wl9 = wl ∧ sl9 = sl ∧ oo9 = oo) ∨ (r = 0 ∧ ∃ (rr : Int32) (so : Nat), (x = nI so ∧ so < 5 ∧ rr = sl so) ∧ wc9 = (swp wc sc (so * 64) 64).1 ∧ sc9 = (swp wc sc (so * 64) 64).2 ∧ wl9 = upd wl so (sl so) ∧ sl9 = upd sl so (wl so) ∧ oo9 = vp_updL oo 0 rr.toInt64)) (hm : (¬ okS x ∧ th2 = 1 ∧ mn2 = mn ∧ me2 = me) ∨ ∃ so : Nat, so < 5 ∧ x = nI so ∧ th2 = 0 ∧ b = mn (2 * so + 1) ∧ mn2 = upd (upd mn (2 * so) (mn (2 * so + 1))) (2 * so + 1) (mn (2 * so)) ∧ me2 = swm me (64 * (2 * so)) 64) : r = th2 ∧ (r = 0 → oo9 0 = b.toInt64) ∧ Rel wc9 wl9 sc9 sl9 cl ct rw co sk ss sq mn2 me2 ml mt wo mr mo mk mz mq := by
  obtain ⟨hC, hL, hB, hB2, hK, hW, hS⟩ := hR
  rcases hw with ⟨hn, rfl, rfl, rfl, rfl, rfl, rfl⟩ | ⟨rfl, rr, so, ⟨rfl, hso, rfl⟩, rfl, rfl, rfl, rfl, rfl⟩
  · rcases hm with ⟨hn2, rfl, rfl, rfl⟩ | ⟨so2, hso2, hx, -⟩
    · exact ⟨rfl, fun h => absurd h (by decide), hC, hL, hB, hB2, hK, hW, hS⟩
    · exact absurd (by rw [hx]; exact nI_okS hso2) hn
  · rcases hm with ⟨hn2, rfl, rfl, rfl⟩ | ⟨so2, hso2, hx, rfl, rfl, rfl, rfl⟩
    · exact absurd (nI_okS hso) hn2
    · obtain rfl := nI_j hx
      refine ⟨rfl, fun _ => by rw [pk_uLs, (hL so hso).2], rC_sw hC hso, ?_, rB_upd hB so (hB2 so hso), rB_upd hB2 so (hB so hso), hK, hW, hS⟩
      rw [(hL so hso).1, (hL so hso).2]; exact rL_s (rL_w hL hso _) hso _
theorem rel_copy {wc wl sc sl cl ct : Nat → Int32} {rw co sk ss sq : Int32} {mn me ml mt : Nat → Int32} {wo mr mo mk mz mq : Int32} {x r b th2  : Int32} {oo oo9 : Nat → Int64} {sc9 sl9 mn2 me2 : Nat → Int32} (hR : Rel wc wl sc sl cl ct rw co sk ss sq mn me ml mt wo mr mo mk mz mq) (hw : ((¬ (¬ x < 0 ∧ x < nI 5)) ∧ r = 1 ∧ sc9 = sc ∧ sl9 = sl ∧ oo9 = oo) ∨ ((∃ so : Nat, so < 5 ∧ x = nI so ∧ wl so = -1) ∧ r = 2 ∧ sc9 = sc ∧ sl9 = sl ∧ oo9 = oo) ∨ (r = 0 ∧ ∃ (rr : Int32) (so : Nat) (nn : Nat), (x = nI so ∧ so < 5 ∧ nn ≤ 64 ∧ wl so = nI nn ∧ rr = nI nn) ∧ sc9 = cpn sc wc (so * 64) nn ∧ sl9 = upd sl so (nI nn) ∧ oo9 = vp_updL oo 0 rr.toInt64)) (hm : (¬ okS x ∧ th2 = 1 ∧ mn2 = mn ∧ me2 = me) ∨ ∃ so : Nat, so < 5 ∧ x = nI so ∧ ((mn (2 * so) = -1 ∧ th2 = 2 ∧ mn2 = mn ∧ me2 = me) ∨ (th2 = 0 ∧ ∃ nn : Nat, nn ≤ 64 ∧ mn (2 * so) = nI nn ∧ b = nI nn ∧ mn2 = upd mn (2 * so + 1) (nI nn) ∧ me2 = cpm me (64 * (2 * so)) nn))) : r = th2 ∧ (r = 0 → oo9 0 = b.toInt64) ∧ Rel wc wl sc9 sl9 cl ct rw co sk ss sq mn2 me2 ml mt wo mr mo mk mz mq := by
  obtain ⟨hC, hL, hB, hB2, hK, hW, hS⟩ := hR
  rcases hw with ⟨hn, rfl, rfl, rfl, rfl⟩ | ⟨⟨so, hso, rfl, ho⟩, rfl, rfl, rfl, rfl⟩ | ⟨rfl, rr, so, nn, ⟨rfl, hso, hnn, ho, rfl⟩, rfl, rfl, rfl⟩
  · rcases hm with ⟨hn2, rfl, rfl, rfl⟩ | ⟨so2, hso2, hx, -⟩
    · exact ⟨rfl, fun h => absurd h (by decide), hC, hL, hB, hB2, hK, hW, hS⟩
    · exact absurd (by rw [hx]; exact nI_okS hso2) hn
  · rcases hm with ⟨hn2, rfl, rfl, rfl⟩ | ⟨so2, hso2, hx, ⟨ho2, rfl, rfl, rfl⟩ | ⟨rfl, nn2, hnn2, ho2, rfl, rfl, rfl⟩⟩
    · exact absurd (nI_okS hso) hn2
    · exact ⟨rfl, fun h => absurd h (by decide), hC, hL, hB, hB2, hK, hW, hS⟩
    · obtain rfl := nI_j hx; exact absurd (ho2.symm.trans ((hL so hso).1.trans ho)) (nI_m1 (by omega))
  · rcases hm with ⟨hn2, rfl, rfl, rfl⟩ | ⟨so2, hso2, hx, ⟨ho2, rfl, rfl, rfl⟩ | ⟨rfl, nn2, hnn2, ho2, rfl, rfl, rfl⟩⟩
    · exact absurd (nI_okS hso) hn2
    · obtain rfl := nI_j hx; exact absurd (ho.symm.trans ((hL so hso).1.symm.trans ho2)) (nI_m1 (by omega))
    · obtain rfl := nI_j hx
      obtain rfl : nn = nn2 := nI_j (ho.symm.trans ((hL so hso).1.symm.trans ho2))
      exact ⟨rfl, fun _ => by rw [pk_uLs], rC_cp hC hso hnn, rL_s hL hso _, hB, rB_upd hB2 so (Or.inr ⟨_, hnn, rfl⟩), hK, hW, hS⟩
theorem rel_size {wc wl sc sl cl ct : Nat → Int32} {rw co sk ss sq : Int32} {mn me ml mt : Nat → Int32} {wo mr mo mk mz mq : Int32} {x y r b th2  : Int32} {oo oo9 : Nat → Int64} (hR : Rel wc wl sc sl cl ct rw co sk ss sq mn me ml mt wo mr mo mk mz mq) (hw : ((¬ (¬ x < 0 ∧ x < nI 5)) ∧ r = 1 ∧ oo9 = oo) ∨ (r = 0 ∧ ∃ (rr : Int32) (so : Nat), (x = nI so ∧ so < 5 ∧ rr = (if y = 0 then wl so else sl so)) ∧ oo9 = vp_updL oo 0 rr.toInt64)) (hm : (¬ okS x ∧ th2 = 1) ∨ ∃ so : Nat, so < 5 ∧ x = nI so ∧ th2 = 0 ∧ b = (if y = 0 then mn (2 * so) else mn (2 * so + 1))) : r = th2 ∧ (r = 0 → oo9 0 = b.toInt64) ∧ Rel wc wl sc sl cl ct rw co sk ss sq mn me ml mt wo mr mo mk mz mq := by
  obtain ⟨hC, hL, hB, hB2, hK, hW, hS⟩ := hR
  rcases hw with ⟨hn, rfl, rfl⟩ | ⟨rfl, rr, so, ⟨rfl, hso, rfl⟩, rfl⟩
  · rcases hm with ⟨hn2, rfl⟩ | ⟨so2, hso2, hx, -⟩
    · exact ⟨rfl, fun h => absurd h (by decide), hC, hL, hB, hB2, hK, hW, hS⟩
    · exact absurd (by rw [hx]; exact nI_okS hso2) hn
  · rcases hm with ⟨hn2, rfl⟩ | ⟨so2, hso2, hx, rfl, rfl⟩
    · exact absurd (nI_okS hso) hn2
    · obtain rfl := nI_j hx
      exact ⟨rfl, fun _ => by rw [pk_uLs, (hL so hso).1, (hL so hso).2], hC, hL, hB, hB2, hK, hW, hS⟩
theorem rel_get {wc wl sc sl cl ct : Nat → Int32} {rw co sk ss sq : Int32} {mn me ml mt : Nat → Int32} {wo mr mo mk mz mq : Int32} {x y r b th2  : Int32} {oo oo9 : Nat → Int64} (hR : Rel wc wl sc sl cl ct rw co sk ss sq mn me ml mt wo mr mo mk mz mq) (hw : ((¬ (¬ x < 0 ∧ x < nI 5)) ∧ r = 1 ∧ oo9 = oo) ∨ ((∃ so : Nat, so < 5 ∧ x = nI so ∧ wl so = -1) ∧ r = 2 ∧ oo9 = oo) ∨ ((∃ so : Nat, so < 5 ∧ x = nI so ∧ ¬ wl so = -1 ∧ ¬ (¬ y < 0 ∧ y < wl so)) ∧ r = 3 ∧ oo9 = oo) ∨ (r = 0 ∧ ∃ (rr : Int32) (so : Nat) (i : Nat), (x = nI so ∧ so < 5 ∧ y = nI i ∧ i < 64 ∧ ¬ wl so = -1 ∧ nI i < wl so ∧ rr = wc (so * 64 + i)) ∧ oo9 = vp_updL oo 0 rr.toInt64)) (hm : mG mn x y th2 True (fun so i => b = me (64 * (2 * so) + i))) : r = th2 ∧ (r = 0 → oo9 0 = b.toInt64) ∧ Rel wc wl sc sl cl ct rw co sk ss sq mn me ml mt wo mr mo mk mz mq := by
  obtain ⟨hC, hL, hB, hB2, hK, hW, hS⟩ := hR
  have h1 : cG (fun _ => True) wl x y r (oo9 = oo) (fun so i => oo9 = vp_updL oo 0 (wc (so * 64 + i)).toInt64) := by
    rcases hw with ⟨hn, a⟩ | ⟨⟨so, hso, hx, ho⟩, a⟩ | ⟨⟨so, hso, hx, ho, hi⟩, a⟩ | ⟨a, rr, so, i, ⟨hx, hso, hy, hi, ho, hlt, e⟩, c⟩
    · exact Or.inl ⟨fun ⟨so, hs, hx, _⟩ => hn (by rw [hx]; exact nI_okS hs), a⟩
    · exact Or.inr ⟨so, hso, hx, trivial, Or.inl ⟨ho, a⟩⟩
    · exact Or.inr ⟨so, hso, hx, trivial, Or.inr (Or.inl ⟨ho, hi, a⟩)⟩
    · subst e; exact Or.inr ⟨so, hso, hx, trivial, Or.inr (Or.inr ⟨ho, a, i, hi, hy, hlt, c⟩)⟩
  obtain ⟨e, h⟩ := cG_det h1 (mG_c hL hm)
  subst e
  rcases h with ⟨h0, s1, s2⟩ | ⟨rfl, so, i, hs, hi, k1, k2⟩
  · exact ⟨rfl, fun h => absurd h h0, hC, hL, hB, hB2, hK, hW, hS⟩
  · subst k1; subst k2; exact ⟨rfl, fun _ => by rw [pk_uLs, (hC so i hs hi).1], hC, hL, hB, hB2, hK, hW, hS⟩
theorem rel_set {wc wl sc sl cl ct : Nat → Int32} {rw co sk ss sq : Int32} {mn me ml mt : Nat → Int32} {wo mr mo mk mz mq : Int32} {x y v r b th2  : Int32} {oo oo9 : Nat → Int64} {wc9 me2 : Nat → Int32} (hR : Rel wc wl sc sl cl ct rw co sk ss sq mn me ml mt wo mr mo mk mz mq) (hw : ((¬ (¬ x < 0 ∧ x < nI 5)) ∧ r = 1 ∧ wc9 = wc ∧ oo9 = oo) ∨ ((∃ so : Nat, so < 5 ∧ x = nI so ∧ wl so = -1) ∧ r = 2 ∧ wc9 = wc ∧ oo9 = oo) ∨ ((∃ so : Nat, so < 5 ∧ x = nI so ∧ ¬ wl so = -1 ∧ ¬ (¬ y < 0 ∧ y < wl so)) ∧ r = 3 ∧ wc9 = wc ∧ oo9 = oo) ∨ (r = 0 ∧ ∃ (rr : Int32) (so : Nat) (i : Nat), (x = nI so ∧ so < 5 ∧ y = nI i ∧ i < 64 ∧ ¬ wl so = -1 ∧ nI i < wl so ∧ rr = ft so v) ∧ wc9 = upd wc (so * 64 + i) (ft so v) ∧ oo9 = vp_updL oo 0 rr.toInt64)) (hm : mG mn x y th2 (me2 = me) (fun so i => b = ft so v ∧ me2 = upd me (64 * (2 * so) + i) (ft so v))) : r = th2 ∧ (r = 0 → oo9 0 = b.toInt64) ∧ Rel wc9 wl sc sl cl ct rw co sk ss sq mn me2 ml mt wo mr mo mk mz mq := by
  obtain ⟨hC, hL, hB, hB2, hK, hW, hS⟩ := hR
  have h1 : cG (fun _ => True) wl x y r (wc9 = wc ∧ oo9 = oo) (fun so i => wc9 = upd wc (so * 64 + i) (ft so v) ∧ oo9 = vp_updL oo 0 (ft so v).toInt64) := by
    rcases hw with ⟨hn, a⟩ | ⟨⟨so, hso, hx, ho⟩, a⟩ | ⟨⟨so, hso, hx, ho, hi⟩, a⟩ | ⟨a, rr, so, i, ⟨hx, hso, hy, hi, ho, hlt, e⟩, c⟩
    · exact Or.inl ⟨fun ⟨so, hs, hx, _⟩ => hn (by rw [hx]; exact nI_okS hs), a⟩
    · exact Or.inr ⟨so, hso, hx, trivial, Or.inl ⟨ho, a⟩⟩
    · exact Or.inr ⟨so, hso, hx, trivial, Or.inr (Or.inl ⟨ho, hi, a⟩)⟩
    · subst e; exact Or.inr ⟨so, hso, hx, trivial, Or.inr (Or.inr ⟨ho, a, i, hi, hy, hlt, c⟩)⟩
  obtain ⟨e, h⟩ := cG_det h1 (mG_c hL hm)
  subst e
  rcases h with ⟨h0, s1, s2⟩ | ⟨rfl, so, i, hs, hi, k1, k2⟩
  · obtain ⟨rfl, rfl⟩ := s1; subst s2; exact ⟨rfl, fun h => absurd h h0, hC, hL, hB, hB2, hK, hW, hS⟩
  · obtain ⟨rfl, rfl⟩ := k1; obtain ⟨rfl, rfl⟩ := k2; exact ⟨rfl, fun _ => pk_uLs, rC_upd hC hs hi _, hL, hB, hB2, hK, hW, hS⟩
theorem rel_alter {wc wl sc sl cl ct : Nat → Int32} {rw co sk ss sq : Int32} {mn me ml mt : Nat → Int32} {wo mr mo mk mz mq : Int32} {x y h v r b th2  : Int32} {oo oo9 : Nat → Int64} {wc9 me2 : Nat → Int32} (hR : Rel wc wl sc sl cl ct rw co sk ss sq mn me ml mt wo mr mo mk mz mq) (hw : (((¬ (¬ x < 0 ∧ x < nI 5) ∨ ∃ so : Nat, so < 5 ∧ x = nI so ∧ ¬ okA so h v)) ∧ r = 1 ∧ wc9 = wc ∧ oo9 = oo) ∨ ((∃ so : Nat, so < 5 ∧ x = nI so ∧ okA so h v ∧ wl so = -1) ∧ r = 2 ∧ wc9 = wc ∧ oo9 = oo) ∨ ((∃ so : Nat, so < 5 ∧ x = nI so ∧ okA so h v ∧ ¬ wl so = -1 ∧ ¬ (¬ y < 0 ∧ y < wl so)) ∧ r = 3 ∧ wc9 = wc ∧ oo9 = oo) ∨ (r = 0 ∧ ∃ (rr : Int32) (so : Nat) (i : Nat), (x = nI so ∧ so < 5 ∧ y = nI i ∧ i < 64 ∧ okA so h v ∧ ¬ wl so = -1 ∧ nI i < wl so ∧ rr = ft so (cb (wc (so * 64 + i)) h (opd so v))) ∧ wc9 = upd wc (so * 64 + i) (ft so (cb (wc (so * 64 + i)) h (opd so v))) ∧ oo9 = vp_updL oo 0 rr.toInt64)) (hm : mA mn x y h v th2 (me2 = me) (fun so i => b = ft so (cb (me (64 * (2 * so) + i)) h (opd so v)) ∧ me2 = upd me (64 * (2 * so) + i) (ft so (cb (me (64 * (2 * so) + i)) h (opd so v))))) : r = th2 ∧ (r = 0 → oo9 0 = b.toInt64) ∧ Rel wc9 wl sc sl cl ct rw co sk ss sq mn me2 ml mt wo mr mo mk mz mq := by
  obtain ⟨hC, hL, hB, hB2, hK, hW, hS⟩ := hR
  have h1 : cG (fun so => okA so h v) wl x y r (wc9 = wc ∧ oo9 = oo) (fun so i => wc9 = upd wc (so * 64 + i) (ft so (cb (wc (so * 64 + i)) h (opd so v))) ∧ oo9 = vp_updL oo 0 (ft so (cb (wc (so * 64 + i)) h (opd so v))).toInt64) := by
    rcases hw with ⟨hn, a⟩ | ⟨⟨so, hso, hx, hp, ho⟩, a⟩ | ⟨⟨so, hso, hx, hp, ho, hi⟩, a⟩ | ⟨a, rr, so, i, ⟨hx, hso, hy, hi, hp, ho, hlt, e⟩, c⟩
    · refine Or.inl ⟨fun ⟨so, hs, hx, hp⟩ => ?_, a⟩
      rcases hn with q | ⟨so2, hs2, hx2, hq⟩
      · exact q (by rw [hx]; exact nI_okS hs)
      · obtain rfl : so = so2 := nI_j (hx.symm.trans hx2)
        exact hq hp
    · exact Or.inr ⟨so, hso, hx, hp, Or.inl ⟨ho, a⟩⟩
    · exact Or.inr ⟨so, hso, hx, hp, Or.inr (Or.inl ⟨ho, hi, a⟩)⟩
    · subst e; exact Or.inr ⟨so, hso, hx, hp, Or.inr (Or.inr ⟨ho, a, i, hi, hy, hlt, c⟩)⟩
  obtain ⟨e, h⟩ := cG_det h1 (mA_c hL hm)
  subst e
  rcases h with ⟨h0, s1, s2⟩ | ⟨rfl, so, i, hs, hi, k1, k2⟩
  · obtain ⟨rfl, rfl⟩ := s1; subst s2; exact ⟨rfl, fun h => absurd h h0, hC, hL, hB, hB2, hK, hW, hS⟩
  · obtain ⟨rfl, rfl⟩ := k1; obtain ⟨rfl, rfl⟩ := k2; rw [(hC so i hs hi).1]; exact ⟨rfl, fun _ => pk_uLs, rC_upd hC hs hi _, hL, hB, hB2, hK, hW, hS⟩
theorem rel_weave {wc wl sc sl cl ct : Nat → Int32} {rw co sk ss sq : Int32} {mn me ml mt : Nat → Int32} {wo mr mo mk mz mq : Int32} {x y r b th2 rw9 co9 wo2 mr2 mo2 : Int32} {oo oo9 : Nat → Int64} {cl9 ct9 ml2 mt2 : Nat → Int32} (hR : Rel wc wl sc sl cl ct rw co sk ss sq mn me ml mt wo mr mo mk mz mq) (hw : (((nI 40 < x ∨ nI 40 < y)) ∧ r = 1 ∧ rw9 = rw ∧ co9 = co ∧ cl9 = cl ∧ ct9 = ct ∧ oo9 = oo) ∨ ((¬ (nI 40 < x ∨ nI 40 < y) ∧ (x < 0 ∨ y < 0)) ∧ r = 2 ∧ rw9 = rw ∧ co9 = co ∧ cl9 = cl ∧ ct9 = ct ∧ oo9 = oo) ∨ (r = 0 ∧ ∃ (rr : Int32) (m : Nat) (n : Nat), (x = nI m ∧ m ≤ 40 ∧ y = nI n ∧ n ≤ 40 ∧ rr = nI (m * n)) ∧ rw9 = nI m ∧ co9 = nI n ∧ cl9 = fa cl 0 1600 ∧ ct9 = fa ct 0 m ∧ oo9 = vp_updL oo 0 rr.toInt64)) (hm : ((nI 40 < x ∨ nI 40 < y) ∧ th2 = 1 ∧ wo2 = wo ∧ mr2 = mr ∧ mo2 = mo ∧ ml2 = ml ∧ mt2 = mt) ∨ (¬ (nI 40 < x ∨ nI 40 < y) ∧ (x < 0 ∨ y < 0) ∧ th2 = 2 ∧ wo2 = wo ∧ mr2 = mr ∧ mo2 = mo ∧ ml2 = ml ∧ mt2 = mt) ∨ (th2 = 0 ∧ ∃ m n : Nat, m ≤ 40 ∧ x = nI m ∧ n ≤ 40 ∧ y = nI n ∧ b = nI (m * n) ∧ wo2 = 1 ∧ mr2 = nI m ∧ mo2 = nI n ∧ ml2 = fa ml 0 1600 ∧ mt2 = fa mt 0 40)) : r = th2 ∧ (r = 0 → oo9 0 = b.toInt64) ∧ Rel wc wl sc sl cl9 ct9 rw9 co9 sk ss sq mn me ml2 mt2 wo2 mr2 mo2 mk mz mq := by
  obtain ⟨hC, hL, hB, hB2, hK, hW, hS⟩ := hR
  rcases hw with ⟨hn, rfl, rfl, rfl, rfl, rfl, rfl⟩ | ⟨⟨hn, hz⟩, rfl, rfl, rfl, rfl, rfl, rfl⟩ | ⟨rfl, rr, m, n, ⟨rfl, hm1, rfl, hn1, rfl⟩, rfl, rfl, rfl, rfl, rfl⟩
  · rcases hm with ⟨hn2, rfl, rfl, rfl, rfl, rfl, rfl⟩ | ⟨hn2, -⟩ | ⟨-, m2, n2, hm2, hx, hn2, hy, -⟩
    · exact ⟨rfl, fun h => absurd h (by decide), hC, hL, hB, hB2, hK, hW, hS⟩
    · exact absurd hn hn2
    · rw [hx, hy] at hn; exact absurd hn (w40 hm2 hn2).1
  · rcases hm with ⟨hn2, -⟩ | ⟨hn2, hz2, rfl, rfl, rfl, rfl, rfl, rfl⟩ | ⟨-, m2, n2, hm2, hx, hn2, hy, -⟩
    · exact absurd hn2 hn
    · exact ⟨rfl, fun h => absurd h (by decide), hC, hL, hB, hB2, hK, hW, hS⟩
    · rw [hx, hy] at hz; exact absurd hz (w40 hm2 hn2).2
  · rcases hm with ⟨hn2, -⟩ | ⟨hn2, hz2, -⟩ | ⟨rfl, m2, n2, hm2, hx, hn2, hy, rfl, rfl, rfl, rfl, rfl, rfl⟩
    · exact absurd hn2 (w40 hm1 hn1).1
    · exact absurd hz2 (w40 hm1 hn1).2
    · obtain rfl := nI_j hx; obtain rfl := nI_j hy
      exact ⟨rfl, fun _ => pk_uLs, hC, hL, hB, hB2, rK_fa _ _, Or.inr ⟨rfl, m, n, hm1, hn1, rfl, rfl, rfl, rfl, fun k hk => by rw [fa_v, fa_v, if_pos (by omega), if_pos hk]⟩, hS⟩
theorem rel_pass {wc wl sc sl cl ct : Nat → Int32} {rw co sk ss sq : Int32} {mn me ml mt : Nat → Int32} {wo mr mo mk mz mq : Int32} {x y r b th2 sk9 ss9 sq9 mk2 mz2 mq2 : Int32} {oo oo9 : Nat → Int64} {wc9 cl9 me2 ml2 : Nat → Int32} (hR : Rel wc wl sc sl cl ct rw co sk ss sq mn me ml mt wo mr mo mk mz mq) (hw : ((¬ (¬ y < 0 ∧ y ≤ 65535)) ∧ r = 1 ∧ wc9 = wc ∧ cl9 = cl ∧ sk9 = sk ∧ ss9 = ss ∧ sq9 = sq ∧ oo9 = oo) ∨ (((¬ y < 0 ∧ y ≤ 65535) ∧ rw = -1) ∧ r = 2 ∧ wc9 = wc ∧ cl9 = cl ∧ sk9 = sk ∧ ss9 = ss ∧ sq9 = sq ∧ oo9 = oo) ∨ (((¬ y < 0 ∧ y ≤ 65535) ∧ ¬ rw = -1 ∧ ¬ (¬ x < 0 ∧ x < rw)) ∧ r = 3 ∧ wc9 = wc ∧ cl9 = cl ∧ sk9 = sk ∧ ss9 = ss ∧ sq9 = sq ∧ oo9 = oo) ∨ (r = 0 ∧ ∃ (rr : Int32) (ro : Nat) (jj : Nat) (wc2 : Nat → Int32) (cl2 : Nat → Int32) (sk2 : Int32) (ss2 : Int32), (x = nI ro ∧ ro < 40 ∧ (¬ y < 0 ∧ y ≤ 65535) ∧ ¬ rw = -1 ∧ nI ro < rw ∧ prun wl ct ro y co.toNatClampNeg 0 wc cl 0 0 = (jj, wc2, cl2, sk2, ss2) ∧ rr = nI jj) ∧ wc9 = wc2 ∧ cl9 = cl2 ∧ sk9 = sk2 ∧ ss9 = ss2 ∧ sq9 = nI jj ∧ oo9 = vp_updL oo 0 rr.toInt64)) (hm : (¬ (¬ y < 0 ∧ y ≤ 65535) ∧ th2 = 1 ∧ me2 = me ∧ ml2 = ml ∧ mk2 = mk ∧ mz2 = mz ∧ mq2 = mq) ∨ ((¬ y < 0 ∧ y ≤ 65535) ∧ wo = 0 ∧ th2 = 2 ∧ me2 = me ∧ ml2 = ml ∧ mk2 = mk ∧ mz2 = mz ∧ mq2 = mq) ∨ ((¬ y < 0 ∧ y ≤ 65535) ∧ ¬ wo = 0 ∧ ¬ (¬ x < 0 ∧ x < mr) ∧ th2 = 3 ∧ me2 = me ∧ ml2 = ml ∧ mk2 = mk ∧ mz2 = mz ∧ mq2 = mq) ∨ ((¬ y < 0 ∧ y ≤ 65535) ∧ ¬ wo = 0 ∧ th2 = 0 ∧ ∃ ro jj : Nat, ro < 40 ∧ x = nI ro ∧ nI ro < mr ∧ mrun mn mt ro y mo.toNatClampNeg 0 me ml 0 0 mo = (jj, me2, ml2, mk2, mz2, mq2) ∧ b = nI jj)) : r = th2 ∧ (r = 0 → oo9 0 = b.toInt64) ∧ Rel wc9 wl sc sl cl9 ct rw co sk9 ss9 sq9 mn me2 ml2 mt wo mr mo mk2 mz2 mq2 := by
  obtain ⟨hC, hL, hB, hB2, hK, hW, hS⟩ := hR
  obtain ⟨ow, w⟩ := rW_w hW
  rcases hw with ⟨hy, rfl, rfl, rfl, rfl, rfl, rfl, rfl⟩ | ⟨⟨hy, ho⟩, rfl, rfl, rfl, rfl, rfl, rfl, rfl⟩ | ⟨⟨hy, ho, hx⟩, rfl, rfl, rfl, rfl, rfl, rfl, rfl⟩ | ⟨rfl, rr, ro, jj, wc2, cl2, sk2, ss2, ⟨rfl, hro, hy, ho, hlt, hrun, rfl⟩, rfl, rfl, rfl, rfl, rfl, rfl⟩
  · rcases hm with ⟨hy2, rfl, rfl, rfl, rfl, rfl, rfl⟩ | ⟨hy2, -⟩ | ⟨hy2, -⟩ | ⟨hy2, -⟩
    · exact ⟨rfl, fun h => absurd h (by decide), hC, hL, hB, hB2, hK, hW, hS⟩
    · exact absurd hy2 hy
    · exact absurd hy2 hy
    · exact absurd hy2 hy
  · rcases hm with ⟨hy2, -⟩ | ⟨hy2, ho2, rfl, rfl, rfl, rfl, rfl, rfl⟩ | ⟨hy2, ho2, -⟩ | ⟨hy2, ho2, -⟩
    · exact absurd hy hy2
    · exact ⟨rfl, fun h => absurd h (by decide), hC, hL, hB, hB2, hK, hW, hS⟩
    · exact absurd (ow.mp ho) ho2
    · exact absurd (ow.mp ho) ho2
  · rcases hm with ⟨hy2, -⟩ | ⟨hy2, ho2, -⟩ | ⟨hy2, ho2, hx2, rfl, rfl, rfl, rfl, rfl, rfl⟩ | ⟨hy2, ho2, -, ro2, jj2, hro2, hx2, hlt2, -⟩
    · exact absurd hy hy2
    · exact absurd (ow.mpr ho2) ho
    · exact ⟨rfl, fun h => absurd h (by decide), hC, hL, hB, hB2, hK, hW, hS⟩
    · obtain ⟨a, b9, ha, hb, e1, e2, -⟩ := w ho
      subst hx2; rw [e1] at hx; rw [e2] at hlt2
      exact absurd ⟨nI_pos (by omega), hlt2⟩ hx
  · rcases hm with ⟨hy2, -⟩ | ⟨hy2, ho2, -⟩ | ⟨hy2, ho2, hx2, -⟩ | ⟨hy2, ho2, rfl, ro2, jj2, hro2, hx2, hlt2, hrun2, rfl⟩
    · exact absurd hy hy2
    · exact absurd (ow.mpr ho2) ho
    · obtain ⟨a, b9, ha, hb, e1, e2, -⟩ := w ho
      rw [e1] at hlt; rw [e2] at hx2
      exact absurd ⟨nI_pos (by omega), hlt⟩ hx2
    · obtain rfl := nI_j hx2
      obtain ⟨a, b9, ha, hb, e1, e2, e3, e4, ht⟩ := w ho
      have hra : ro < a := by rw [e1] at hlt; exact (nI_ltI (by omega) (by omega)).mp hlt
      rw [e3, nI_clamp (by omega)] at hrun
      rw [e4, nI_clamp (by omega)] at hrun2
      obtain ⟨jk, wc3, cl3, me3, ml3, s1, s2, h1, h2, hC2, hK2⟩ := run_rel y hL (ht ro hra) b9 0 wc cl me ml 0 0 (nI b9) (by omega) hC hK (by rw [Nat.zero_add])
      rw [h1] at hrun; rw [h2] at hrun2
      simp only [Prod.mk.injEq] at hrun hrun2
      obtain ⟨rfl, rfl, rfl, rfl, rfl⟩ := hrun
      obtain ⟨rfl, rfl, rfl, rfl, rfl, rfl⟩ := hrun2
      exact ⟨rfl, fun _ => pk_uLs, hC2, hL, hB, hB2, hK2, hW, rfl, rfl, rfl⟩
theorem rel_stop {wc wl sc sl cl ct : Nat → Int32} {rw co sk ss sq : Int32} {mn me ml mt : Nat → Int32} {wo mr mo mk mz mq : Int32} {x r b th2  : Int32} {oo oo9 : Nat → Int64} (hR : Rel wc wl sc sl cl ct rw co sk ss sq mn me ml mt wo mr mo mk mz mq) (hw : (((x.toInt < 0 ∨ 2 < x.toInt)) ∧ r = 1 ∧ oo9 = oo) ∨ (r = 0 ∧ ∃ (rr : Int32) , ((x = 0 ∧ rr = sk) ∨ (x = 1 ∧ rr = ss) ∨ (x = 2 ∧ rr = sq)) ∧ oo9 = vp_updL oo 0 rr.toInt64)) (hm : ((x.toInt < 0 ∨ 2 < x.toInt) ∧ th2 = 1) ∨ (th2 = 0 ∧ ((x = 0 ∧ b = mk) ∨ (x = 1 ∧ b = mz) ∨ (x = 2 ∧ b = mq)))) : r = th2 ∧ (r = 0 → oo9 0 = b.toInt64) ∧ Rel wc wl sc sl cl ct rw co sk ss sq mn me ml mt wo mr mo mk mz mq := by
  obtain ⟨hC, hL, hB, hB2, hK, hW, hS⟩ := hR
  obtain ⟨rfl, rfl, rfl⟩ := hS
  rcases hw with ⟨hx, rfl, rfl⟩ | ⟨rfl, rr, h, rfl⟩
  · rcases hm with ⟨hx2, rfl⟩ | ⟨-, h2⟩
    · exact ⟨rfl, fun h => absurd h (by decide), hC, hL, hB, hB2, hK, hW, rfl, rfl, rfl⟩
    · rcases h2 with ⟨rfl, -⟩ | ⟨rfl, -⟩ | ⟨rfl, -⟩ <;> exact absurd hx (by decide)
  · rcases hm with ⟨hx2, rfl⟩ | ⟨rfl, h2⟩
    · rcases h with ⟨rfl, -⟩ | ⟨rfl, -⟩ | ⟨rfl, -⟩ <;> exact absurd hx2 (by decide)
    · refine ⟨rfl, fun _ => ?_, hC, hL, hB, hB2, hK, hW, rfl, rfl, rfl⟩
      have e : b = rr := by
        rcases h with ⟨rfl, h⟩ | ⟨rfl, h⟩ | ⟨rfl, h⟩ <;> rcases h2 with ⟨e, h2⟩ | ⟨e, h2⟩ | ⟨e, h2⟩ <;> first | exact absurd e (by decide) | exact h2.trans h.symm
      rw [pk_uLs, e]
theorem rel_cut {wc wl sc sl cl ct : Nat → Int32} {rw co sk ss sq : Int32} {mn me ml mt : Nat → Int32} {wo mr mo mk mz mq : Int32} {x r b th2  : Int32} {oo oo9 : Nat → Int64} {ct9 mt2 : Nat → Int32} (hR : Rel wc wl sc sl cl ct rw co sk ss sq mn me ml mt wo mr mo mk mz mq) (hw : ((lkR rw ct x = 1) ∧ r = 1 ∧ ct9 = ct ∧ oo9 = oo) ∨ ((lkR rw ct x = 2) ∧ r = 2 ∧ ct9 = ct ∧ oo9 = oo) ∨ (r = 0 ∧ ∃ (rr : Int32) (ro : Nat), (x = nI ro ∧ ro < 40 ∧ lkR rw ct x = 0 ∧ rr = co) ∧ ct9 = upd ct ro 1 ∧ oo9 = vp_updL oo 0 rr.toInt64)) (hm : (wo = 0 ∧ th2 = 1 ∧ mt2 = mt) ∨ (¬ wo = 0 ∧ ((rlk mr mt x = 2 ∧ th2 = 2 ∧ mt2 = mt) ∨ (rlk mr mt x = 1 ∧ th2 = 1 ∧ mt2 = mt) ∨ (rlk mr mt x = 0 ∧ th2 = 0 ∧ ∃ ro : Nat, ro < 40 ∧ x = nI ro ∧ b = mo ∧ mt2 = upd mt ro 1)))) : r = th2 ∧ (r = 0 → oo9 0 = b.toInt64) ∧ Rel wc wl sc sl cl ct9 rw co sk ss sq mn me ml mt2 wo mr mo mk mz mq := by
  obtain ⟨hC, hL, hB, hB2, hK, hW, hS⟩ := hR
  have e := lkR_rel hW x
  have hm2 : (lkR rw ct x = 1 ∧ th2 = 1 ∧ mt2 = mt) ∨ (lkR rw ct x = 2 ∧ th2 = 2 ∧ mt2 = mt) ∨ (lkR rw ct x = 0 ∧ th2 = 0 ∧ ∃ ro : Nat, ro < 40 ∧ x = nI ro ∧ b = mo ∧ mt2 = upd mt ro 1) := by
    rcases hm with ⟨h0, h⟩ | ⟨h0, h⟩
    · rw [if_pos h0] at e; exact Or.inl ⟨e.symm, h⟩
    · rw [if_neg h0] at e; rw [e] at h
      rcases h with h | h | h
      · exact Or.inr (Or.inl h)
      · exact Or.inl h
      · exact Or.inr (Or.inr h)
  rcases hw with ⟨hn, rfl, rfl, rfl⟩ | ⟨hn, rfl, rfl, rfl⟩ | ⟨rfl, rr, ro, ⟨rfl, hro, hn, rfl⟩, rfl, rfl⟩
  · rcases hm2 with ⟨h2, rfl, rfl⟩ | ⟨h2, -⟩ | ⟨h2, -⟩
    · exact ⟨rfl, fun h => absurd h (by decide), hC, hL, hB, hB2, hK, hW, hS⟩
    · exact absurd (hn.symm.trans h2) (by decide)
    · exact absurd (hn.symm.trans h2) (by decide)
  · rcases hm2 with ⟨h2, -⟩ | ⟨h2, rfl, rfl⟩ | ⟨h2, -⟩
    · exact absurd (hn.symm.trans h2) (by decide)
    · exact ⟨rfl, fun h => absurd h (by decide), hC, hL, hB, hB2, hK, hW, hS⟩
    · exact absurd (hn.symm.trans h2) (by decide)
  · rcases hm2 with ⟨h2, -⟩ | ⟨h2, -⟩ | ⟨h2, rfl, ro2, hro2, hx, rfl, rfl⟩
    · exact absurd (hn.symm.trans h2) (by decide)
    · exact absurd (hn.symm.trans h2) (by decide)
    · obtain rfl := nI_j hx
      rcases hW with ⟨rfl, rfl, rfl, rfl, rfl⟩ | ⟨rfl, a, b9, ha, hb, rfl, rfl, rfl, rfl, ht⟩
      · exact absurd hn (by unfold lkR; rw [if_pos rfl]; decide)
      · refine ⟨rfl, fun _ => pk_uLs, hC, hL, hB, hB2, hK, Or.inr ⟨rfl, a, b9, ha, hb, rfl, rfl, rfl, rfl, fun k hk => ?_⟩, hS⟩
        simp only [upd]
        by_cases c : k = ro
        · rw [if_pos c, if_pos c]
        · rw [if_neg c, if_neg c]; exact ht k hk
theorem rel_cell {wc wl sc sl cl ct : Nat → Int32} {rw co sk ss sq : Int32} {mn me ml mt : Nat → Int32} {wo mr mo mk mz mq : Int32} {x y r b th2  : Int32} {oo oo9 : Nat → Int64} (hR : Rel wc wl sc sl cl ct rw co sk ss sq mn me ml mt wo mr mo mk mz mq) (hw : ((lkC rw co ct x y = 1) ∧ r = 1 ∧ oo9 = oo) ∨ ((lkC rw co ct x y = 2) ∧ r = 2 ∧ oo9 = oo) ∨ (r = 0 ∧ ∃ (rr : Int32) (ro : Nat) (j : Nat), (x = nI ro ∧ ro < 40 ∧ y = nI j ∧ j < 40 ∧ lkC rw co ct x y = 0 ∧ rr = cl (ro * 40 + j)) ∧ oo9 = vp_updL oo 0 rr.toInt64)) (hm : th2 = nI (lkM wo mr mo mt x y) ∧ (lkM wo mr mo mt x y = 0 → ∃ ro j : Nat, ro < 40 ∧ x = nI ro ∧ j < 40 ∧ y = nI j ∧ b = ml (40 * ro + j))) : r = th2 ∧ (r = 0 → oo9 0 = b.toInt64) ∧ Rel wc wl sc sl cl ct rw co sk ss sq mn me ml mt wo mr mo mk mz mq := by
  obtain ⟨hC, hL, hB, hB2, hK, hW, hS⟩ := hR
  rw [lkC_rel hW x y] at hm
  rcases hw with ⟨hn, rfl, rfl⟩ | ⟨hn, rfl, rfl⟩ | ⟨rfl, rr, ro, j, ⟨rfl, hro, rfl, hj, hn, rfl⟩, rfl⟩
  · rw [hn] at hm; exact ⟨hm.1.symm, fun h => absurd h (by decide), hC, hL, hB, hB2, hK, hW, hS⟩
  · rw [hn] at hm; exact ⟨hm.1.symm, fun h => absurd h (by decide), hC, hL, hB, hB2, hK, hW, hS⟩
  · rw [hn] at hm
    obtain ⟨ro2, j2, hro2, hx, hj2, hy, rfl⟩ := hm.2 rfl
    obtain rfl := nI_j hx; obtain rfl := nI_j hy
    exact ⟨hm.1.symm, fun _ => by rw [pk_uLs, hK _ (by omega), Nat.mul_comm 40 ro], hC, hL, hB, hB2, hK, hW, hS⟩
theorem rel_dye {wc wl sc sl cl ct : Nat → Int32} {rw co sk ss sq : Int32} {mn me ml mt : Nat → Int32} {wo mr mo mk mz mq : Int32} {x y h v r b th2  : Int32} {oo oo9 : Nat → Int64} {cl9 ml2 : Nat → Int32} (hR : Rel wc wl sc sl cl ct rw co sk ss sq mn me ml mt wo mr mo mk mz mq) (hw : ((¬ (¬ h < 0 ∧ h ≤ nI 8)) ∧ r = 1 ∧ cl9 = cl ∧ oo9 = oo) ∨ (((¬ h < 0 ∧ h ≤ nI 8) ∧ lkC rw co ct x y = 1) ∧ r = 2 ∧ cl9 = cl ∧ oo9 = oo) ∨ (((¬ h < 0 ∧ h ≤ nI 8) ∧ lkC rw co ct x y = 2) ∧ r = 3 ∧ cl9 = cl ∧ oo9 = oo) ∨ (r = 0 ∧ ∃ (rr : Int32) (ro : Nat) (j : Nat), (x = nI ro ∧ ro < 40 ∧ y = nI j ∧ j < 40 ∧ (¬ h < 0 ∧ h ≤ nI 8) ∧ lkC rw co ct x y = 0 ∧ rr = cb (cl (ro * 40 + j)) h v) ∧ cl9 = upd cl (ro * 40 + j) (cb (cl (ro * 40 + j)) h v) ∧ oo9 = vp_updL oo 0 rr.toInt64)) (hm : (¬ okH h ∧ th2 = 1 ∧ ml2 = ml) ∨ (okH h ∧ ((lkM wo mr mo mt x y = 1 ∧ th2 = 2 ∧ ml2 = ml) ∨ (lkM wo mr mo mt x y = 2 ∧ th2 = 3 ∧ ml2 = ml) ∨ (lkM wo mr mo mt x y = 0 ∧ th2 = 0 ∧ ∃ ro j : Nat, ro < 40 ∧ x = nI ro ∧ j < 40 ∧ y = nI j ∧ b = cb (ml (40 * ro + j)) h v ∧ ml2 = upd ml (40 * ro + j) (cb (ml (40 * ro + j)) h v))))) : r = th2 ∧ (r = 0 → oo9 0 = b.toInt64) ∧ Rel wc wl sc sl cl9 ct rw co sk ss sq mn me ml2 mt wo mr mo mk mz mq := by
  obtain ⟨hC, hL, hB, hB2, hK, hW, hS⟩ := hR
  rw [lkC_rel hW x y] at hm
  rcases hw with ⟨hn, rfl, rfl, rfl⟩ | ⟨⟨hh, hn⟩, rfl, rfl, rfl⟩ | ⟨⟨hh, hn⟩, rfl, rfl, rfl⟩ | ⟨rfl, rr, ro, j, ⟨rfl, hro, rfl, hj, hh, hn, rfl⟩, rfl, rfl⟩
  · rcases hm with ⟨h2, rfl, rfl⟩ | ⟨h2, -⟩
    · exact ⟨rfl, fun h => absurd h (by decide), hC, hL, hB, hB2, hK, hW, hS⟩
    · exact absurd h2 hn
  · rcases hm with ⟨h2, -⟩ | ⟨-, ⟨h2, rfl, rfl⟩ | ⟨h2, -⟩ | ⟨h2, -⟩⟩
    · exact absurd hh h2
    · exact ⟨rfl, fun h => absurd h (by decide), hC, hL, hB, hB2, hK, hW, hS⟩
    · exact absurd (hn.symm.trans h2) (by decide)
    · exact absurd (hn.symm.trans h2) (by decide)
  · rcases hm with ⟨h2, -⟩ | ⟨-, ⟨h2, -⟩ | ⟨h2, rfl, rfl⟩ | ⟨h2, -⟩⟩
    · exact absurd hh h2
    · exact absurd (hn.symm.trans h2) (by decide)
    · exact ⟨rfl, fun h => absurd h (by decide), hC, hL, hB, hB2, hK, hW, hS⟩
    · exact absurd (hn.symm.trans h2) (by decide)
  · rcases hm with ⟨h2, -⟩ | ⟨-, ⟨h2, -⟩ | ⟨h2, -⟩ | ⟨h2, rfl, ro2, j2, hro2, hx, hj2, hy, rfl, rfl⟩⟩
    · exact absurd hh h2
    · exact absurd (hn.symm.trans h2) (by decide)
    · exact absurd (hn.symm.trans h2) (by decide)
    · obtain rfl := nI_j hx; obtain rfl := nI_j hy
      have e : ml (40 * ro + j) = cl (ro * 40 + j) := by rw [hK _ (by omega), Nat.mul_comm 40 ro]
      rw [e]
      exact ⟨rfl, fun _ => pk_uLs, hC, hL, hB, hB2, rK_upd hK ro j _, hW, hS⟩
theorem rel_seam {wc wl sc sl cl ct : Nat → Int32} {rw co sk ss sq : Int32} {mn me ml mt : Nat → Int32} {wo mr mo mk mz mq : Int32} {x y r b th2  : Int32} {oo oo9 : Nat → Int64} (hR : Rel wc wl sc sl cl ct rw co sk ss sq mn me ml mt wo mr mo mk mz mq) (hw : ((lkS rw ct x y = 1) ∧ r = 1 ∧ oo9 = oo) ∨ ((lkS rw ct x y = 2) ∧ r = 2 ∧ oo9 = oo) ∨ (r = 0 ∧ ∃ (rr : Int32) (ra : Nat) (rb : Nat), (x = nI ra ∧ ra < 40 ∧ y = nI rb ∧ rb < 40 ∧ lkS rw ct x y = 0 ∧ rr = nSame cl ra rb co.toNatClampNeg) ∧ oo9 = vp_updL oo 0 rr.toInt64)) (hm : th2 = nI (lkSM wo mr mt x y) ∧ (lkSM wo mr mt x y = 0 → ∃ ra rb : Nat, ra < 40 ∧ x = nI ra ∧ rb < 40 ∧ y = nI rb ∧ b = nSameM ml ra rb mo.toNatClampNeg)) : r = th2 ∧ (r = 0 → oo9 0 = b.toInt64) ∧ Rel wc wl sc sl cl ct rw co sk ss sq mn me ml mt wo mr mo mk mz mq := by
  obtain ⟨hC, hL, hB, hB2, hK, hW, hS⟩ := hR
  rw [lkS_rel hW x y] at hm
  rcases hw with ⟨hn, rfl, rfl⟩ | ⟨hn, rfl, rfl⟩ | ⟨rfl, rr, ra, rb, ⟨rfl, hra, rfl, hrb, hn, rfl⟩, rfl⟩
  · rw [hn] at hm; exact ⟨hm.1.symm, fun h => absurd h (by decide), hC, hL, hB, hB2, hK, hW, hS⟩
  · rw [hn] at hm; exact ⟨hm.1.symm, fun h => absurd h (by decide), hC, hL, hB, hB2, hK, hW, hS⟩
  · rw [hn] at hm
    obtain ⟨ra2, rb2, hra2, hx, hrb2, hy, rfl⟩ := hm.2 rfl
    obtain rfl := nI_j hx; obtain rfl := nI_j hy
    refine ⟨hm.1.symm, fun _ => ?_, hC, hL, hB, hB2, hK, hW, hS⟩
    rw [pk_uLs]
    rcases hW with ⟨rfl, rfl, rfl, rfl, rfl⟩ | ⟨rfl, a, b9, ha, hb, rfl, rfl, rfl, rfl, ht⟩
    · exact absurd hn (by unfold lkS; rw [if_pos rfl]; decide)
    · rw [nI_clamp (by omega), nSame_rel hK hra hrb b9 hb]
theorem rel_sum {wc wl sc sl cl ct : Nat → Int32} {rw co sk ss sq : Int32} {mn me ml mt : Nat → Int32} {wo mr mo mk mz mq : Int32} {x r b th2  : Int32} {oo oo9 : Nat → Int64} (hR : Rel wc wl sc sl cl ct rw co sk ss sq mn me ml mt wo mr mo mk mz mq) (hw : (((x.toInt < 0 ∨ 4 < x.toInt)) ∧ r = 1 ∧ oo9 = oo) ∨ (r = 0 ∧ ∃ (rr : Int32) , ((x = 0 ∧ rr = wO wc wl 5) ∨ (x = 1 ∧ rr = nOff wl 5) ∨ (x = 2 ∧ rr = rw) ∨ (x = 3 ∧ rr = co) ∨ (x = 4 ∧ rr = (if rw = -1 then -1 else nCut ct rw.toNatClampNeg))) ∧ oo9 = vp_updL oo 0 rr.toInt64)) (hm : ((x.toInt < 0 ∨ 4 < x.toInt) ∧ th2 = 1) ∨ (th2 = 0 ∧ ((x = 0 ∧ b = wOm me mn 5) ∨ (x = 1 ∧ b = nOffM mn 5) ∨ (x = 2 ∧ b = (if wo = 0 then -1 else mr)) ∨ (x = 3 ∧ b = (if wo = 0 then -1 else mo)) ∨ (x = 4 ∧ b = (if wo = 0 then -1 else nCutM mt mr.toNatClampNeg))))) : r = th2 ∧ (r = 0 → oo9 0 = b.toInt64) ∧ Rel wc wl sc sl cl ct rw co sk ss sq mn me ml mt wo mr mo mk mz mq := by
  obtain ⟨hC, hL, hB, hB2, hK, hW, hS⟩ := hR
  obtain ⟨v1, v2, v3⟩ := rW_v hW
  rw [v1, v2, v3, wO_rel hC hL hB 5 (by omega), nOff_rel hL 5 (by omega)] at hm
  rcases hw with ⟨hx, rfl, rfl⟩ | ⟨rfl, rr, h, rfl⟩
  · rcases hm with ⟨hx2, rfl⟩ | ⟨-, h2⟩
    · exact ⟨rfl, fun h => absurd h (by decide), hC, hL, hB, hB2, hK, hW, hS⟩
    · rcases h2 with ⟨rfl, -⟩ | ⟨rfl, -⟩ | ⟨rfl, -⟩ | ⟨rfl, -⟩ | ⟨rfl, -⟩ <;> exact absurd hx (by decide)
  · rcases hm with ⟨hx2, rfl⟩ | ⟨rfl, h2⟩
    · rcases h with ⟨rfl, -⟩ | ⟨rfl, -⟩ | ⟨rfl, -⟩ | ⟨rfl, -⟩ | ⟨rfl, -⟩ <;> exact absurd hx2 (by decide)
    · refine ⟨rfl, fun _ => ?_, hC, hL, hB, hB2, hK, hW, hS⟩
      have e : b = rr := by
        rcases h with ⟨rfl, h⟩ | ⟨rfl, h⟩ | ⟨rfl, h⟩ | ⟨rfl, h⟩ | ⟨rfl, h⟩ <;> rcases h2 with ⟨e, h2⟩ | ⟨e, h2⟩ | ⟨e, h2⟩ | ⟨e, h2⟩ | ⟨e, h2⟩ <;> first | exact absurd e (by decide) | exact h2.trans h.symm
      rw [pk_uLs, e]
