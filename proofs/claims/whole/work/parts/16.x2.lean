/-! BlindHunts$RoundText -/
/-- the text: n signs -/
def TX (M : qM) (n : Nat) (t : Nat → Nat) : Prop := M.1 18 1 = n ∧ ∀ i, i < n → M.1 19 i = t i
def WT (n : Nat) (t : Nat → Nat) : Prop := n ≤ 60 ∧ ∀ i, i < n → 32 ≤ t i ∧ t i ≤ 126
def dg (n : Nat) (t : Nat → Nat) (i : Nat) : Bool := decide (i < n) && (decide (48 ≤ t i) && decide (t i ≤ 57))
def sg (n : Nat) (t : Nat → Nat) (i c : Nat) : Bool := decide (i < n) && decide (t i = c)
theorem dg_iff {n : Nat} {t : Nat → Nat} {i : Nat} : dg n t i = true ↔ i < n ∧ 48 ≤ t i ∧ t i ≤ 57 := by simp [dg]
theorem sg_iff {n : Nat} {t : Nat → Nat} {i c : Nat} : sg n t i c = true ↔ i < n ∧ t i = c := by simp [sg]
def pA (n : Nat) (t : Nat → Nat) (p : Nat) : Nat := if dg n t p = true then p + 1 else p
def pB (n : Nat) (t : Nat → Nat) (p : Nat) : Nat := if dg n t (pA n t p) = true then pA n t p + 1 else pA n t p
def oneV (n : Nat) (t : Nat → Nat) (p : Nat) : Nat := if dg n t p = true then t p - 48 else 4294967295
def othV (n : Nat) (t : Nat → Nat) (p : Nat) : Nat := if dg n t (pA n t p) = true then t (pA n t p) - 48 else 4294967295
def okR (n : Nat) (t : Nat → Nat) (p : Nat) : Bool := sg n t (pB n t p) 58 && (dg n t (pB n t p + 1) && sg n t (pB n t p + 2) 59)
/-- what the digits tell of places -/
abbrev goodP (o1 o2 dgs pl bu : Nat) : Prop := (o1 = 4294967295 ∨ o1 < pl) ∧ (o2 = 4294967295 ∨ o2 < pl) ∧ ¬ (dgs = 2 ∧ o1 = o2) ∧ dgs ≤ bu
def setP (o1 o2 : Nat) : Nat := (if o1 = 4294967295 then 0 else 1 <<< o1) ||| (if o2 = 4294967295 then 0 else 1 <<< o2)
theorem le_neg {a b : Nat} (ha : a = 4294967295 ∨ a ≤ 9) (hb : b ≤ 7) : nI b ≤ nI a ↔ a ≠ 4294967295 ∧ b ≤ a := by
  rcases ha with rfl | h
  · rw [Int32.le_iff_toInt_le, nI_toInt (by omega), nN_neg (by decide) (by decide)]
    omega
  · rw [nN_le (by omega) (by omega)]
    omega
section CX2
variable {l : Launch} {M : qM} {n : Nat} {t : Nat → Nat} {pa : Nat → Nat} {sw : Bool}
theorem c_isDigit (hP : M.2.2 = pX pa sw) (hx : TX M n t) (hw : WT n t) {i : Nat} (hi : i < 1000) : Ct l hdX kX mX2_isDigit [.ref 18, .int (nI i)] M (RI M (if dg n t i = true then 1 else 0)) := by
  refine Ct.of [some (.ref 18), some (.int (nI i))] (by decide +kernel) (fun h => absurd h (by decide)) (Nat.le_of_ble_eq_true rfl) rfl ?_
  have h60 := hw.1
  have h1 := hx.1
  by_cases hlt : i < n
  · have hc := hw.2 i hlt
    have hv := hx.2 i hlt
    refine T.iload_n (pc' := 1) (q_d dX2_isDigit_0 0 rfl) rfl rfl rfl ?_
    refine T.if_ltN (tgt := 38) (pc' := 4) (q_d dX2_isDigit_0 1 rfl) rfl (by decide) (by omega) ?_
    refine T.iload_n (pc' := 5) (q_d dX2_isDigit_0 2 rfl) rfl rfl rfl ?_
    refine T.aload_n (pc' := 6) (q_d dX2_isDigit_0 3 rfl) rfl rfl rfl ?_
    refine T.getI (pc' := 9) (ci := 2) (k0 := 1) (q_d dX2_isDigit_0 4 rfl) rfl rfl (by decide) rfl inX2 (by decide) rfl wF_X2_15 h1 ?_
    refine T.icmp_geN (tgt := 38) (pc' := 12) (q_d dX2_isDigit_0 5 rfl) rfl (by decide) (by omega) (by omega) (fun h9 => ?_) (fun h9 => ?_)
    · exact absurd h9 (by omega)
    · refine T.aload_n (pc' := 13) (q_d dX2_isDigit_0 6 rfl) rfl rfl rfl ?_
      refine T.getR (pc' := 16) (ci := 2) (k0 := 0) (q_d dX2_isDigit_0 7 rfl) rfl rfl (by decide) rfl inX2 (by decide) rfl wF_X2_9 (rP hP rfl) ?_
      refine T.iload_n (pc' := 17) (q_d dX2_isDigit_0 8 rfl) rfl rfl rfl ?_
      refine T.cald (pc' := 18) (q_d dX2_isDigit_0 9 rfl) rfl rfl (by decide) rfl (by omega) (by decide) hv ?_
      refine T.bipush (pc' := 20) (v := nI 48) (q_d dX2_isDigit_0 10 rfl) rfl (by decide) ?_
      refine T.icmp_ltN (tgt := 38) (pc' := 23) (q_d dX2_isDigit_0 11 rfl) rfl (by decide) (by omega) (by omega) (fun h20 => ?_) (fun h20 => ?_)
      · refine T.iconst (pc' := 39) (v := nI 0) (q_d dX2_isDigit_0 20 rfl) rfl (by decide) ?_
        refine T.zret (q_d dX2_isDigit_0 21 rfl) rfl (by decide) rfl rfl ?_
        refine ⟨rfl, ?_⟩
        first
          | rw [if_pos (dg_iff.mpr ⟨hlt, by omega, by omega⟩)]
          | rw [if_neg (fun e => by have := dg_iff.mp e; omega)]
      · refine T.aload_n (pc' := 24) (q_d dX2_isDigit_0 12 rfl) rfl rfl rfl ?_
        refine T.getR (pc' := 27) (ci := 2) (k0 := 0) (q_d dX2_isDigit_0 13 rfl) rfl rfl (by decide) rfl inX2 (by decide) rfl wF_X2_9 (rP hP rfl) ?_
        refine T.iload_n (pc' := 28) (q_d dX2_isDigit_0 14 rfl) rfl rfl rfl ?_
        refine T.cald (pc' := 29) (q_d dX2_isDigit_0 15 rfl) rfl rfl (by decide) rfl (by omega) (by decide) hv ?_
        refine T.bipush (pc' := 31) (v := nI 57) (q_d dX2_isDigit_0 16 rfl) rfl (by decide) ?_
        refine T.icmp_gtN (tgt := 38) (pc' := 34) (q_d dX2_isDigit_0 17 rfl) rfl (by decide) (by omega) (by omega) (fun h31 => ?_) (fun h31 => ?_)
        · refine T.iconst (pc' := 39) (v := nI 0) (q_d dX2_isDigit_0 20 rfl) rfl (by decide) ?_
          refine T.zret (q_d dX2_isDigit_0 21 rfl) rfl (by decide) rfl rfl ?_
          refine ⟨rfl, ?_⟩
          first
            | rw [if_pos (dg_iff.mpr ⟨hlt, by omega, by omega⟩)]
            | rw [if_neg (fun e => by have := dg_iff.mp e; omega)]
        · refine T.iconst (pc' := 35) (v := nI 1) (q_d dX2_isDigit_0 18 rfl) rfl (by decide) ?_
          refine T.goto (tgt := 39) (q_d dX2_isDigit_0 19 rfl) (by decide) ?_
          refine T.zret (q_d dX2_isDigit_0 21 rfl) rfl (by decide) rfl rfl ?_
          refine ⟨rfl, ?_⟩
          first
            | rw [if_pos (dg_iff.mpr ⟨hlt, by omega, by omega⟩)]
            | rw [if_neg (fun e => by have := dg_iff.mp e; omega)]
  · refine T.iload_n (pc' := 1) (q_d dX2_isDigit_0 0 rfl) rfl rfl rfl ?_
    refine T.if_ltN (tgt := 38) (pc' := 4) (q_d dX2_isDigit_0 1 rfl) rfl (by decide) (by omega) ?_
    refine T.iload_n (pc' := 5) (q_d dX2_isDigit_0 2 rfl) rfl rfl rfl ?_
    refine T.aload_n (pc' := 6) (q_d dX2_isDigit_0 3 rfl) rfl rfl rfl ?_
    refine T.getI (pc' := 9) (ci := 2) (k0 := 1) (q_d dX2_isDigit_0 4 rfl) rfl rfl (by decide) rfl inX2 (by decide) rfl wF_X2_15 h1 ?_
    refine T.icmp_geN (tgt := 38) (pc' := 12) (q_d dX2_isDigit_0 5 rfl) rfl (by decide) (by omega) (by omega) (fun h9 => ?_) (fun h9 => ?_)
    · refine T.iconst (pc' := 39) (v := nI 0) (q_d dX2_isDigit_0 20 rfl) rfl (by decide) ?_
      refine T.zret (q_d dX2_isDigit_0 21 rfl) rfl (by decide) rfl rfl ?_
      exact ⟨rfl, by rw [if_neg (fun e => by have := dg_iff.mp e; omega)]⟩
    · exact absurd h9 (by omega)
theorem c_isDigit1 (hP : M.2.2 = pX pa sw) (hx : TX M n t) (hw : WT n t) {i : Nat} (hi : i < 1000) (hd : dg n t i = true) : Ct l hdX kX mX2_isDigit [.ref 18, .int (nI i)] M (RI M 1) := by
  have h := c_isDigit (l := l) hP hx hw hi
  rwa [if_pos hd] at h
theorem c_isDigit0 (hP : M.2.2 = pX pa sw) (hx : TX M n t) (hw : WT n t) {i : Nat} (hi : i < 1000) (hd : dg n t i = false) : Ct l hdX kX mX2_isDigit [.ref 18, .int (nI i)] M (RI M 0) := by
  have h := c_isDigit (l := l) hP hx hw hi
  rwa [if_neg (by rw [hd]; decide)] at h
theorem c_isSign (hP : M.2.2 = pX pa sw) (hx : TX M n t) (hw : WT n t) {i c : Nat} (hi : i < 1000) (hc9 : c < 1000) : Ct l hdX kX mX2_isSign [.ref 18, .int (nI i), .int (nI c)] M (RI M (if sg n t i c = true then 1 else 0)) := by
  refine Ct.of [some (.ref 18), some (.int (nI i)), some (.int (nI c))] (by decide +kernel) (fun h => absurd h (by decide)) (Nat.le_of_ble_eq_true rfl) rfl ?_
  have h60 := hw.1
  have h1 := hx.1
  by_cases hlt : i < n
  · have hc := hw.2 i hlt
    have hv := hx.2 i hlt
    refine T.iload_n (pc' := 1) (q_d dX2_isSign_0 0 rfl) rfl rfl rfl ?_
    refine T.if_ltN (tgt := 26) (pc' := 4) (q_d dX2_isSign_0 1 rfl) rfl (by decide) (by omega) ?_
    refine T.iload_n (pc' := 5) (q_d dX2_isSign_0 2 rfl) rfl rfl rfl ?_
    refine T.aload_n (pc' := 6) (q_d dX2_isSign_0 3 rfl) rfl rfl rfl ?_
    refine T.getI (pc' := 9) (ci := 2) (k0 := 1) (q_d dX2_isSign_0 4 rfl) rfl rfl (by decide) rfl inX2 (by decide) rfl wF_X2_15 h1 ?_
    refine T.icmp_geN (tgt := 26) (pc' := 12) (q_d dX2_isSign_0 5 rfl) rfl (by decide) (by omega) (by omega) (fun h9 => ?_) (fun h9 => ?_)
    · exact absurd h9 (by omega)
    · refine T.aload_n (pc' := 13) (q_d dX2_isSign_0 6 rfl) rfl rfl rfl ?_
      refine T.getR (pc' := 16) (ci := 2) (k0 := 0) (q_d dX2_isSign_0 7 rfl) rfl rfl (by decide) rfl inX2 (by decide) rfl wF_X2_9 (rP hP rfl) ?_
      refine T.iload_n (pc' := 17) (q_d dX2_isSign_0 8 rfl) rfl rfl rfl ?_
      refine T.cald (pc' := 18) (q_d dX2_isSign_0 9 rfl) rfl rfl (by decide) rfl (by omega) (by decide) hv ?_
      refine T.iload_n (pc' := 19) (q_d dX2_isSign_0 10 rfl) rfl rfl rfl ?_
      refine T.icmp_neN (tgt := 26) (pc' := 22) (q_d dX2_isSign_0 11 rfl) rfl (by decide) (by omega) (by omega) (fun h19 => ?_) (fun h19 => ?_)
      · refine T.iconst (pc' := 27) (v := nI 0) (q_d dX2_isSign_0 14 rfl) rfl (by decide) ?_
        refine T.zret (q_d dX2_isSign_0 15 rfl) rfl (by decide) rfl rfl ?_
        refine ⟨rfl, ?_⟩
        first
          | rw [if_pos (sg_iff.mpr ⟨hlt, h19⟩)]
          | rw [if_neg (fun e => h19 (sg_iff.mp e).2)]
      · refine T.iconst (pc' := 23) (v := nI 1) (q_d dX2_isSign_0 12 rfl) rfl (by decide) ?_
        refine T.goto (tgt := 27) (q_d dX2_isSign_0 13 rfl) (by decide) ?_
        refine T.zret (q_d dX2_isSign_0 15 rfl) rfl (by decide) rfl rfl ?_
        refine ⟨rfl, ?_⟩
        first
          | rw [if_pos (sg_iff.mpr ⟨hlt, h19⟩)]
          | rw [if_neg (fun e => h19 (sg_iff.mp e).2)]
  · refine T.iload_n (pc' := 1) (q_d dX2_isSign_0 0 rfl) rfl rfl rfl ?_
    refine T.if_ltN (tgt := 26) (pc' := 4) (q_d dX2_isSign_0 1 rfl) rfl (by decide) (by omega) ?_
    refine T.iload_n (pc' := 5) (q_d dX2_isSign_0 2 rfl) rfl rfl rfl ?_
    refine T.aload_n (pc' := 6) (q_d dX2_isSign_0 3 rfl) rfl rfl rfl ?_
    refine T.getI (pc' := 9) (ci := 2) (k0 := 1) (q_d dX2_isSign_0 4 rfl) rfl rfl (by decide) rfl inX2 (by decide) rfl wF_X2_15 h1 ?_
    refine T.icmp_geN (tgt := 26) (pc' := 12) (q_d dX2_isSign_0 5 rfl) rfl (by decide) (by omega) (by omega) (fun h9 => ?_) (fun h9 => ?_)
    · refine T.iconst (pc' := 27) (v := nI 0) (q_d dX2_isSign_0 14 rfl) rfl (by decide) ?_
      refine T.zret (q_d dX2_isSign_0 15 rfl) rfl (by decide) rfl rfl ?_
      exact ⟨rfl, by rw [if_neg (fun e => by have := sg_iff.mp e; omega)]⟩
    · exact absurd h9 (by omega)
theorem c_isSign1 (hP : M.2.2 = pX pa sw) (hx : TX M n t) (hw : WT n t) {i c : Nat} (hi : i < 1000) (hc9 : c < 1000) (hd : sg n t i c = true) : Ct l hdX kX mX2_isSign [.ref 18, .int (nI i), .int (nI c)] M (RI M 1) := by
  have h := c_isSign (l := l) hP hx hw hi hc9
  rwa [if_pos hd] at h
theorem c_isSign0 (hP : M.2.2 = pX pa sw) (hx : TX M n t) (hw : WT n t) {i c : Nat} (hi : i < 1000) (hc9 : c < 1000) (hd : sg n t i c = false) : Ct l hdX kX mX2_isSign [.ref 18, .int (nI i), .int (nI c)] M (RI M 0) := by
  have h := c_isSign (l := l) hP hx hw hi hc9
  rwa [if_neg (by rw [hd]; decide)] at h
theorem c_digitAt (hP : M.2.2 = pX pa sw) (hx : TX M n t) (hw : WT n t) {i : Nat} (hi : i < 1000) (hd : dg n t i = true) : Ct l hdX kX mX2_digitAt [.ref 18, .int (nI i)] M (RI M (t i - 48)) := by
  refine Ct.of [some (.ref 18), some (.int (nI i))] (by decide +kernel) (fun h => absurd h (by decide)) (Nat.le_of_ble_eq_true rfl) rfl ?_
  have h60 := hw.1
  have hd9 := dg_iff.mp hd
  have hv := hx.2 i hd9.1
  refine T.aload_n (pc' := 1) (q_d dX2_digitAt_0 0 rfl) rfl rfl rfl ?_
  refine T.iload_n (pc' := 2) (q_d dX2_digitAt_0 1 rfl) rfl rfl rfl ?_
  refine T.callV (pc' := 5) (ci := 2) (q_d dX2_digitAt_0 2 rfl) rfl uX2_isDigit wM_X2_31 (c_isDigit1 hP hx hw hi hd) rfl rfl (by decide) rfl rfl (by decide) (Nat.le_of_ble_eq_true rfl) rfl rfl (fun _ => rfl) ?_
  rintro _ _ ⟨rfl, rfl⟩
  dsimp only [Option.toList, List.cons_append, List.nil_append, List.append_nil]
  refine T.if_eqN (tgt := 20) (pc' := 8) (q_d dX2_digitAt_0 3 rfl) rfl (by decide) (by omega) (fun h5 => ?_) (fun h5 => ?_)
  · exact absurd h5 (by decide)
  · refine T.aload_n (pc' := 9) (q_d dX2_digitAt_0 4 rfl) rfl rfl rfl ?_
    refine T.getR (pc' := 12) (ci := 2) (k0 := 0) (q_d dX2_digitAt_0 5 rfl) rfl rfl (by decide) rfl inX2 (by decide) rfl wF_X2_9 (rP hP rfl) ?_
    refine T.iload_n (pc' := 13) (q_d dX2_digitAt_0 6 rfl) rfl rfl rfl ?_
    refine T.cald (pc' := 14) (q_d dX2_digitAt_0 7 rfl) rfl rfl (by decide) rfl (by omega) (by decide) hv ?_
    refine T.bipush (pc' := 16) (v := nI 48) (q_d dX2_digitAt_0 8 rfl) rfl (by decide) ?_
    refine T.isub (pc' := 17) (q_d dX2_digitAt_0 9 rfl) rfl (nN_sub (by omega)) ?_
    refine T.goto (tgt := 21) (q_d dX2_digitAt_0 10 rfl) (by decide) ?_
    refine T.iret (q_d dX2_digitAt_0 12 rfl) rfl rfl rfl ?_
    exact ⟨rfl, rfl⟩
theorem TX.q {M : qM} {n : Nat} {t : Nat → Nat} (h : TX M n t) {k x : Nat} (hk : k ≠ 1) : TX (qI M 18 k x) n t := ⟨(qI_ne (Or.inr (Ne.symm hk))).trans h.1, fun i hi => (qI_ne (Or.inl (by decide))).trans (h.2 i hi)⟩
/-- what reading a round leaves -/
def RdQ (M : qM) (n : Nat) (t : Nat → Nat) (p : Nat) : Option Value → qM → Prop := fun v M' =>
  M'.2 = M.2 ∧ (∀ a, a ≠ 18 → M'.1 a = M.1 a) ∧ (M'.1 18 1 = M.1 18 1 ∧ M'.1 18 2 = M.1 18 2 ∧ M'.1 18 3 = M.1 18 3) ∧ M'.1 18 7 = oneV n t p ∧ M'.1 18 8 = othV n t p ∧ M'.1 18 6 = pB n t p - p ∧
  ((v = some (.int (nI 1)) ∧ okR n t p = true ∧ M'.1 18 4 = t (pB n t p + 1) - 48 ∧ M'.1 18 5 = pB n t p + 3) ∨ (v = some (.int (nI 0)) ∧ okR n t p = false))

theorem c_readRound (hP : M.2.2 = pX pa sw) (hx : TX M n t) (hw : WT n t) {p : Nat} (hp : p ≤ 60) (h2 : M.1 18 2 = p) : Ct l hdX kX mX2_readRound [.ref 18] M (RdQ M n t p) := by
  refine Ct.of [some (.ref 18), none] (by decide +kernel) (fun h => absurd h (by decide)) (Nat.le_of_ble_eq_true rfl) rfl ?_
  have h60 := hw.1
  have st2 : ∀ {x y z : Nat}, (qI (qI (qI M 18 6 x) 18 7 y) 18 8 z).1 18 2 = p := fun {x y z} => by rw [qI_ne (Or.inr (by decide)), qI_ne (Or.inr (by decide)), qI_ne (Or.inr (by decide))]; exact h2
  cases d1 : dg n t p with
  | false =>
    have eA : pA n t p = p := if_neg (by rw [d1]; decide)
    have eB : pB n t p = p := by unfold pB; rw [eA, if_neg (by rw [d1]; decide)]
    have e1 : oneV n t p = 4294967295 := if_neg (by rw [d1]; decide)
    have e2 : othV n t p = 4294967295 := by unfold othV; rw [eA, if_neg (by rw [d1]; decide)]
    have x3 : TX (qI (qI (qI M 18 6 0) 18 7 4294967295) 18 8 4294967295) n t := ((((hx).q (k := 6) (x := 0) (by decide)).q (k := 7) (x := 4294967295) (by decide)).q (k := 8) (x := 4294967295) (by decide))
    cases s1 : sg n t p 58 with
    | false =>
      have hok : okR n t p = false := by unfold okR; rw [eB, s1]; rfl
      refine T.aload_n (pc' := 1) (q_d dX2_readRound_0 0 rfl) rfl rfl rfl ?_
      refine T.iconst (pc' := 2) (v := nI 0) (q_d dX2_readRound_0 1 rfl) rfl (by decide) ?_
      refine T.putI (pc' := 5) (ci := 2) (k0 := 6) (q_d dX2_readRound_0 2 rfl) rfl rfl (by decide) rfl inX2 tyX2 tyX2_ok nmX2 (by decide) rfl wF_X2_19 rfl rfl rfl ?_
      refine T.aload_n (pc' := 6) (q_d dX2_readRound_0 3 rfl) rfl rfl rfl ?_
      refine T.iconst (pc' := 7) (v := nI 4294967295) (q_d dX2_readRound_0 4 rfl) rfl (by decide) ?_
      refine T.putI (pc' := 10) (ci := 2) (k0 := 7) (q_d dX2_readRound_0 5 rfl) rfl rfl (by decide) rfl inX2 tyX2 tyX2_ok nmX2 (by decide) rfl wF_X2_22 rfl rfl rfl ?_
      refine T.aload_n (pc' := 11) (q_d dX2_readRound_0 6 rfl) rfl rfl rfl ?_
      refine T.iconst (pc' := 12) (v := nI 4294967295) (q_d dX2_readRound_0 7 rfl) rfl (by decide) ?_
      refine T.putI (pc' := 15) (ci := 2) (k0 := 8) (q_d dX2_readRound_0 8 rfl) rfl rfl (by decide) rfl inX2 tyX2 tyX2_ok nmX2 (by decide) rfl wF_X2_25 rfl rfl rfl ?_
      refine T.aload_n (pc' := 16) (q_d dX2_readRound_0 9 rfl) rfl rfl rfl ?_
      refine T.getI (pc' := 19) (ci := 2) (k0 := 2) (q_d dX2_readRound_0 10 rfl) rfl rfl (by decide) rfl inX2 (by decide) rfl wF_X2_28 st2 ?_
      refine T.istore_n (pc' := 20) (q_d dX2_readRound_0 11 rfl) rfl rfl (by decide) rfl rfl ?_
      refine T.aload_n (pc' := 21) (q_d dX2_readRound_0 12 rfl) rfl rfl rfl ?_
      refine T.iload_n (pc' := 22) (q_d dX2_readRound_0 13 rfl) rfl rfl rfl ?_
      refine T.callV (pc' := 25) (ci := 2) (q_d dX2_readRound_0 14 rfl) rfl uX2_isDigit wM_X2_31 (c_isDigit0 (by exact hP) x3 hw (show p < 1000 by omega) d1) rfl rfl (by decide) rfl rfl (by decide) (Nat.le_of_ble_eq_true rfl) rfl rfl (fun _ => rfl) ?_
      rintro _ _ ⟨rfl, rfl⟩
      dsimp only [Option.toList, List.cons_append, List.nil_append, List.append_nil]
      refine T.if_eqN (tgt := 50) (pc' := 28) (q_d dX2_readRound_0 15 rfl) rfl (by decide) (by omega) (fun h25 => ?_) (fun h25 => ?_)
      · refine T.aload_n (pc' := 51) (q_d dX2_readRound_0 28 rfl) rfl rfl rfl ?_
        refine T.iload_n (pc' := 52) (q_d dX2_readRound_0 29 rfl) rfl rfl rfl ?_
        refine T.callV (pc' := 55) (ci := 2) (q_d dX2_readRound_0 30 rfl) rfl uX2_isDigit wM_X2_31 (c_isDigit0 (by exact hP) x3 hw (show p < 1000 by omega) d1) rfl rfl (by decide) rfl rfl (by decide) (Nat.le_of_ble_eq_true rfl) rfl rfl (fun _ => rfl) ?_
        rintro _ _ ⟨rfl, rfl⟩
        dsimp only [Option.toList, List.cons_append, List.nil_append, List.append_nil]
        refine T.if_eqN (tgt := 80) (pc' := 58) (q_d dX2_readRound_0 31 rfl) rfl (by decide) (by omega) (fun h55 => ?_) (fun h55 => ?_)
        · refine T.aload_n (pc' := 81) (q_d dX2_readRound_1 4 rfl) rfl rfl rfl ?_
          refine T.iload_n (pc' := 82) (q_d dX2_readRound_1 5 rfl) rfl rfl rfl ?_
          refine T.bipush (pc' := 84) (v := nI 58) (q_d dX2_readRound_1 6 rfl) rfl (by decide) ?_
          refine T.callV (pc' := 87) (ci := 2) (q_d dX2_readRound_1 7 rfl) rfl uX2_isSign wM_X2_39 (c_isSign0 (by exact hP) x3 hw (show p < 1000 by omega) (by decide) s1) rfl rfl (by decide) rfl rfl (by decide) (Nat.le_of_ble_eq_true rfl) rfl rfl (fun _ => rfl) ?_
          rintro _ _ ⟨rfl, rfl⟩
          dsimp only [Option.toList, List.cons_append, List.nil_append, List.append_nil]
          refine T.if_eqN (tgt := 112) (pc' := 90) (q_d dX2_readRound_1 8 rfl) rfl (by decide) (by omega) (fun h87 => ?_) (fun h87 => ?_)
          · refine T.iconst (pc' := 113) (v := nI 0) (q_d dX2_readRound_1 22 rfl) rfl (by decide) ?_
            refine T.zret (q_d dX2_readRound_1 23 rfl) rfl (by decide) rfl rfl ?_
            refine ⟨rfl, fun a ha => ?_, ⟨?_, ?_, ?_⟩, ?_, ?_, ?_, Or.inr ⟨rfl, hok⟩⟩
            · funext j; simp [qI, ha]
            · simp [qI]
            · simp [qI]
            · simp [qI]
            · rw [e1]; simp [qI]
            · rw [e2]; simp [qI]
            · rw [eB]; simp [qI]; try omega
          · exact absurd rfl h87
        · exact absurd rfl h55
      · exact absurd rfl h25
    | true =>
      cases s2 : dg n t (p + 1) with
      | false =>
        have hok : okR n t p = false := by unfold okR; rw [eB, s1, s2]; rfl
        refine T.aload_n (pc' := 1) (q_d dX2_readRound_0 0 rfl) rfl rfl rfl ?_
        refine T.iconst (pc' := 2) (v := nI 0) (q_d dX2_readRound_0 1 rfl) rfl (by decide) ?_
        refine T.putI (pc' := 5) (ci := 2) (k0 := 6) (q_d dX2_readRound_0 2 rfl) rfl rfl (by decide) rfl inX2 tyX2 tyX2_ok nmX2 (by decide) rfl wF_X2_19 rfl rfl rfl ?_
        refine T.aload_n (pc' := 6) (q_d dX2_readRound_0 3 rfl) rfl rfl rfl ?_
        refine T.iconst (pc' := 7) (v := nI 4294967295) (q_d dX2_readRound_0 4 rfl) rfl (by decide) ?_
        refine T.putI (pc' := 10) (ci := 2) (k0 := 7) (q_d dX2_readRound_0 5 rfl) rfl rfl (by decide) rfl inX2 tyX2 tyX2_ok nmX2 (by decide) rfl wF_X2_22 rfl rfl rfl ?_
        refine T.aload_n (pc' := 11) (q_d dX2_readRound_0 6 rfl) rfl rfl rfl ?_
        refine T.iconst (pc' := 12) (v := nI 4294967295) (q_d dX2_readRound_0 7 rfl) rfl (by decide) ?_
        refine T.putI (pc' := 15) (ci := 2) (k0 := 8) (q_d dX2_readRound_0 8 rfl) rfl rfl (by decide) rfl inX2 tyX2 tyX2_ok nmX2 (by decide) rfl wF_X2_25 rfl rfl rfl ?_
        refine T.aload_n (pc' := 16) (q_d dX2_readRound_0 9 rfl) rfl rfl rfl ?_
        refine T.getI (pc' := 19) (ci := 2) (k0 := 2) (q_d dX2_readRound_0 10 rfl) rfl rfl (by decide) rfl inX2 (by decide) rfl wF_X2_28 st2 ?_
        refine T.istore_n (pc' := 20) (q_d dX2_readRound_0 11 rfl) rfl rfl (by decide) rfl rfl ?_
        refine T.aload_n (pc' := 21) (q_d dX2_readRound_0 12 rfl) rfl rfl rfl ?_
        refine T.iload_n (pc' := 22) (q_d dX2_readRound_0 13 rfl) rfl rfl rfl ?_
        refine T.callV (pc' := 25) (ci := 2) (q_d dX2_readRound_0 14 rfl) rfl uX2_isDigit wM_X2_31 (c_isDigit0 (by exact hP) x3 hw (show p < 1000 by omega) d1) rfl rfl (by decide) rfl rfl (by decide) (Nat.le_of_ble_eq_true rfl) rfl rfl (fun _ => rfl) ?_
        rintro _ _ ⟨rfl, rfl⟩
        dsimp only [Option.toList, List.cons_append, List.nil_append, List.append_nil]
        refine T.if_eqN (tgt := 50) (pc' := 28) (q_d dX2_readRound_0 15 rfl) rfl (by decide) (by omega) (fun h25 => ?_) (fun h25 => ?_)
        · refine T.aload_n (pc' := 51) (q_d dX2_readRound_0 28 rfl) rfl rfl rfl ?_
          refine T.iload_n (pc' := 52) (q_d dX2_readRound_0 29 rfl) rfl rfl rfl ?_
          refine T.callV (pc' := 55) (ci := 2) (q_d dX2_readRound_0 30 rfl) rfl uX2_isDigit wM_X2_31 (c_isDigit0 (by exact hP) x3 hw (show p < 1000 by omega) d1) rfl rfl (by decide) rfl rfl (by decide) (Nat.le_of_ble_eq_true rfl) rfl rfl (fun _ => rfl) ?_
          rintro _ _ ⟨rfl, rfl⟩
          dsimp only [Option.toList, List.cons_append, List.nil_append, List.append_nil]
          refine T.if_eqN (tgt := 80) (pc' := 58) (q_d dX2_readRound_0 31 rfl) rfl (by decide) (by omega) (fun h55 => ?_) (fun h55 => ?_)
          · refine T.aload_n (pc' := 81) (q_d dX2_readRound_1 4 rfl) rfl rfl rfl ?_
            refine T.iload_n (pc' := 82) (q_d dX2_readRound_1 5 rfl) rfl rfl rfl ?_
            refine T.bipush (pc' := 84) (v := nI 58) (q_d dX2_readRound_1 6 rfl) rfl (by decide) ?_
            refine T.callV (pc' := 87) (ci := 2) (q_d dX2_readRound_1 7 rfl) rfl uX2_isSign wM_X2_39 (c_isSign1 (by exact hP) x3 hw (show p < 1000 by omega) (by decide) s1) rfl rfl (by decide) rfl rfl (by decide) (Nat.le_of_ble_eq_true rfl) rfl rfl (fun _ => rfl) ?_
            rintro _ _ ⟨rfl, rfl⟩
            dsimp only [Option.toList, List.cons_append, List.nil_append, List.append_nil]
            refine T.if_eqN (tgt := 112) (pc' := 90) (q_d dX2_readRound_1 8 rfl) rfl (by decide) (by omega) (fun h87 => ?_) (fun h87 => ?_)
            · exact absurd h87 (by decide)
            · refine T.aload_n (pc' := 91) (q_d dX2_readRound_1 9 rfl) rfl rfl rfl ?_
              refine T.iload_n (pc' := 92) (q_d dX2_readRound_1 10 rfl) rfl rfl rfl ?_
              refine T.iconst (pc' := 93) (v := nI 1) (q_d dX2_readRound_1 11 rfl) rfl (by decide) ?_
              refine T.iadd (pc' := 94) (q_d dX2_readRound_1 12 rfl) rfl (nI_add _ _) ?_
              refine T.callV (pc' := 97) (ci := 2) (q_d dX2_readRound_1 13 rfl) rfl uX2_isDigit wM_X2_31 (c_isDigit0 (by exact hP) x3 hw (show p + 1 < 1000 by omega) s2) rfl rfl (by decide) rfl rfl (by decide) (Nat.le_of_ble_eq_true rfl) rfl rfl (fun _ => rfl) ?_
              rintro _ _ ⟨rfl, rfl⟩
              dsimp only [Option.toList, List.cons_append, List.nil_append, List.append_nil]
              refine T.if_eqN (tgt := 112) (pc' := 100) (q_d dX2_readRound_1 14 rfl) rfl (by decide) (by omega) (fun h97 => ?_) (fun h97 => ?_)
              · refine T.iconst (pc' := 113) (v := nI 0) (q_d dX2_readRound_1 22 rfl) rfl (by decide) ?_
                refine T.zret (q_d dX2_readRound_1 23 rfl) rfl (by decide) rfl rfl ?_
                refine ⟨rfl, fun a ha => ?_, ⟨?_, ?_, ?_⟩, ?_, ?_, ?_, Or.inr ⟨rfl, hok⟩⟩
                · funext j; simp [qI, ha]
                · simp [qI]
                · simp [qI]
                · simp [qI]
                · rw [e1]; simp [qI]
                · rw [e2]; simp [qI]
                · rw [eB]; simp [qI]; try omega
              · exact absurd rfl h97
          · exact absurd rfl h55
        · exact absurd rfl h25
      | true =>
        cases s3 : sg n t (p + 2) 59 with
        | false =>
          have hok : okR n t p = false := by unfold okR; rw [eB, s1, s2, s3]; rfl
          refine T.aload_n (pc' := 1) (q_d dX2_readRound_0 0 rfl) rfl rfl rfl ?_
          refine T.iconst (pc' := 2) (v := nI 0) (q_d dX2_readRound_0 1 rfl) rfl (by decide) ?_
          refine T.putI (pc' := 5) (ci := 2) (k0 := 6) (q_d dX2_readRound_0 2 rfl) rfl rfl (by decide) rfl inX2 tyX2 tyX2_ok nmX2 (by decide) rfl wF_X2_19 rfl rfl rfl ?_
          refine T.aload_n (pc' := 6) (q_d dX2_readRound_0 3 rfl) rfl rfl rfl ?_
          refine T.iconst (pc' := 7) (v := nI 4294967295) (q_d dX2_readRound_0 4 rfl) rfl (by decide) ?_
          refine T.putI (pc' := 10) (ci := 2) (k0 := 7) (q_d dX2_readRound_0 5 rfl) rfl rfl (by decide) rfl inX2 tyX2 tyX2_ok nmX2 (by decide) rfl wF_X2_22 rfl rfl rfl ?_
          refine T.aload_n (pc' := 11) (q_d dX2_readRound_0 6 rfl) rfl rfl rfl ?_
          refine T.iconst (pc' := 12) (v := nI 4294967295) (q_d dX2_readRound_0 7 rfl) rfl (by decide) ?_
          refine T.putI (pc' := 15) (ci := 2) (k0 := 8) (q_d dX2_readRound_0 8 rfl) rfl rfl (by decide) rfl inX2 tyX2 tyX2_ok nmX2 (by decide) rfl wF_X2_25 rfl rfl rfl ?_
          refine T.aload_n (pc' := 16) (q_d dX2_readRound_0 9 rfl) rfl rfl rfl ?_
          refine T.getI (pc' := 19) (ci := 2) (k0 := 2) (q_d dX2_readRound_0 10 rfl) rfl rfl (by decide) rfl inX2 (by decide) rfl wF_X2_28 st2 ?_
          refine T.istore_n (pc' := 20) (q_d dX2_readRound_0 11 rfl) rfl rfl (by decide) rfl rfl ?_
          refine T.aload_n (pc' := 21) (q_d dX2_readRound_0 12 rfl) rfl rfl rfl ?_
          refine T.iload_n (pc' := 22) (q_d dX2_readRound_0 13 rfl) rfl rfl rfl ?_
          refine T.callV (pc' := 25) (ci := 2) (q_d dX2_readRound_0 14 rfl) rfl uX2_isDigit wM_X2_31 (c_isDigit0 (by exact hP) x3 hw (show p < 1000 by omega) d1) rfl rfl (by decide) rfl rfl (by decide) (Nat.le_of_ble_eq_true rfl) rfl rfl (fun _ => rfl) ?_
          rintro _ _ ⟨rfl, rfl⟩
          dsimp only [Option.toList, List.cons_append, List.nil_append, List.append_nil]
          refine T.if_eqN (tgt := 50) (pc' := 28) (q_d dX2_readRound_0 15 rfl) rfl (by decide) (by omega) (fun h25 => ?_) (fun h25 => ?_)
          · refine T.aload_n (pc' := 51) (q_d dX2_readRound_0 28 rfl) rfl rfl rfl ?_
            refine T.iload_n (pc' := 52) (q_d dX2_readRound_0 29 rfl) rfl rfl rfl ?_
            refine T.callV (pc' := 55) (ci := 2) (q_d dX2_readRound_0 30 rfl) rfl uX2_isDigit wM_X2_31 (c_isDigit0 (by exact hP) x3 hw (show p < 1000 by omega) d1) rfl rfl (by decide) rfl rfl (by decide) (Nat.le_of_ble_eq_true rfl) rfl rfl (fun _ => rfl) ?_
            rintro _ _ ⟨rfl, rfl⟩
            dsimp only [Option.toList, List.cons_append, List.nil_append, List.append_nil]
            refine T.if_eqN (tgt := 80) (pc' := 58) (q_d dX2_readRound_0 31 rfl) rfl (by decide) (by omega) (fun h55 => ?_) (fun h55 => ?_)
            · refine T.aload_n (pc' := 81) (q_d dX2_readRound_1 4 rfl) rfl rfl rfl ?_
              refine T.iload_n (pc' := 82) (q_d dX2_readRound_1 5 rfl) rfl rfl rfl ?_
              refine T.bipush (pc' := 84) (v := nI 58) (q_d dX2_readRound_1 6 rfl) rfl (by decide) ?_
              refine T.callV (pc' := 87) (ci := 2) (q_d dX2_readRound_1 7 rfl) rfl uX2_isSign wM_X2_39 (c_isSign1 (by exact hP) x3 hw (show p < 1000 by omega) (by decide) s1) rfl rfl (by decide) rfl rfl (by decide) (Nat.le_of_ble_eq_true rfl) rfl rfl (fun _ => rfl) ?_
              rintro _ _ ⟨rfl, rfl⟩
              dsimp only [Option.toList, List.cons_append, List.nil_append, List.append_nil]
              refine T.if_eqN (tgt := 112) (pc' := 90) (q_d dX2_readRound_1 8 rfl) rfl (by decide) (by omega) (fun h87 => ?_) (fun h87 => ?_)
              · exact absurd h87 (by decide)
              · refine T.aload_n (pc' := 91) (q_d dX2_readRound_1 9 rfl) rfl rfl rfl ?_
                refine T.iload_n (pc' := 92) (q_d dX2_readRound_1 10 rfl) rfl rfl rfl ?_
                refine T.iconst (pc' := 93) (v := nI 1) (q_d dX2_readRound_1 11 rfl) rfl (by decide) ?_
                refine T.iadd (pc' := 94) (q_d dX2_readRound_1 12 rfl) rfl (nI_add _ _) ?_
                refine T.callV (pc' := 97) (ci := 2) (q_d dX2_readRound_1 13 rfl) rfl uX2_isDigit wM_X2_31 (c_isDigit1 (by exact hP) x3 hw (show p + 1 < 1000 by omega) s2) rfl rfl (by decide) rfl rfl (by decide) (Nat.le_of_ble_eq_true rfl) rfl rfl (fun _ => rfl) ?_
                rintro _ _ ⟨rfl, rfl⟩
                dsimp only [Option.toList, List.cons_append, List.nil_append, List.append_nil]
                refine T.if_eqN (tgt := 112) (pc' := 100) (q_d dX2_readRound_1 14 rfl) rfl (by decide) (by omega) (fun h97 => ?_) (fun h97 => ?_)
                · exact absurd h97 (by decide)
                · refine T.aload_n (pc' := 101) (q_d dX2_readRound_1 15 rfl) rfl rfl rfl ?_
                  refine T.iload_n (pc' := 102) (q_d dX2_readRound_1 16 rfl) rfl rfl rfl ?_
                  refine T.iconst (pc' := 103) (v := nI 2) (q_d dX2_readRound_1 17 rfl) rfl (by decide) ?_
                  refine T.iadd (pc' := 104) (q_d dX2_readRound_1 18 rfl) rfl (nI_add _ _) ?_
                  refine T.bipush (pc' := 106) (v := nI 59) (q_d dX2_readRound_1 19 rfl) rfl (by decide) ?_
                  refine T.callV (pc' := 109) (ci := 2) (q_d dX2_readRound_1 20 rfl) rfl uX2_isSign wM_X2_39 (c_isSign0 (by exact hP) x3 hw (show p + 2 < 1000 by omega) (by decide) s3) rfl rfl (by decide) rfl rfl (by decide) (Nat.le_of_ble_eq_true rfl) rfl rfl (fun _ => rfl) ?_
                  rintro _ _ ⟨rfl, rfl⟩
                  dsimp only [Option.toList, List.cons_append, List.nil_append, List.append_nil]
                  refine T.if_neN (tgt := 114) (pc' := 112) (q_d dX2_readRound_1 21 rfl) rfl (by decide) (by omega) (fun h109 => ?_) (fun h109 => ?_)
                  · exact absurd rfl h109
                  · refine T.iconst (pc' := 113) (v := nI 0) (q_d dX2_readRound_1 22 rfl) rfl (by decide) ?_
                    refine T.zret (q_d dX2_readRound_1 23 rfl) rfl (by decide) rfl rfl ?_
                    refine ⟨rfl, fun a ha => ?_, ⟨?_, ?_, ?_⟩, ?_, ?_, ?_, Or.inr ⟨rfl, hok⟩⟩
                    · funext j; simp [qI, ha]
                    · simp [qI]
                    · simp [qI]
                    · simp [qI]
                    · rw [e1]; simp [qI]
                    · rw [e2]; simp [qI]
                    · rw [eB]; simp [qI]; try omega
            · exact absurd rfl h55
          · exact absurd rfl h25
        | true =>
          have hok : okR n t p = true := by unfold okR; rw [eB, s1, s2, s3]; rfl
          refine T.aload_n (pc' := 1) (q_d dX2_readRound_0 0 rfl) rfl rfl rfl ?_
          refine T.iconst (pc' := 2) (v := nI 0) (q_d dX2_readRound_0 1 rfl) rfl (by decide) ?_
          refine T.putI (pc' := 5) (ci := 2) (k0 := 6) (q_d dX2_readRound_0 2 rfl) rfl rfl (by decide) rfl inX2 tyX2 tyX2_ok nmX2 (by decide) rfl wF_X2_19 rfl rfl rfl ?_
          refine T.aload_n (pc' := 6) (q_d dX2_readRound_0 3 rfl) rfl rfl rfl ?_
          refine T.iconst (pc' := 7) (v := nI 4294967295) (q_d dX2_readRound_0 4 rfl) rfl (by decide) ?_
          refine T.putI (pc' := 10) (ci := 2) (k0 := 7) (q_d dX2_readRound_0 5 rfl) rfl rfl (by decide) rfl inX2 tyX2 tyX2_ok nmX2 (by decide) rfl wF_X2_22 rfl rfl rfl ?_
          refine T.aload_n (pc' := 11) (q_d dX2_readRound_0 6 rfl) rfl rfl rfl ?_
          refine T.iconst (pc' := 12) (v := nI 4294967295) (q_d dX2_readRound_0 7 rfl) rfl (by decide) ?_
          refine T.putI (pc' := 15) (ci := 2) (k0 := 8) (q_d dX2_readRound_0 8 rfl) rfl rfl (by decide) rfl inX2 tyX2 tyX2_ok nmX2 (by decide) rfl wF_X2_25 rfl rfl rfl ?_
          refine T.aload_n (pc' := 16) (q_d dX2_readRound_0 9 rfl) rfl rfl rfl ?_
          refine T.getI (pc' := 19) (ci := 2) (k0 := 2) (q_d dX2_readRound_0 10 rfl) rfl rfl (by decide) rfl inX2 (by decide) rfl wF_X2_28 st2 ?_
          refine T.istore_n (pc' := 20) (q_d dX2_readRound_0 11 rfl) rfl rfl (by decide) rfl rfl ?_
          refine T.aload_n (pc' := 21) (q_d dX2_readRound_0 12 rfl) rfl rfl rfl ?_
          refine T.iload_n (pc' := 22) (q_d dX2_readRound_0 13 rfl) rfl rfl rfl ?_
          refine T.callV (pc' := 25) (ci := 2) (q_d dX2_readRound_0 14 rfl) rfl uX2_isDigit wM_X2_31 (c_isDigit0 (by exact hP) x3 hw (show p < 1000 by omega) d1) rfl rfl (by decide) rfl rfl (by decide) (Nat.le_of_ble_eq_true rfl) rfl rfl (fun _ => rfl) ?_
          rintro _ _ ⟨rfl, rfl⟩
          dsimp only [Option.toList, List.cons_append, List.nil_append, List.append_nil]
          refine T.if_eqN (tgt := 50) (pc' := 28) (q_d dX2_readRound_0 15 rfl) rfl (by decide) (by omega) (fun h25 => ?_) (fun h25 => ?_)
          · refine T.aload_n (pc' := 51) (q_d dX2_readRound_0 28 rfl) rfl rfl rfl ?_
            refine T.iload_n (pc' := 52) (q_d dX2_readRound_0 29 rfl) rfl rfl rfl ?_
            refine T.callV (pc' := 55) (ci := 2) (q_d dX2_readRound_0 30 rfl) rfl uX2_isDigit wM_X2_31 (c_isDigit0 (by exact hP) x3 hw (show p < 1000 by omega) d1) rfl rfl (by decide) rfl rfl (by decide) (Nat.le_of_ble_eq_true rfl) rfl rfl (fun _ => rfl) ?_
            rintro _ _ ⟨rfl, rfl⟩
            dsimp only [Option.toList, List.cons_append, List.nil_append, List.append_nil]
            refine T.if_eqN (tgt := 80) (pc' := 58) (q_d dX2_readRound_0 31 rfl) rfl (by decide) (by omega) (fun h55 => ?_) (fun h55 => ?_)
            · refine T.aload_n (pc' := 81) (q_d dX2_readRound_1 4 rfl) rfl rfl rfl ?_
              refine T.iload_n (pc' := 82) (q_d dX2_readRound_1 5 rfl) rfl rfl rfl ?_
              refine T.bipush (pc' := 84) (v := nI 58) (q_d dX2_readRound_1 6 rfl) rfl (by decide) ?_
              refine T.callV (pc' := 87) (ci := 2) (q_d dX2_readRound_1 7 rfl) rfl uX2_isSign wM_X2_39 (c_isSign1 (by exact hP) x3 hw (show p < 1000 by omega) (by decide) s1) rfl rfl (by decide) rfl rfl (by decide) (Nat.le_of_ble_eq_true rfl) rfl rfl (fun _ => rfl) ?_
              rintro _ _ ⟨rfl, rfl⟩
              dsimp only [Option.toList, List.cons_append, List.nil_append, List.append_nil]
              refine T.if_eqN (tgt := 112) (pc' := 90) (q_d dX2_readRound_1 8 rfl) rfl (by decide) (by omega) (fun h87 => ?_) (fun h87 => ?_)
              · exact absurd h87 (by decide)
              · refine T.aload_n (pc' := 91) (q_d dX2_readRound_1 9 rfl) rfl rfl rfl ?_
                refine T.iload_n (pc' := 92) (q_d dX2_readRound_1 10 rfl) rfl rfl rfl ?_
                refine T.iconst (pc' := 93) (v := nI 1) (q_d dX2_readRound_1 11 rfl) rfl (by decide) ?_
                refine T.iadd (pc' := 94) (q_d dX2_readRound_1 12 rfl) rfl (nI_add _ _) ?_
                refine T.callV (pc' := 97) (ci := 2) (q_d dX2_readRound_1 13 rfl) rfl uX2_isDigit wM_X2_31 (c_isDigit1 (by exact hP) x3 hw (show p + 1 < 1000 by omega) s2) rfl rfl (by decide) rfl rfl (by decide) (Nat.le_of_ble_eq_true rfl) rfl rfl (fun _ => rfl) ?_
                rintro _ _ ⟨rfl, rfl⟩
                dsimp only [Option.toList, List.cons_append, List.nil_append, List.append_nil]
                refine T.if_eqN (tgt := 112) (pc' := 100) (q_d dX2_readRound_1 14 rfl) rfl (by decide) (by omega) (fun h97 => ?_) (fun h97 => ?_)
                · exact absurd h97 (by decide)
                · refine T.aload_n (pc' := 101) (q_d dX2_readRound_1 15 rfl) rfl rfl rfl ?_
                  refine T.iload_n (pc' := 102) (q_d dX2_readRound_1 16 rfl) rfl rfl rfl ?_
                  refine T.iconst (pc' := 103) (v := nI 2) (q_d dX2_readRound_1 17 rfl) rfl (by decide) ?_
                  refine T.iadd (pc' := 104) (q_d dX2_readRound_1 18 rfl) rfl (nI_add _ _) ?_
                  refine T.bipush (pc' := 106) (v := nI 59) (q_d dX2_readRound_1 19 rfl) rfl (by decide) ?_
                  refine T.callV (pc' := 109) (ci := 2) (q_d dX2_readRound_1 20 rfl) rfl uX2_isSign wM_X2_39 (c_isSign1 (by exact hP) x3 hw (show p + 2 < 1000 by omega) (by decide) s3) rfl rfl (by decide) rfl rfl (by decide) (Nat.le_of_ble_eq_true rfl) rfl rfl (fun _ => rfl) ?_
                  rintro _ _ ⟨rfl, rfl⟩
                  dsimp only [Option.toList, List.cons_append, List.nil_append, List.append_nil]
                  refine T.if_neN (tgt := 114) (pc' := 112) (q_d dX2_readRound_1 21 rfl) rfl (by decide) (by omega) (fun h109 => ?_) (fun h109 => ?_)
                  · refine T.aload_n (pc' := 115) (q_d dX2_readRound_1 24 rfl) rfl rfl rfl ?_
                    refine T.aload_n (pc' := 116) (q_d dX2_readRound_1 25 rfl) rfl rfl rfl ?_
                    refine T.iload_n (pc' := 117) (q_d dX2_readRound_1 26 rfl) rfl rfl rfl ?_
                    refine T.iconst (pc' := 118) (v := nI 1) (q_d dX2_readRound_1 27 rfl) rfl (by decide) ?_
                    refine T.iadd (pc' := 119) (q_d dX2_readRound_1 28 rfl) rfl (nI_add _ _) ?_
                    refine T.callV (pc' := 122) (ci := 2) (q_d dX2_readRound_1 29 rfl) rfl uX2_digitAt wM_X2_35 (c_digitAt (by exact hP) x3 hw (show p + 1 < 1000 by omega) s2) rfl rfl (by decide) rfl rfl (by decide) (Nat.le_of_ble_eq_true rfl) rfl rfl (fun _ => rfl) ?_
                    rintro _ _ ⟨rfl, rfl⟩
                    dsimp only [Option.toList, List.cons_append, List.nil_append, List.append_nil]
                    refine T.putI (pc' := 125) (ci := 2) (k0 := 4) (q_d dX2_readRound_1 30 rfl) rfl rfl (by decide) rfl inX2 tyX2 tyX2_ok nmX2 (by decide) rfl wF_X2_43 rfl rfl rfl ?_
                    refine T.aload_n (pc' := 126) (q_d dX2_readRound_1 31 rfl) rfl rfl rfl ?_
                    refine T.iload_n (pc' := 127) (q_d dX2_readRound_1 32 rfl) rfl rfl rfl ?_
                    refine T.iconst (pc' := 128) (v := nI 3) (q_d dX2_readRound_1 33 rfl) rfl (by decide) ?_
                    refine T.iadd (pc' := 129) (q_d dX2_readRound_1 34 rfl) rfl (nI_add _ _) ?_
                    refine T.putI (pc' := 132) (ci := 2) (k0 := 5) (q_d dX2_readRound_1 35 rfl) rfl rfl (by decide) rfl inX2 tyX2 tyX2_ok nmX2 (by decide) rfl wF_X2_46 rfl rfl rfl ?_
                    refine T.iconst (pc' := 133) (v := nI 1) (q_d dX2_readRound_1 36 rfl) rfl (by decide) ?_
                    refine T.zret (q_d dX2_readRound_1 37 rfl) rfl (by decide) rfl rfl ?_
                    refine ⟨rfl, fun a ha => ?_, ⟨?_, ?_, ?_⟩, ?_, ?_, ?_, Or.inl ⟨rfl, hok, ?_, ?_⟩⟩
                    · funext j; simp [qI, ha]
                    · simp [qI]
                    · simp [qI]
                    · simp [qI]
                    · rw [e1]; simp [qI]
                    · rw [e2]; simp [qI]
                    · rw [eB]; simp [qI]; try omega
                    · rw [eB]; simp [qI]
                    · rw [eB]; simp [qI]
                  · exact absurd h109 (by decide)
            · exact absurd rfl h55
          · exact absurd rfl h25
  | true =>
    cases d2 : dg n t (p + 1) with
    | false =>
      have eA : pA n t p = p + 1 := if_pos d1
      have e1 : oneV n t p = t p - 48 := if_pos d1
      have g1 := dg_iff.mp d1
      have eB : pB n t p = p + 1 := by unfold pB; rw [eA, if_neg (by rw [d2]; decide)]
      have e2 : othV n t p = 4294967295 := by unfold othV; rw [eA, if_neg (by rw [d2]; decide)]
      have x3 : TX (qI (qI (qI M 18 6 0) 18 7 4294967295) 18 8 4294967295) n t := ((((hx).q (k := 6) (x := 0) (by decide)).q (k := 7) (x := 4294967295) (by decide)).q (k := 8) (x := 4294967295) (by decide))
      cases s1 : sg n t (p + 1) 58 with
      | false =>
        have hok : okR n t p = false := by unfold okR; rw [eB, s1]; rfl
        refine T.aload_n (pc' := 1) (q_d dX2_readRound_0 0 rfl) rfl rfl rfl ?_
        refine T.iconst (pc' := 2) (v := nI 0) (q_d dX2_readRound_0 1 rfl) rfl (by decide) ?_
        refine T.putI (pc' := 5) (ci := 2) (k0 := 6) (q_d dX2_readRound_0 2 rfl) rfl rfl (by decide) rfl inX2 tyX2 tyX2_ok nmX2 (by decide) rfl wF_X2_19 rfl rfl rfl ?_
        refine T.aload_n (pc' := 6) (q_d dX2_readRound_0 3 rfl) rfl rfl rfl ?_
        refine T.iconst (pc' := 7) (v := nI 4294967295) (q_d dX2_readRound_0 4 rfl) rfl (by decide) ?_
        refine T.putI (pc' := 10) (ci := 2) (k0 := 7) (q_d dX2_readRound_0 5 rfl) rfl rfl (by decide) rfl inX2 tyX2 tyX2_ok nmX2 (by decide) rfl wF_X2_22 rfl rfl rfl ?_
        refine T.aload_n (pc' := 11) (q_d dX2_readRound_0 6 rfl) rfl rfl rfl ?_
        refine T.iconst (pc' := 12) (v := nI 4294967295) (q_d dX2_readRound_0 7 rfl) rfl (by decide) ?_
        refine T.putI (pc' := 15) (ci := 2) (k0 := 8) (q_d dX2_readRound_0 8 rfl) rfl rfl (by decide) rfl inX2 tyX2 tyX2_ok nmX2 (by decide) rfl wF_X2_25 rfl rfl rfl ?_
        refine T.aload_n (pc' := 16) (q_d dX2_readRound_0 9 rfl) rfl rfl rfl ?_
        refine T.getI (pc' := 19) (ci := 2) (k0 := 2) (q_d dX2_readRound_0 10 rfl) rfl rfl (by decide) rfl inX2 (by decide) rfl wF_X2_28 st2 ?_
        refine T.istore_n (pc' := 20) (q_d dX2_readRound_0 11 rfl) rfl rfl (by decide) rfl rfl ?_
        refine T.aload_n (pc' := 21) (q_d dX2_readRound_0 12 rfl) rfl rfl rfl ?_
        refine T.iload_n (pc' := 22) (q_d dX2_readRound_0 13 rfl) rfl rfl rfl ?_
        refine T.callV (pc' := 25) (ci := 2) (q_d dX2_readRound_0 14 rfl) rfl uX2_isDigit wM_X2_31 (c_isDigit1 (by exact hP) x3 hw (show p < 1000 by omega) d1) rfl rfl (by decide) rfl rfl (by decide) (Nat.le_of_ble_eq_true rfl) rfl rfl (fun _ => rfl) ?_
        rintro _ _ ⟨rfl, rfl⟩
        dsimp only [Option.toList, List.cons_append, List.nil_append, List.append_nil]
        refine T.if_eqN (tgt := 50) (pc' := 28) (q_d dX2_readRound_0 15 rfl) rfl (by decide) (by omega) (fun h25 => ?_) (fun h25 => ?_)
        · exact absurd h25 (by decide)
        · refine T.aload_n (pc' := 29) (q_d dX2_readRound_0 16 rfl) rfl rfl rfl ?_
          refine T.aload_n (pc' := 30) (q_d dX2_readRound_0 17 rfl) rfl rfl rfl ?_
          refine T.iload_n (pc' := 31) (q_d dX2_readRound_0 18 rfl) rfl rfl rfl ?_
          refine T.callV (pc' := 34) (ci := 2) (q_d dX2_readRound_0 19 rfl) rfl uX2_digitAt wM_X2_35 (c_digitAt (by exact hP) x3 hw (show p < 1000 by omega) d1) rfl rfl (by decide) rfl rfl (by decide) (Nat.le_of_ble_eq_true rfl) rfl rfl (fun _ => rfl) ?_
          rintro _ _ ⟨rfl, rfl⟩
          dsimp only [Option.toList, List.cons_append, List.nil_append, List.append_nil]
          refine T.putI (pc' := 37) (ci := 2) (k0 := 7) (q_d dX2_readRound_0 20 rfl) rfl rfl (by decide) rfl inX2 tyX2 tyX2_ok nmX2 (by decide) rfl wF_X2_22 rfl rfl rfl ?_
          refine T.aload_n (pc' := 38) (q_d dX2_readRound_0 21 rfl) rfl rfl rfl ?_
          refine T.dup (pc' := 39) (q_d dX2_readRound_0 22 rfl) rfl rfl ?_
          refine T.getI (pc' := 42) (ci := 2) (k0 := 6) (q_d dX2_readRound_0 23 rfl) rfl rfl (by decide) rfl inX2 (by decide) rfl wF_X2_19 rfl ?_
          refine T.iconst (pc' := 43) (v := nI 1) (q_d dX2_readRound_0 24 rfl) rfl (by decide) ?_
          refine T.iadd (pc' := 44) (q_d dX2_readRound_0 25 rfl) rfl (nI_add _ _) ?_
          refine T.putI (pc' := 47) (ci := 2) (k0 := 6) (q_d dX2_readRound_0 26 rfl) rfl rfl (by decide) rfl inX2 tyX2 tyX2_ok nmX2 (by decide) rfl wF_X2_19 rfl rfl rfl ?_
          refine T.iinc (pc' := 50) (q_d dX2_readRound_0 27 rfl) rfl rfl (nN_p _ 1) (by decide) rfl rfl ?_
          refine T.aload_n (pc' := 51) (q_d dX2_readRound_0 28 rfl) rfl rfl rfl ?_
          refine T.iload_n (pc' := 52) (q_d dX2_readRound_0 29 rfl) rfl rfl rfl ?_
          refine T.callV (pc' := 55) (ci := 2) (q_d dX2_readRound_0 30 rfl) rfl uX2_isDigit wM_X2_31 (c_isDigit0 (by exact hP) ((x3.q (k := 7) (by decide)).q (k := 6) (by decide)) hw (show p + 1 < 1000 by omega) d2) rfl rfl (by decide) rfl rfl (by decide) (Nat.le_of_ble_eq_true rfl) rfl rfl (fun _ => rfl) ?_
          rintro _ _ ⟨rfl, rfl⟩
          dsimp only [Option.toList, List.cons_append, List.nil_append, List.append_nil]
          refine T.if_eqN (tgt := 80) (pc' := 58) (q_d dX2_readRound_0 31 rfl) rfl (by decide) (by omega) (fun h55 => ?_) (fun h55 => ?_)
          · refine T.aload_n (pc' := 81) (q_d dX2_readRound_1 4 rfl) rfl rfl rfl ?_
            refine T.iload_n (pc' := 82) (q_d dX2_readRound_1 5 rfl) rfl rfl rfl ?_
            refine T.bipush (pc' := 84) (v := nI 58) (q_d dX2_readRound_1 6 rfl) rfl (by decide) ?_
            refine T.callV (pc' := 87) (ci := 2) (q_d dX2_readRound_1 7 rfl) rfl uX2_isSign wM_X2_39 (c_isSign0 (by exact hP) ((x3.q (k := 7) (by decide)).q (k := 6) (by decide)) hw (show (p + 1) < 1000 by omega) (by decide) s1) rfl rfl (by decide) rfl rfl (by decide) (Nat.le_of_ble_eq_true rfl) rfl rfl (fun _ => rfl) ?_
            rintro _ _ ⟨rfl, rfl⟩
            dsimp only [Option.toList, List.cons_append, List.nil_append, List.append_nil]
            refine T.if_eqN (tgt := 112) (pc' := 90) (q_d dX2_readRound_1 8 rfl) rfl (by decide) (by omega) (fun h87 => ?_) (fun h87 => ?_)
            · refine T.iconst (pc' := 113) (v := nI 0) (q_d dX2_readRound_1 22 rfl) rfl (by decide) ?_
              refine T.zret (q_d dX2_readRound_1 23 rfl) rfl (by decide) rfl rfl ?_
              refine ⟨rfl, fun a ha => ?_, ⟨?_, ?_, ?_⟩, ?_, ?_, ?_, Or.inr ⟨rfl, hok⟩⟩
              · funext j; simp [qI, ha]
              · simp [qI]
              · simp [qI]
              · simp [qI]
              · rw [e1]; simp [qI]
              · rw [e2]; simp [qI]
              · rw [eB]; simp [qI]; try omega
            · exact absurd rfl h87
          · exact absurd rfl h55
      | true =>
        cases s2 : dg n t ((p + 1) + 1) with
        | false =>
          have hok : okR n t p = false := by unfold okR; rw [eB, s1, s2]; rfl
          refine T.aload_n (pc' := 1) (q_d dX2_readRound_0 0 rfl) rfl rfl rfl ?_
          refine T.iconst (pc' := 2) (v := nI 0) (q_d dX2_readRound_0 1 rfl) rfl (by decide) ?_
          refine T.putI (pc' := 5) (ci := 2) (k0 := 6) (q_d dX2_readRound_0 2 rfl) rfl rfl (by decide) rfl inX2 tyX2 tyX2_ok nmX2 (by decide) rfl wF_X2_19 rfl rfl rfl ?_
          refine T.aload_n (pc' := 6) (q_d dX2_readRound_0 3 rfl) rfl rfl rfl ?_
          refine T.iconst (pc' := 7) (v := nI 4294967295) (q_d dX2_readRound_0 4 rfl) rfl (by decide) ?_
          refine T.putI (pc' := 10) (ci := 2) (k0 := 7) (q_d dX2_readRound_0 5 rfl) rfl rfl (by decide) rfl inX2 tyX2 tyX2_ok nmX2 (by decide) rfl wF_X2_22 rfl rfl rfl ?_
          refine T.aload_n (pc' := 11) (q_d dX2_readRound_0 6 rfl) rfl rfl rfl ?_
          refine T.iconst (pc' := 12) (v := nI 4294967295) (q_d dX2_readRound_0 7 rfl) rfl (by decide) ?_
          refine T.putI (pc' := 15) (ci := 2) (k0 := 8) (q_d dX2_readRound_0 8 rfl) rfl rfl (by decide) rfl inX2 tyX2 tyX2_ok nmX2 (by decide) rfl wF_X2_25 rfl rfl rfl ?_
          refine T.aload_n (pc' := 16) (q_d dX2_readRound_0 9 rfl) rfl rfl rfl ?_
          refine T.getI (pc' := 19) (ci := 2) (k0 := 2) (q_d dX2_readRound_0 10 rfl) rfl rfl (by decide) rfl inX2 (by decide) rfl wF_X2_28 st2 ?_
          refine T.istore_n (pc' := 20) (q_d dX2_readRound_0 11 rfl) rfl rfl (by decide) rfl rfl ?_
          refine T.aload_n (pc' := 21) (q_d dX2_readRound_0 12 rfl) rfl rfl rfl ?_
          refine T.iload_n (pc' := 22) (q_d dX2_readRound_0 13 rfl) rfl rfl rfl ?_
          refine T.callV (pc' := 25) (ci := 2) (q_d dX2_readRound_0 14 rfl) rfl uX2_isDigit wM_X2_31 (c_isDigit1 (by exact hP) x3 hw (show p < 1000 by omega) d1) rfl rfl (by decide) rfl rfl (by decide) (Nat.le_of_ble_eq_true rfl) rfl rfl (fun _ => rfl) ?_
          rintro _ _ ⟨rfl, rfl⟩
          dsimp only [Option.toList, List.cons_append, List.nil_append, List.append_nil]
          refine T.if_eqN (tgt := 50) (pc' := 28) (q_d dX2_readRound_0 15 rfl) rfl (by decide) (by omega) (fun h25 => ?_) (fun h25 => ?_)
          · exact absurd h25 (by decide)
          · refine T.aload_n (pc' := 29) (q_d dX2_readRound_0 16 rfl) rfl rfl rfl ?_
            refine T.aload_n (pc' := 30) (q_d dX2_readRound_0 17 rfl) rfl rfl rfl ?_
            refine T.iload_n (pc' := 31) (q_d dX2_readRound_0 18 rfl) rfl rfl rfl ?_
            refine T.callV (pc' := 34) (ci := 2) (q_d dX2_readRound_0 19 rfl) rfl uX2_digitAt wM_X2_35 (c_digitAt (by exact hP) x3 hw (show p < 1000 by omega) d1) rfl rfl (by decide) rfl rfl (by decide) (Nat.le_of_ble_eq_true rfl) rfl rfl (fun _ => rfl) ?_
            rintro _ _ ⟨rfl, rfl⟩
            dsimp only [Option.toList, List.cons_append, List.nil_append, List.append_nil]
            refine T.putI (pc' := 37) (ci := 2) (k0 := 7) (q_d dX2_readRound_0 20 rfl) rfl rfl (by decide) rfl inX2 tyX2 tyX2_ok nmX2 (by decide) rfl wF_X2_22 rfl rfl rfl ?_
            refine T.aload_n (pc' := 38) (q_d dX2_readRound_0 21 rfl) rfl rfl rfl ?_
            refine T.dup (pc' := 39) (q_d dX2_readRound_0 22 rfl) rfl rfl ?_
            refine T.getI (pc' := 42) (ci := 2) (k0 := 6) (q_d dX2_readRound_0 23 rfl) rfl rfl (by decide) rfl inX2 (by decide) rfl wF_X2_19 rfl ?_
            refine T.iconst (pc' := 43) (v := nI 1) (q_d dX2_readRound_0 24 rfl) rfl (by decide) ?_
            refine T.iadd (pc' := 44) (q_d dX2_readRound_0 25 rfl) rfl (nI_add _ _) ?_
            refine T.putI (pc' := 47) (ci := 2) (k0 := 6) (q_d dX2_readRound_0 26 rfl) rfl rfl (by decide) rfl inX2 tyX2 tyX2_ok nmX2 (by decide) rfl wF_X2_19 rfl rfl rfl ?_
            refine T.iinc (pc' := 50) (q_d dX2_readRound_0 27 rfl) rfl rfl (nN_p _ 1) (by decide) rfl rfl ?_
            refine T.aload_n (pc' := 51) (q_d dX2_readRound_0 28 rfl) rfl rfl rfl ?_
            refine T.iload_n (pc' := 52) (q_d dX2_readRound_0 29 rfl) rfl rfl rfl ?_
            refine T.callV (pc' := 55) (ci := 2) (q_d dX2_readRound_0 30 rfl) rfl uX2_isDigit wM_X2_31 (c_isDigit0 (by exact hP) ((x3.q (k := 7) (by decide)).q (k := 6) (by decide)) hw (show p + 1 < 1000 by omega) d2) rfl rfl (by decide) rfl rfl (by decide) (Nat.le_of_ble_eq_true rfl) rfl rfl (fun _ => rfl) ?_
            rintro _ _ ⟨rfl, rfl⟩
            dsimp only [Option.toList, List.cons_append, List.nil_append, List.append_nil]
            refine T.if_eqN (tgt := 80) (pc' := 58) (q_d dX2_readRound_0 31 rfl) rfl (by decide) (by omega) (fun h55 => ?_) (fun h55 => ?_)
            · refine T.aload_n (pc' := 81) (q_d dX2_readRound_1 4 rfl) rfl rfl rfl ?_
              refine T.iload_n (pc' := 82) (q_d dX2_readRound_1 5 rfl) rfl rfl rfl ?_
              refine T.bipush (pc' := 84) (v := nI 58) (q_d dX2_readRound_1 6 rfl) rfl (by decide) ?_
              refine T.callV (pc' := 87) (ci := 2) (q_d dX2_readRound_1 7 rfl) rfl uX2_isSign wM_X2_39 (c_isSign1 (by exact hP) ((x3.q (k := 7) (by decide)).q (k := 6) (by decide)) hw (show (p + 1) < 1000 by omega) (by decide) s1) rfl rfl (by decide) rfl rfl (by decide) (Nat.le_of_ble_eq_true rfl) rfl rfl (fun _ => rfl) ?_
              rintro _ _ ⟨rfl, rfl⟩
              dsimp only [Option.toList, List.cons_append, List.nil_append, List.append_nil]
              refine T.if_eqN (tgt := 112) (pc' := 90) (q_d dX2_readRound_1 8 rfl) rfl (by decide) (by omega) (fun h87 => ?_) (fun h87 => ?_)
              · exact absurd h87 (by decide)
              · refine T.aload_n (pc' := 91) (q_d dX2_readRound_1 9 rfl) rfl rfl rfl ?_
                refine T.iload_n (pc' := 92) (q_d dX2_readRound_1 10 rfl) rfl rfl rfl ?_
                refine T.iconst (pc' := 93) (v := nI 1) (q_d dX2_readRound_1 11 rfl) rfl (by decide) ?_
                refine T.iadd (pc' := 94) (q_d dX2_readRound_1 12 rfl) rfl (nI_add _ _) ?_
                refine T.callV (pc' := 97) (ci := 2) (q_d dX2_readRound_1 13 rfl) rfl uX2_isDigit wM_X2_31 (c_isDigit0 (by exact hP) ((x3.q (k := 7) (by decide)).q (k := 6) (by decide)) hw (show (p + 1) + 1 < 1000 by omega) s2) rfl rfl (by decide) rfl rfl (by decide) (Nat.le_of_ble_eq_true rfl) rfl rfl (fun _ => rfl) ?_
                rintro _ _ ⟨rfl, rfl⟩
                dsimp only [Option.toList, List.cons_append, List.nil_append, List.append_nil]
                refine T.if_eqN (tgt := 112) (pc' := 100) (q_d dX2_readRound_1 14 rfl) rfl (by decide) (by omega) (fun h97 => ?_) (fun h97 => ?_)
                · refine T.iconst (pc' := 113) (v := nI 0) (q_d dX2_readRound_1 22 rfl) rfl (by decide) ?_
                  refine T.zret (q_d dX2_readRound_1 23 rfl) rfl (by decide) rfl rfl ?_
                  refine ⟨rfl, fun a ha => ?_, ⟨?_, ?_, ?_⟩, ?_, ?_, ?_, Or.inr ⟨rfl, hok⟩⟩
                  · funext j; simp [qI, ha]
                  · simp [qI]
                  · simp [qI]
                  · simp [qI]
                  · rw [e1]; simp [qI]
                  · rw [e2]; simp [qI]
                  · rw [eB]; simp [qI]; try omega
                · exact absurd rfl h97
            · exact absurd rfl h55
        | true =>
          cases s3 : sg n t ((p + 1) + 2) 59 with
          | false =>
            have hok : okR n t p = false := by unfold okR; rw [eB, s1, s2, s3]; rfl
            refine T.aload_n (pc' := 1) (q_d dX2_readRound_0 0 rfl) rfl rfl rfl ?_
            refine T.iconst (pc' := 2) (v := nI 0) (q_d dX2_readRound_0 1 rfl) rfl (by decide) ?_
            refine T.putI (pc' := 5) (ci := 2) (k0 := 6) (q_d dX2_readRound_0 2 rfl) rfl rfl (by decide) rfl inX2 tyX2 tyX2_ok nmX2 (by decide) rfl wF_X2_19 rfl rfl rfl ?_
            refine T.aload_n (pc' := 6) (q_d dX2_readRound_0 3 rfl) rfl rfl rfl ?_
            refine T.iconst (pc' := 7) (v := nI 4294967295) (q_d dX2_readRound_0 4 rfl) rfl (by decide) ?_
            refine T.putI (pc' := 10) (ci := 2) (k0 := 7) (q_d dX2_readRound_0 5 rfl) rfl rfl (by decide) rfl inX2 tyX2 tyX2_ok nmX2 (by decide) rfl wF_X2_22 rfl rfl rfl ?_
            refine T.aload_n (pc' := 11) (q_d dX2_readRound_0 6 rfl) rfl rfl rfl ?_
            refine T.iconst (pc' := 12) (v := nI 4294967295) (q_d dX2_readRound_0 7 rfl) rfl (by decide) ?_
            refine T.putI (pc' := 15) (ci := 2) (k0 := 8) (q_d dX2_readRound_0 8 rfl) rfl rfl (by decide) rfl inX2 tyX2 tyX2_ok nmX2 (by decide) rfl wF_X2_25 rfl rfl rfl ?_
            refine T.aload_n (pc' := 16) (q_d dX2_readRound_0 9 rfl) rfl rfl rfl ?_
            refine T.getI (pc' := 19) (ci := 2) (k0 := 2) (q_d dX2_readRound_0 10 rfl) rfl rfl (by decide) rfl inX2 (by decide) rfl wF_X2_28 st2 ?_
            refine T.istore_n (pc' := 20) (q_d dX2_readRound_0 11 rfl) rfl rfl (by decide) rfl rfl ?_
            refine T.aload_n (pc' := 21) (q_d dX2_readRound_0 12 rfl) rfl rfl rfl ?_
            refine T.iload_n (pc' := 22) (q_d dX2_readRound_0 13 rfl) rfl rfl rfl ?_
            refine T.callV (pc' := 25) (ci := 2) (q_d dX2_readRound_0 14 rfl) rfl uX2_isDigit wM_X2_31 (c_isDigit1 (by exact hP) x3 hw (show p < 1000 by omega) d1) rfl rfl (by decide) rfl rfl (by decide) (Nat.le_of_ble_eq_true rfl) rfl rfl (fun _ => rfl) ?_
            rintro _ _ ⟨rfl, rfl⟩
            dsimp only [Option.toList, List.cons_append, List.nil_append, List.append_nil]
            refine T.if_eqN (tgt := 50) (pc' := 28) (q_d dX2_readRound_0 15 rfl) rfl (by decide) (by omega) (fun h25 => ?_) (fun h25 => ?_)
            · exact absurd h25 (by decide)
            · refine T.aload_n (pc' := 29) (q_d dX2_readRound_0 16 rfl) rfl rfl rfl ?_
              refine T.aload_n (pc' := 30) (q_d dX2_readRound_0 17 rfl) rfl rfl rfl ?_
              refine T.iload_n (pc' := 31) (q_d dX2_readRound_0 18 rfl) rfl rfl rfl ?_
              refine T.callV (pc' := 34) (ci := 2) (q_d dX2_readRound_0 19 rfl) rfl uX2_digitAt wM_X2_35 (c_digitAt (by exact hP) x3 hw (show p < 1000 by omega) d1) rfl rfl (by decide) rfl rfl (by decide) (Nat.le_of_ble_eq_true rfl) rfl rfl (fun _ => rfl) ?_
              rintro _ _ ⟨rfl, rfl⟩
              dsimp only [Option.toList, List.cons_append, List.nil_append, List.append_nil]
              refine T.putI (pc' := 37) (ci := 2) (k0 := 7) (q_d dX2_readRound_0 20 rfl) rfl rfl (by decide) rfl inX2 tyX2 tyX2_ok nmX2 (by decide) rfl wF_X2_22 rfl rfl rfl ?_
              refine T.aload_n (pc' := 38) (q_d dX2_readRound_0 21 rfl) rfl rfl rfl ?_
              refine T.dup (pc' := 39) (q_d dX2_readRound_0 22 rfl) rfl rfl ?_
              refine T.getI (pc' := 42) (ci := 2) (k0 := 6) (q_d dX2_readRound_0 23 rfl) rfl rfl (by decide) rfl inX2 (by decide) rfl wF_X2_19 rfl ?_
              refine T.iconst (pc' := 43) (v := nI 1) (q_d dX2_readRound_0 24 rfl) rfl (by decide) ?_
              refine T.iadd (pc' := 44) (q_d dX2_readRound_0 25 rfl) rfl (nI_add _ _) ?_
              refine T.putI (pc' := 47) (ci := 2) (k0 := 6) (q_d dX2_readRound_0 26 rfl) rfl rfl (by decide) rfl inX2 tyX2 tyX2_ok nmX2 (by decide) rfl wF_X2_19 rfl rfl rfl ?_
              refine T.iinc (pc' := 50) (q_d dX2_readRound_0 27 rfl) rfl rfl (nN_p _ 1) (by decide) rfl rfl ?_
              refine T.aload_n (pc' := 51) (q_d dX2_readRound_0 28 rfl) rfl rfl rfl ?_
              refine T.iload_n (pc' := 52) (q_d dX2_readRound_0 29 rfl) rfl rfl rfl ?_
              refine T.callV (pc' := 55) (ci := 2) (q_d dX2_readRound_0 30 rfl) rfl uX2_isDigit wM_X2_31 (c_isDigit0 (by exact hP) ((x3.q (k := 7) (by decide)).q (k := 6) (by decide)) hw (show p + 1 < 1000 by omega) d2) rfl rfl (by decide) rfl rfl (by decide) (Nat.le_of_ble_eq_true rfl) rfl rfl (fun _ => rfl) ?_
              rintro _ _ ⟨rfl, rfl⟩
              dsimp only [Option.toList, List.cons_append, List.nil_append, List.append_nil]
              refine T.if_eqN (tgt := 80) (pc' := 58) (q_d dX2_readRound_0 31 rfl) rfl (by decide) (by omega) (fun h55 => ?_) (fun h55 => ?_)
              · refine T.aload_n (pc' := 81) (q_d dX2_readRound_1 4 rfl) rfl rfl rfl ?_
                refine T.iload_n (pc' := 82) (q_d dX2_readRound_1 5 rfl) rfl rfl rfl ?_
                refine T.bipush (pc' := 84) (v := nI 58) (q_d dX2_readRound_1 6 rfl) rfl (by decide) ?_
                refine T.callV (pc' := 87) (ci := 2) (q_d dX2_readRound_1 7 rfl) rfl uX2_isSign wM_X2_39 (c_isSign1 (by exact hP) ((x3.q (k := 7) (by decide)).q (k := 6) (by decide)) hw (show (p + 1) < 1000 by omega) (by decide) s1) rfl rfl (by decide) rfl rfl (by decide) (Nat.le_of_ble_eq_true rfl) rfl rfl (fun _ => rfl) ?_
                rintro _ _ ⟨rfl, rfl⟩
                dsimp only [Option.toList, List.cons_append, List.nil_append, List.append_nil]
                refine T.if_eqN (tgt := 112) (pc' := 90) (q_d dX2_readRound_1 8 rfl) rfl (by decide) (by omega) (fun h87 => ?_) (fun h87 => ?_)
                · exact absurd h87 (by decide)
                · refine T.aload_n (pc' := 91) (q_d dX2_readRound_1 9 rfl) rfl rfl rfl ?_
                  refine T.iload_n (pc' := 92) (q_d dX2_readRound_1 10 rfl) rfl rfl rfl ?_
                  refine T.iconst (pc' := 93) (v := nI 1) (q_d dX2_readRound_1 11 rfl) rfl (by decide) ?_
                  refine T.iadd (pc' := 94) (q_d dX2_readRound_1 12 rfl) rfl (nI_add _ _) ?_
                  refine T.callV (pc' := 97) (ci := 2) (q_d dX2_readRound_1 13 rfl) rfl uX2_isDigit wM_X2_31 (c_isDigit1 (by exact hP) ((x3.q (k := 7) (by decide)).q (k := 6) (by decide)) hw (show (p + 1) + 1 < 1000 by omega) s2) rfl rfl (by decide) rfl rfl (by decide) (Nat.le_of_ble_eq_true rfl) rfl rfl (fun _ => rfl) ?_
                  rintro _ _ ⟨rfl, rfl⟩
                  dsimp only [Option.toList, List.cons_append, List.nil_append, List.append_nil]
                  refine T.if_eqN (tgt := 112) (pc' := 100) (q_d dX2_readRound_1 14 rfl) rfl (by decide) (by omega) (fun h97 => ?_) (fun h97 => ?_)
                  · exact absurd h97 (by decide)
                  · refine T.aload_n (pc' := 101) (q_d dX2_readRound_1 15 rfl) rfl rfl rfl ?_
                    refine T.iload_n (pc' := 102) (q_d dX2_readRound_1 16 rfl) rfl rfl rfl ?_
                    refine T.iconst (pc' := 103) (v := nI 2) (q_d dX2_readRound_1 17 rfl) rfl (by decide) ?_
                    refine T.iadd (pc' := 104) (q_d dX2_readRound_1 18 rfl) rfl (nI_add _ _) ?_
                    refine T.bipush (pc' := 106) (v := nI 59) (q_d dX2_readRound_1 19 rfl) rfl (by decide) ?_
                    refine T.callV (pc' := 109) (ci := 2) (q_d dX2_readRound_1 20 rfl) rfl uX2_isSign wM_X2_39 (c_isSign0 (by exact hP) ((x3.q (k := 7) (by decide)).q (k := 6) (by decide)) hw (show (p + 1) + 2 < 1000 by omega) (by decide) s3) rfl rfl (by decide) rfl rfl (by decide) (Nat.le_of_ble_eq_true rfl) rfl rfl (fun _ => rfl) ?_
                    rintro _ _ ⟨rfl, rfl⟩
                    dsimp only [Option.toList, List.cons_append, List.nil_append, List.append_nil]
                    refine T.if_neN (tgt := 114) (pc' := 112) (q_d dX2_readRound_1 21 rfl) rfl (by decide) (by omega) (fun h109 => ?_) (fun h109 => ?_)
                    · exact absurd rfl h109
                    · refine T.iconst (pc' := 113) (v := nI 0) (q_d dX2_readRound_1 22 rfl) rfl (by decide) ?_
                      refine T.zret (q_d dX2_readRound_1 23 rfl) rfl (by decide) rfl rfl ?_
                      refine ⟨rfl, fun a ha => ?_, ⟨?_, ?_, ?_⟩, ?_, ?_, ?_, Or.inr ⟨rfl, hok⟩⟩
                      · funext j; simp [qI, ha]
                      · simp [qI]
                      · simp [qI]
                      · simp [qI]
                      · rw [e1]; simp [qI]
                      · rw [e2]; simp [qI]
                      · rw [eB]; simp [qI]; try omega
              · exact absurd rfl h55
          | true =>
            have hok : okR n t p = true := by unfold okR; rw [eB, s1, s2, s3]; rfl
            refine T.aload_n (pc' := 1) (q_d dX2_readRound_0 0 rfl) rfl rfl rfl ?_
            refine T.iconst (pc' := 2) (v := nI 0) (q_d dX2_readRound_0 1 rfl) rfl (by decide) ?_
            refine T.putI (pc' := 5) (ci := 2) (k0 := 6) (q_d dX2_readRound_0 2 rfl) rfl rfl (by decide) rfl inX2 tyX2 tyX2_ok nmX2 (by decide) rfl wF_X2_19 rfl rfl rfl ?_
            refine T.aload_n (pc' := 6) (q_d dX2_readRound_0 3 rfl) rfl rfl rfl ?_
            refine T.iconst (pc' := 7) (v := nI 4294967295) (q_d dX2_readRound_0 4 rfl) rfl (by decide) ?_
            refine T.putI (pc' := 10) (ci := 2) (k0 := 7) (q_d dX2_readRound_0 5 rfl) rfl rfl (by decide) rfl inX2 tyX2 tyX2_ok nmX2 (by decide) rfl wF_X2_22 rfl rfl rfl ?_
            refine T.aload_n (pc' := 11) (q_d dX2_readRound_0 6 rfl) rfl rfl rfl ?_
            refine T.iconst (pc' := 12) (v := nI 4294967295) (q_d dX2_readRound_0 7 rfl) rfl (by decide) ?_
            refine T.putI (pc' := 15) (ci := 2) (k0 := 8) (q_d dX2_readRound_0 8 rfl) rfl rfl (by decide) rfl inX2 tyX2 tyX2_ok nmX2 (by decide) rfl wF_X2_25 rfl rfl rfl ?_
            refine T.aload_n (pc' := 16) (q_d dX2_readRound_0 9 rfl) rfl rfl rfl ?_
            refine T.getI (pc' := 19) (ci := 2) (k0 := 2) (q_d dX2_readRound_0 10 rfl) rfl rfl (by decide) rfl inX2 (by decide) rfl wF_X2_28 st2 ?_
            refine T.istore_n (pc' := 20) (q_d dX2_readRound_0 11 rfl) rfl rfl (by decide) rfl rfl ?_
            refine T.aload_n (pc' := 21) (q_d dX2_readRound_0 12 rfl) rfl rfl rfl ?_
            refine T.iload_n (pc' := 22) (q_d dX2_readRound_0 13 rfl) rfl rfl rfl ?_
            refine T.callV (pc' := 25) (ci := 2) (q_d dX2_readRound_0 14 rfl) rfl uX2_isDigit wM_X2_31 (c_isDigit1 (by exact hP) x3 hw (show p < 1000 by omega) d1) rfl rfl (by decide) rfl rfl (by decide) (Nat.le_of_ble_eq_true rfl) rfl rfl (fun _ => rfl) ?_
            rintro _ _ ⟨rfl, rfl⟩
            dsimp only [Option.toList, List.cons_append, List.nil_append, List.append_nil]
            refine T.if_eqN (tgt := 50) (pc' := 28) (q_d dX2_readRound_0 15 rfl) rfl (by decide) (by omega) (fun h25 => ?_) (fun h25 => ?_)
            · exact absurd h25 (by decide)
            · refine T.aload_n (pc' := 29) (q_d dX2_readRound_0 16 rfl) rfl rfl rfl ?_
              refine T.aload_n (pc' := 30) (q_d dX2_readRound_0 17 rfl) rfl rfl rfl ?_
              refine T.iload_n (pc' := 31) (q_d dX2_readRound_0 18 rfl) rfl rfl rfl ?_
              refine T.callV (pc' := 34) (ci := 2) (q_d dX2_readRound_0 19 rfl) rfl uX2_digitAt wM_X2_35 (c_digitAt (by exact hP) x3 hw (show p < 1000 by omega) d1) rfl rfl (by decide) rfl rfl (by decide) (Nat.le_of_ble_eq_true rfl) rfl rfl (fun _ => rfl) ?_
              rintro _ _ ⟨rfl, rfl⟩
              dsimp only [Option.toList, List.cons_append, List.nil_append, List.append_nil]
              refine T.putI (pc' := 37) (ci := 2) (k0 := 7) (q_d dX2_readRound_0 20 rfl) rfl rfl (by decide) rfl inX2 tyX2 tyX2_ok nmX2 (by decide) rfl wF_X2_22 rfl rfl rfl ?_
              refine T.aload_n (pc' := 38) (q_d dX2_readRound_0 21 rfl) rfl rfl rfl ?_
              refine T.dup (pc' := 39) (q_d dX2_readRound_0 22 rfl) rfl rfl ?_
              refine T.getI (pc' := 42) (ci := 2) (k0 := 6) (q_d dX2_readRound_0 23 rfl) rfl rfl (by decide) rfl inX2 (by decide) rfl wF_X2_19 rfl ?_
              refine T.iconst (pc' := 43) (v := nI 1) (q_d dX2_readRound_0 24 rfl) rfl (by decide) ?_
              refine T.iadd (pc' := 44) (q_d dX2_readRound_0 25 rfl) rfl (nI_add _ _) ?_
              refine T.putI (pc' := 47) (ci := 2) (k0 := 6) (q_d dX2_readRound_0 26 rfl) rfl rfl (by decide) rfl inX2 tyX2 tyX2_ok nmX2 (by decide) rfl wF_X2_19 rfl rfl rfl ?_
              refine T.iinc (pc' := 50) (q_d dX2_readRound_0 27 rfl) rfl rfl (nN_p _ 1) (by decide) rfl rfl ?_
              refine T.aload_n (pc' := 51) (q_d dX2_readRound_0 28 rfl) rfl rfl rfl ?_
              refine T.iload_n (pc' := 52) (q_d dX2_readRound_0 29 rfl) rfl rfl rfl ?_
              refine T.callV (pc' := 55) (ci := 2) (q_d dX2_readRound_0 30 rfl) rfl uX2_isDigit wM_X2_31 (c_isDigit0 (by exact hP) ((x3.q (k := 7) (by decide)).q (k := 6) (by decide)) hw (show p + 1 < 1000 by omega) d2) rfl rfl (by decide) rfl rfl (by decide) (Nat.le_of_ble_eq_true rfl) rfl rfl (fun _ => rfl) ?_
              rintro _ _ ⟨rfl, rfl⟩
              dsimp only [Option.toList, List.cons_append, List.nil_append, List.append_nil]
              refine T.if_eqN (tgt := 80) (pc' := 58) (q_d dX2_readRound_0 31 rfl) rfl (by decide) (by omega) (fun h55 => ?_) (fun h55 => ?_)
              · refine T.aload_n (pc' := 81) (q_d dX2_readRound_1 4 rfl) rfl rfl rfl ?_
                refine T.iload_n (pc' := 82) (q_d dX2_readRound_1 5 rfl) rfl rfl rfl ?_
                refine T.bipush (pc' := 84) (v := nI 58) (q_d dX2_readRound_1 6 rfl) rfl (by decide) ?_
                refine T.callV (pc' := 87) (ci := 2) (q_d dX2_readRound_1 7 rfl) rfl uX2_isSign wM_X2_39 (c_isSign1 (by exact hP) ((x3.q (k := 7) (by decide)).q (k := 6) (by decide)) hw (show (p + 1) < 1000 by omega) (by decide) s1) rfl rfl (by decide) rfl rfl (by decide) (Nat.le_of_ble_eq_true rfl) rfl rfl (fun _ => rfl) ?_
                rintro _ _ ⟨rfl, rfl⟩
                dsimp only [Option.toList, List.cons_append, List.nil_append, List.append_nil]
                refine T.if_eqN (tgt := 112) (pc' := 90) (q_d dX2_readRound_1 8 rfl) rfl (by decide) (by omega) (fun h87 => ?_) (fun h87 => ?_)
                · exact absurd h87 (by decide)
                · refine T.aload_n (pc' := 91) (q_d dX2_readRound_1 9 rfl) rfl rfl rfl ?_
                  refine T.iload_n (pc' := 92) (q_d dX2_readRound_1 10 rfl) rfl rfl rfl ?_
                  refine T.iconst (pc' := 93) (v := nI 1) (q_d dX2_readRound_1 11 rfl) rfl (by decide) ?_
                  refine T.iadd (pc' := 94) (q_d dX2_readRound_1 12 rfl) rfl (nI_add _ _) ?_
                  refine T.callV (pc' := 97) (ci := 2) (q_d dX2_readRound_1 13 rfl) rfl uX2_isDigit wM_X2_31 (c_isDigit1 (by exact hP) ((x3.q (k := 7) (by decide)).q (k := 6) (by decide)) hw (show (p + 1) + 1 < 1000 by omega) s2) rfl rfl (by decide) rfl rfl (by decide) (Nat.le_of_ble_eq_true rfl) rfl rfl (fun _ => rfl) ?_
                  rintro _ _ ⟨rfl, rfl⟩
                  dsimp only [Option.toList, List.cons_append, List.nil_append, List.append_nil]
                  refine T.if_eqN (tgt := 112) (pc' := 100) (q_d dX2_readRound_1 14 rfl) rfl (by decide) (by omega) (fun h97 => ?_) (fun h97 => ?_)
                  · exact absurd h97 (by decide)
                  · refine T.aload_n (pc' := 101) (q_d dX2_readRound_1 15 rfl) rfl rfl rfl ?_
                    refine T.iload_n (pc' := 102) (q_d dX2_readRound_1 16 rfl) rfl rfl rfl ?_
                    refine T.iconst (pc' := 103) (v := nI 2) (q_d dX2_readRound_1 17 rfl) rfl (by decide) ?_
                    refine T.iadd (pc' := 104) (q_d dX2_readRound_1 18 rfl) rfl (nI_add _ _) ?_
                    refine T.bipush (pc' := 106) (v := nI 59) (q_d dX2_readRound_1 19 rfl) rfl (by decide) ?_
                    refine T.callV (pc' := 109) (ci := 2) (q_d dX2_readRound_1 20 rfl) rfl uX2_isSign wM_X2_39 (c_isSign1 (by exact hP) ((x3.q (k := 7) (by decide)).q (k := 6) (by decide)) hw (show (p + 1) + 2 < 1000 by omega) (by decide) s3) rfl rfl (by decide) rfl rfl (by decide) (Nat.le_of_ble_eq_true rfl) rfl rfl (fun _ => rfl) ?_
                    rintro _ _ ⟨rfl, rfl⟩
                    dsimp only [Option.toList, List.cons_append, List.nil_append, List.append_nil]
                    refine T.if_neN (tgt := 114) (pc' := 112) (q_d dX2_readRound_1 21 rfl) rfl (by decide) (by omega) (fun h109 => ?_) (fun h109 => ?_)
                    · refine T.aload_n (pc' := 115) (q_d dX2_readRound_1 24 rfl) rfl rfl rfl ?_
                      refine T.aload_n (pc' := 116) (q_d dX2_readRound_1 25 rfl) rfl rfl rfl ?_
                      refine T.iload_n (pc' := 117) (q_d dX2_readRound_1 26 rfl) rfl rfl rfl ?_
                      refine T.iconst (pc' := 118) (v := nI 1) (q_d dX2_readRound_1 27 rfl) rfl (by decide) ?_
                      refine T.iadd (pc' := 119) (q_d dX2_readRound_1 28 rfl) rfl (nI_add _ _) ?_
                      refine T.callV (pc' := 122) (ci := 2) (q_d dX2_readRound_1 29 rfl) rfl uX2_digitAt wM_X2_35 (c_digitAt (by exact hP) ((x3.q (k := 7) (by decide)).q (k := 6) (by decide)) hw (show (p + 1) + 1 < 1000 by omega) s2) rfl rfl (by decide) rfl rfl (by decide) (Nat.le_of_ble_eq_true rfl) rfl rfl (fun _ => rfl) ?_
                      rintro _ _ ⟨rfl, rfl⟩
                      dsimp only [Option.toList, List.cons_append, List.nil_append, List.append_nil]
                      refine T.putI (pc' := 125) (ci := 2) (k0 := 4) (q_d dX2_readRound_1 30 rfl) rfl rfl (by decide) rfl inX2 tyX2 tyX2_ok nmX2 (by decide) rfl wF_X2_43 rfl rfl rfl ?_
                      refine T.aload_n (pc' := 126) (q_d dX2_readRound_1 31 rfl) rfl rfl rfl ?_
                      refine T.iload_n (pc' := 127) (q_d dX2_readRound_1 32 rfl) rfl rfl rfl ?_
                      refine T.iconst (pc' := 128) (v := nI 3) (q_d dX2_readRound_1 33 rfl) rfl (by decide) ?_
                      refine T.iadd (pc' := 129) (q_d dX2_readRound_1 34 rfl) rfl (nI_add _ _) ?_
                      refine T.putI (pc' := 132) (ci := 2) (k0 := 5) (q_d dX2_readRound_1 35 rfl) rfl rfl (by decide) rfl inX2 tyX2 tyX2_ok nmX2 (by decide) rfl wF_X2_46 rfl rfl rfl ?_
                      refine T.iconst (pc' := 133) (v := nI 1) (q_d dX2_readRound_1 36 rfl) rfl (by decide) ?_
                      refine T.zret (q_d dX2_readRound_1 37 rfl) rfl (by decide) rfl rfl ?_
                      refine ⟨rfl, fun a ha => ?_, ⟨?_, ?_, ?_⟩, ?_, ?_, ?_, Or.inl ⟨rfl, hok, ?_, ?_⟩⟩
                      · funext j; simp [qI, ha]
                      · simp [qI]
                      · simp [qI]
                      · simp [qI]
                      · rw [e1]; simp [qI]
                      · rw [e2]; simp [qI]
                      · rw [eB]; simp [qI]; try omega
                      · rw [eB]; simp [qI]
                      · rw [eB]; simp [qI]
                    · exact absurd h109 (by decide)
              · exact absurd rfl h55
    | true =>
      have eA : pA n t p = p + 1 := if_pos d1
      have e1 : oneV n t p = t p - 48 := if_pos d1
      have g1 := dg_iff.mp d1
      have eB : pB n t p = p + 2 := by unfold pB; rw [eA, if_pos d2]
      have e2 : othV n t p = t (p + 1) - 48 := by unfold othV; rw [eA, if_pos d2]
      have g2 := dg_iff.mp d2
      have x3 : TX (qI (qI (qI M 18 6 0) 18 7 4294967295) 18 8 4294967295) n t := ((((hx).q (k := 6) (x := 0) (by decide)).q (k := 7) (x := 4294967295) (by decide)).q (k := 8) (x := 4294967295) (by decide))
      cases s1 : sg n t (p + 2) 58 with
      | false =>
        have hok : okR n t p = false := by unfold okR; rw [eB, s1]; rfl
        refine T.aload_n (pc' := 1) (q_d dX2_readRound_0 0 rfl) rfl rfl rfl ?_
        refine T.iconst (pc' := 2) (v := nI 0) (q_d dX2_readRound_0 1 rfl) rfl (by decide) ?_
        refine T.putI (pc' := 5) (ci := 2) (k0 := 6) (q_d dX2_readRound_0 2 rfl) rfl rfl (by decide) rfl inX2 tyX2 tyX2_ok nmX2 (by decide) rfl wF_X2_19 rfl rfl rfl ?_
        refine T.aload_n (pc' := 6) (q_d dX2_readRound_0 3 rfl) rfl rfl rfl ?_
        refine T.iconst (pc' := 7) (v := nI 4294967295) (q_d dX2_readRound_0 4 rfl) rfl (by decide) ?_
        refine T.putI (pc' := 10) (ci := 2) (k0 := 7) (q_d dX2_readRound_0 5 rfl) rfl rfl (by decide) rfl inX2 tyX2 tyX2_ok nmX2 (by decide) rfl wF_X2_22 rfl rfl rfl ?_
        refine T.aload_n (pc' := 11) (q_d dX2_readRound_0 6 rfl) rfl rfl rfl ?_
        refine T.iconst (pc' := 12) (v := nI 4294967295) (q_d dX2_readRound_0 7 rfl) rfl (by decide) ?_
        refine T.putI (pc' := 15) (ci := 2) (k0 := 8) (q_d dX2_readRound_0 8 rfl) rfl rfl (by decide) rfl inX2 tyX2 tyX2_ok nmX2 (by decide) rfl wF_X2_25 rfl rfl rfl ?_
        refine T.aload_n (pc' := 16) (q_d dX2_readRound_0 9 rfl) rfl rfl rfl ?_
        refine T.getI (pc' := 19) (ci := 2) (k0 := 2) (q_d dX2_readRound_0 10 rfl) rfl rfl (by decide) rfl inX2 (by decide) rfl wF_X2_28 st2 ?_
        refine T.istore_n (pc' := 20) (q_d dX2_readRound_0 11 rfl) rfl rfl (by decide) rfl rfl ?_
        refine T.aload_n (pc' := 21) (q_d dX2_readRound_0 12 rfl) rfl rfl rfl ?_
        refine T.iload_n (pc' := 22) (q_d dX2_readRound_0 13 rfl) rfl rfl rfl ?_
        refine T.callV (pc' := 25) (ci := 2) (q_d dX2_readRound_0 14 rfl) rfl uX2_isDigit wM_X2_31 (c_isDigit1 (by exact hP) x3 hw (show p < 1000 by omega) d1) rfl rfl (by decide) rfl rfl (by decide) (Nat.le_of_ble_eq_true rfl) rfl rfl (fun _ => rfl) ?_
        rintro _ _ ⟨rfl, rfl⟩
        dsimp only [Option.toList, List.cons_append, List.nil_append, List.append_nil]
        refine T.if_eqN (tgt := 50) (pc' := 28) (q_d dX2_readRound_0 15 rfl) rfl (by decide) (by omega) (fun h25 => ?_) (fun h25 => ?_)
        · exact absurd h25 (by decide)
        · refine T.aload_n (pc' := 29) (q_d dX2_readRound_0 16 rfl) rfl rfl rfl ?_
          refine T.aload_n (pc' := 30) (q_d dX2_readRound_0 17 rfl) rfl rfl rfl ?_
          refine T.iload_n (pc' := 31) (q_d dX2_readRound_0 18 rfl) rfl rfl rfl ?_
          refine T.callV (pc' := 34) (ci := 2) (q_d dX2_readRound_0 19 rfl) rfl uX2_digitAt wM_X2_35 (c_digitAt (by exact hP) x3 hw (show p < 1000 by omega) d1) rfl rfl (by decide) rfl rfl (by decide) (Nat.le_of_ble_eq_true rfl) rfl rfl (fun _ => rfl) ?_
          rintro _ _ ⟨rfl, rfl⟩
          dsimp only [Option.toList, List.cons_append, List.nil_append, List.append_nil]
          refine T.putI (pc' := 37) (ci := 2) (k0 := 7) (q_d dX2_readRound_0 20 rfl) rfl rfl (by decide) rfl inX2 tyX2 tyX2_ok nmX2 (by decide) rfl wF_X2_22 rfl rfl rfl ?_
          refine T.aload_n (pc' := 38) (q_d dX2_readRound_0 21 rfl) rfl rfl rfl ?_
          refine T.dup (pc' := 39) (q_d dX2_readRound_0 22 rfl) rfl rfl ?_
          refine T.getI (pc' := 42) (ci := 2) (k0 := 6) (q_d dX2_readRound_0 23 rfl) rfl rfl (by decide) rfl inX2 (by decide) rfl wF_X2_19 rfl ?_
          refine T.iconst (pc' := 43) (v := nI 1) (q_d dX2_readRound_0 24 rfl) rfl (by decide) ?_
          refine T.iadd (pc' := 44) (q_d dX2_readRound_0 25 rfl) rfl (nI_add _ _) ?_
          refine T.putI (pc' := 47) (ci := 2) (k0 := 6) (q_d dX2_readRound_0 26 rfl) rfl rfl (by decide) rfl inX2 tyX2 tyX2_ok nmX2 (by decide) rfl wF_X2_19 rfl rfl rfl ?_
          refine T.iinc (pc' := 50) (q_d dX2_readRound_0 27 rfl) rfl rfl (nN_p _ 1) (by decide) rfl rfl ?_
          refine T.aload_n (pc' := 51) (q_d dX2_readRound_0 28 rfl) rfl rfl rfl ?_
          refine T.iload_n (pc' := 52) (q_d dX2_readRound_0 29 rfl) rfl rfl rfl ?_
          refine T.callV (pc' := 55) (ci := 2) (q_d dX2_readRound_0 30 rfl) rfl uX2_isDigit wM_X2_31 (c_isDigit1 (by exact hP) ((x3.q (k := 7) (by decide)).q (k := 6) (by decide)) hw (show p + 1 < 1000 by omega) d2) rfl rfl (by decide) rfl rfl (by decide) (Nat.le_of_ble_eq_true rfl) rfl rfl (fun _ => rfl) ?_
          rintro _ _ ⟨rfl, rfl⟩
          dsimp only [Option.toList, List.cons_append, List.nil_append, List.append_nil]
          refine T.if_eqN (tgt := 80) (pc' := 58) (q_d dX2_readRound_0 31 rfl) rfl (by decide) (by omega) (fun h55 => ?_) (fun h55 => ?_)
          · exact absurd h55 (by decide)
          · refine T.aload_n (pc' := 59) (q_d dX2_readRound_0 32 rfl) rfl rfl rfl ?_
            refine T.aload_n (pc' := 60) (q_d dX2_readRound_0 33 rfl) rfl rfl rfl ?_
            refine T.iload_n (pc' := 61) (q_d dX2_readRound_0 34 rfl) rfl rfl rfl ?_
            refine T.callV (pc' := 64) (ci := 2) (q_d dX2_readRound_0 35 rfl) rfl uX2_digitAt wM_X2_35 (c_digitAt (by exact hP) ((x3.q (k := 7) (by decide)).q (k := 6) (by decide)) hw (show p + 1 < 1000 by omega) d2) rfl rfl (by decide) rfl rfl (by decide) (Nat.le_of_ble_eq_true rfl) rfl rfl (fun _ => rfl) ?_
            rintro _ _ ⟨rfl, rfl⟩
            dsimp only [Option.toList, List.cons_append, List.nil_append, List.append_nil]
            refine T.putI (pc' := 67) (ci := 2) (k0 := 8) (q_d dX2_readRound_0 36 rfl) rfl rfl (by decide) rfl inX2 tyX2 tyX2_ok nmX2 (by decide) rfl wF_X2_25 rfl rfl rfl ?_
            refine T.aload_n (pc' := 68) (q_d dX2_readRound_0 37 rfl) rfl rfl rfl ?_
            refine T.dup (pc' := 69) (q_d dX2_readRound_0 38 rfl) rfl rfl ?_
            refine T.getI (pc' := 72) (ci := 2) (k0 := 6) (q_d dX2_readRound_0 39 rfl) rfl rfl (by decide) rfl inX2 (by decide) rfl wF_X2_19 rfl ?_
            refine T.iconst (pc' := 73) (v := nI 1) (q_d dX2_readRound_1 0 rfl) rfl (by decide) ?_
            refine T.iadd (pc' := 74) (q_d dX2_readRound_1 1 rfl) rfl (nI_add _ _) ?_
            refine T.putI (pc' := 77) (ci := 2) (k0 := 6) (q_d dX2_readRound_1 2 rfl) rfl rfl (by decide) rfl inX2 tyX2 tyX2_ok nmX2 (by decide) rfl wF_X2_19 rfl rfl rfl ?_
            refine T.iinc (pc' := 80) (q_d dX2_readRound_1 3 rfl) rfl rfl (nN_p _ 1) (by decide) rfl rfl ?_
            refine T.aload_n (pc' := 81) (q_d dX2_readRound_1 4 rfl) rfl rfl rfl ?_
            refine T.iload_n (pc' := 82) (q_d dX2_readRound_1 5 rfl) rfl rfl rfl ?_
            refine T.bipush (pc' := 84) (v := nI 58) (q_d dX2_readRound_1 6 rfl) rfl (by decide) ?_
            refine T.callV (pc' := 87) (ci := 2) (q_d dX2_readRound_1 7 rfl) rfl uX2_isSign wM_X2_39 (c_isSign0 (by exact hP) ((((x3.q (k := 7) (by decide)).q (k := 6) (by decide)).q (k := 8) (by decide)).q (k := 6) (by decide)) hw (show (p + 1 + 1) < 1000 by omega) (by decide) s1) rfl rfl (by decide) rfl rfl (by decide) (Nat.le_of_ble_eq_true rfl) rfl rfl (fun _ => rfl) ?_
            rintro _ _ ⟨rfl, rfl⟩
            dsimp only [Option.toList, List.cons_append, List.nil_append, List.append_nil]
            refine T.if_eqN (tgt := 112) (pc' := 90) (q_d dX2_readRound_1 8 rfl) rfl (by decide) (by omega) (fun h87 => ?_) (fun h87 => ?_)
            · refine T.iconst (pc' := 113) (v := nI 0) (q_d dX2_readRound_1 22 rfl) rfl (by decide) ?_
              refine T.zret (q_d dX2_readRound_1 23 rfl) rfl (by decide) rfl rfl ?_
              refine ⟨rfl, fun a ha => ?_, ⟨?_, ?_, ?_⟩, ?_, ?_, ?_, Or.inr ⟨rfl, hok⟩⟩
              · funext j; simp [qI, ha]
              · simp [qI]
              · simp [qI]
              · simp [qI]
              · rw [e1]; simp [qI]
              · rw [e2]; simp [qI]
              · rw [eB]; simp [qI]; try omega
            · exact absurd rfl h87
      | true =>
        cases s2 : dg n t ((p + 2) + 1) with
        | false =>
          have hok : okR n t p = false := by unfold okR; rw [eB, s1, s2]; rfl
          refine T.aload_n (pc' := 1) (q_d dX2_readRound_0 0 rfl) rfl rfl rfl ?_
          refine T.iconst (pc' := 2) (v := nI 0) (q_d dX2_readRound_0 1 rfl) rfl (by decide) ?_
          refine T.putI (pc' := 5) (ci := 2) (k0 := 6) (q_d dX2_readRound_0 2 rfl) rfl rfl (by decide) rfl inX2 tyX2 tyX2_ok nmX2 (by decide) rfl wF_X2_19 rfl rfl rfl ?_
          refine T.aload_n (pc' := 6) (q_d dX2_readRound_0 3 rfl) rfl rfl rfl ?_
          refine T.iconst (pc' := 7) (v := nI 4294967295) (q_d dX2_readRound_0 4 rfl) rfl (by decide) ?_
          refine T.putI (pc' := 10) (ci := 2) (k0 := 7) (q_d dX2_readRound_0 5 rfl) rfl rfl (by decide) rfl inX2 tyX2 tyX2_ok nmX2 (by decide) rfl wF_X2_22 rfl rfl rfl ?_
          refine T.aload_n (pc' := 11) (q_d dX2_readRound_0 6 rfl) rfl rfl rfl ?_
          refine T.iconst (pc' := 12) (v := nI 4294967295) (q_d dX2_readRound_0 7 rfl) rfl (by decide) ?_
          refine T.putI (pc' := 15) (ci := 2) (k0 := 8) (q_d dX2_readRound_0 8 rfl) rfl rfl (by decide) rfl inX2 tyX2 tyX2_ok nmX2 (by decide) rfl wF_X2_25 rfl rfl rfl ?_
          refine T.aload_n (pc' := 16) (q_d dX2_readRound_0 9 rfl) rfl rfl rfl ?_
          refine T.getI (pc' := 19) (ci := 2) (k0 := 2) (q_d dX2_readRound_0 10 rfl) rfl rfl (by decide) rfl inX2 (by decide) rfl wF_X2_28 st2 ?_
          refine T.istore_n (pc' := 20) (q_d dX2_readRound_0 11 rfl) rfl rfl (by decide) rfl rfl ?_
          refine T.aload_n (pc' := 21) (q_d dX2_readRound_0 12 rfl) rfl rfl rfl ?_
          refine T.iload_n (pc' := 22) (q_d dX2_readRound_0 13 rfl) rfl rfl rfl ?_
          refine T.callV (pc' := 25) (ci := 2) (q_d dX2_readRound_0 14 rfl) rfl uX2_isDigit wM_X2_31 (c_isDigit1 (by exact hP) x3 hw (show p < 1000 by omega) d1) rfl rfl (by decide) rfl rfl (by decide) (Nat.le_of_ble_eq_true rfl) rfl rfl (fun _ => rfl) ?_
          rintro _ _ ⟨rfl, rfl⟩
          dsimp only [Option.toList, List.cons_append, List.nil_append, List.append_nil]
          refine T.if_eqN (tgt := 50) (pc' := 28) (q_d dX2_readRound_0 15 rfl) rfl (by decide) (by omega) (fun h25 => ?_) (fun h25 => ?_)
          · exact absurd h25 (by decide)
          · refine T.aload_n (pc' := 29) (q_d dX2_readRound_0 16 rfl) rfl rfl rfl ?_
            refine T.aload_n (pc' := 30) (q_d dX2_readRound_0 17 rfl) rfl rfl rfl ?_
            refine T.iload_n (pc' := 31) (q_d dX2_readRound_0 18 rfl) rfl rfl rfl ?_
            refine T.callV (pc' := 34) (ci := 2) (q_d dX2_readRound_0 19 rfl) rfl uX2_digitAt wM_X2_35 (c_digitAt (by exact hP) x3 hw (show p < 1000 by omega) d1) rfl rfl (by decide) rfl rfl (by decide) (Nat.le_of_ble_eq_true rfl) rfl rfl (fun _ => rfl) ?_
            rintro _ _ ⟨rfl, rfl⟩
            dsimp only [Option.toList, List.cons_append, List.nil_append, List.append_nil]
            refine T.putI (pc' := 37) (ci := 2) (k0 := 7) (q_d dX2_readRound_0 20 rfl) rfl rfl (by decide) rfl inX2 tyX2 tyX2_ok nmX2 (by decide) rfl wF_X2_22 rfl rfl rfl ?_
            refine T.aload_n (pc' := 38) (q_d dX2_readRound_0 21 rfl) rfl rfl rfl ?_
            refine T.dup (pc' := 39) (q_d dX2_readRound_0 22 rfl) rfl rfl ?_
            refine T.getI (pc' := 42) (ci := 2) (k0 := 6) (q_d dX2_readRound_0 23 rfl) rfl rfl (by decide) rfl inX2 (by decide) rfl wF_X2_19 rfl ?_
            refine T.iconst (pc' := 43) (v := nI 1) (q_d dX2_readRound_0 24 rfl) rfl (by decide) ?_
            refine T.iadd (pc' := 44) (q_d dX2_readRound_0 25 rfl) rfl (nI_add _ _) ?_
            refine T.putI (pc' := 47) (ci := 2) (k0 := 6) (q_d dX2_readRound_0 26 rfl) rfl rfl (by decide) rfl inX2 tyX2 tyX2_ok nmX2 (by decide) rfl wF_X2_19 rfl rfl rfl ?_
            refine T.iinc (pc' := 50) (q_d dX2_readRound_0 27 rfl) rfl rfl (nN_p _ 1) (by decide) rfl rfl ?_
            refine T.aload_n (pc' := 51) (q_d dX2_readRound_0 28 rfl) rfl rfl rfl ?_
            refine T.iload_n (pc' := 52) (q_d dX2_readRound_0 29 rfl) rfl rfl rfl ?_
            refine T.callV (pc' := 55) (ci := 2) (q_d dX2_readRound_0 30 rfl) rfl uX2_isDigit wM_X2_31 (c_isDigit1 (by exact hP) ((x3.q (k := 7) (by decide)).q (k := 6) (by decide)) hw (show p + 1 < 1000 by omega) d2) rfl rfl (by decide) rfl rfl (by decide) (Nat.le_of_ble_eq_true rfl) rfl rfl (fun _ => rfl) ?_
            rintro _ _ ⟨rfl, rfl⟩
            dsimp only [Option.toList, List.cons_append, List.nil_append, List.append_nil]
            refine T.if_eqN (tgt := 80) (pc' := 58) (q_d dX2_readRound_0 31 rfl) rfl (by decide) (by omega) (fun h55 => ?_) (fun h55 => ?_)
            · exact absurd h55 (by decide)
            · refine T.aload_n (pc' := 59) (q_d dX2_readRound_0 32 rfl) rfl rfl rfl ?_
              refine T.aload_n (pc' := 60) (q_d dX2_readRound_0 33 rfl) rfl rfl rfl ?_
              refine T.iload_n (pc' := 61) (q_d dX2_readRound_0 34 rfl) rfl rfl rfl ?_
              refine T.callV (pc' := 64) (ci := 2) (q_d dX2_readRound_0 35 rfl) rfl uX2_digitAt wM_X2_35 (c_digitAt (by exact hP) ((x3.q (k := 7) (by decide)).q (k := 6) (by decide)) hw (show p + 1 < 1000 by omega) d2) rfl rfl (by decide) rfl rfl (by decide) (Nat.le_of_ble_eq_true rfl) rfl rfl (fun _ => rfl) ?_
              rintro _ _ ⟨rfl, rfl⟩
              dsimp only [Option.toList, List.cons_append, List.nil_append, List.append_nil]
              refine T.putI (pc' := 67) (ci := 2) (k0 := 8) (q_d dX2_readRound_0 36 rfl) rfl rfl (by decide) rfl inX2 tyX2 tyX2_ok nmX2 (by decide) rfl wF_X2_25 rfl rfl rfl ?_
              refine T.aload_n (pc' := 68) (q_d dX2_readRound_0 37 rfl) rfl rfl rfl ?_
              refine T.dup (pc' := 69) (q_d dX2_readRound_0 38 rfl) rfl rfl ?_
              refine T.getI (pc' := 72) (ci := 2) (k0 := 6) (q_d dX2_readRound_0 39 rfl) rfl rfl (by decide) rfl inX2 (by decide) rfl wF_X2_19 rfl ?_
              refine T.iconst (pc' := 73) (v := nI 1) (q_d dX2_readRound_1 0 rfl) rfl (by decide) ?_
              refine T.iadd (pc' := 74) (q_d dX2_readRound_1 1 rfl) rfl (nI_add _ _) ?_
              refine T.putI (pc' := 77) (ci := 2) (k0 := 6) (q_d dX2_readRound_1 2 rfl) rfl rfl (by decide) rfl inX2 tyX2 tyX2_ok nmX2 (by decide) rfl wF_X2_19 rfl rfl rfl ?_
              refine T.iinc (pc' := 80) (q_d dX2_readRound_1 3 rfl) rfl rfl (nN_p _ 1) (by decide) rfl rfl ?_
              refine T.aload_n (pc' := 81) (q_d dX2_readRound_1 4 rfl) rfl rfl rfl ?_
              refine T.iload_n (pc' := 82) (q_d dX2_readRound_1 5 rfl) rfl rfl rfl ?_
              refine T.bipush (pc' := 84) (v := nI 58) (q_d dX2_readRound_1 6 rfl) rfl (by decide) ?_
              refine T.callV (pc' := 87) (ci := 2) (q_d dX2_readRound_1 7 rfl) rfl uX2_isSign wM_X2_39 (c_isSign1 (by exact hP) ((((x3.q (k := 7) (by decide)).q (k := 6) (by decide)).q (k := 8) (by decide)).q (k := 6) (by decide)) hw (show (p + 1 + 1) < 1000 by omega) (by decide) s1) rfl rfl (by decide) rfl rfl (by decide) (Nat.le_of_ble_eq_true rfl) rfl rfl (fun _ => rfl) ?_
              rintro _ _ ⟨rfl, rfl⟩
              dsimp only [Option.toList, List.cons_append, List.nil_append, List.append_nil]
              refine T.if_eqN (tgt := 112) (pc' := 90) (q_d dX2_readRound_1 8 rfl) rfl (by decide) (by omega) (fun h87 => ?_) (fun h87 => ?_)
              · exact absurd h87 (by decide)
              · refine T.aload_n (pc' := 91) (q_d dX2_readRound_1 9 rfl) rfl rfl rfl ?_
                refine T.iload_n (pc' := 92) (q_d dX2_readRound_1 10 rfl) rfl rfl rfl ?_
                refine T.iconst (pc' := 93) (v := nI 1) (q_d dX2_readRound_1 11 rfl) rfl (by decide) ?_
                refine T.iadd (pc' := 94) (q_d dX2_readRound_1 12 rfl) rfl (nI_add _ _) ?_
                refine T.callV (pc' := 97) (ci := 2) (q_d dX2_readRound_1 13 rfl) rfl uX2_isDigit wM_X2_31 (c_isDigit0 (by exact hP) ((((x3.q (k := 7) (by decide)).q (k := 6) (by decide)).q (k := 8) (by decide)).q (k := 6) (by decide)) hw (show (p + 1 + 1) + 1 < 1000 by omega) s2) rfl rfl (by decide) rfl rfl (by decide) (Nat.le_of_ble_eq_true rfl) rfl rfl (fun _ => rfl) ?_
                rintro _ _ ⟨rfl, rfl⟩
                dsimp only [Option.toList, List.cons_append, List.nil_append, List.append_nil]
                refine T.if_eqN (tgt := 112) (pc' := 100) (q_d dX2_readRound_1 14 rfl) rfl (by decide) (by omega) (fun h97 => ?_) (fun h97 => ?_)
                · refine T.iconst (pc' := 113) (v := nI 0) (q_d dX2_readRound_1 22 rfl) rfl (by decide) ?_
                  refine T.zret (q_d dX2_readRound_1 23 rfl) rfl (by decide) rfl rfl ?_
                  refine ⟨rfl, fun a ha => ?_, ⟨?_, ?_, ?_⟩, ?_, ?_, ?_, Or.inr ⟨rfl, hok⟩⟩
                  · funext j; simp [qI, ha]
                  · simp [qI]
                  · simp [qI]
                  · simp [qI]
                  · rw [e1]; simp [qI]
                  · rw [e2]; simp [qI]
                  · rw [eB]; simp [qI]; try omega
                · exact absurd rfl h97
        | true =>
          cases s3 : sg n t ((p + 2) + 2) 59 with
          | false =>
            have hok : okR n t p = false := by unfold okR; rw [eB, s1, s2, s3]; rfl
            refine T.aload_n (pc' := 1) (q_d dX2_readRound_0 0 rfl) rfl rfl rfl ?_
            refine T.iconst (pc' := 2) (v := nI 0) (q_d dX2_readRound_0 1 rfl) rfl (by decide) ?_
            refine T.putI (pc' := 5) (ci := 2) (k0 := 6) (q_d dX2_readRound_0 2 rfl) rfl rfl (by decide) rfl inX2 tyX2 tyX2_ok nmX2 (by decide) rfl wF_X2_19 rfl rfl rfl ?_
            refine T.aload_n (pc' := 6) (q_d dX2_readRound_0 3 rfl) rfl rfl rfl ?_
            refine T.iconst (pc' := 7) (v := nI 4294967295) (q_d dX2_readRound_0 4 rfl) rfl (by decide) ?_
            refine T.putI (pc' := 10) (ci := 2) (k0 := 7) (q_d dX2_readRound_0 5 rfl) rfl rfl (by decide) rfl inX2 tyX2 tyX2_ok nmX2 (by decide) rfl wF_X2_22 rfl rfl rfl ?_
            refine T.aload_n (pc' := 11) (q_d dX2_readRound_0 6 rfl) rfl rfl rfl ?_
            refine T.iconst (pc' := 12) (v := nI 4294967295) (q_d dX2_readRound_0 7 rfl) rfl (by decide) ?_
            refine T.putI (pc' := 15) (ci := 2) (k0 := 8) (q_d dX2_readRound_0 8 rfl) rfl rfl (by decide) rfl inX2 tyX2 tyX2_ok nmX2 (by decide) rfl wF_X2_25 rfl rfl rfl ?_
            refine T.aload_n (pc' := 16) (q_d dX2_readRound_0 9 rfl) rfl rfl rfl ?_
            refine T.getI (pc' := 19) (ci := 2) (k0 := 2) (q_d dX2_readRound_0 10 rfl) rfl rfl (by decide) rfl inX2 (by decide) rfl wF_X2_28 st2 ?_
            refine T.istore_n (pc' := 20) (q_d dX2_readRound_0 11 rfl) rfl rfl (by decide) rfl rfl ?_
            refine T.aload_n (pc' := 21) (q_d dX2_readRound_0 12 rfl) rfl rfl rfl ?_
            refine T.iload_n (pc' := 22) (q_d dX2_readRound_0 13 rfl) rfl rfl rfl ?_
            refine T.callV (pc' := 25) (ci := 2) (q_d dX2_readRound_0 14 rfl) rfl uX2_isDigit wM_X2_31 (c_isDigit1 (by exact hP) x3 hw (show p < 1000 by omega) d1) rfl rfl (by decide) rfl rfl (by decide) (Nat.le_of_ble_eq_true rfl) rfl rfl (fun _ => rfl) ?_
            rintro _ _ ⟨rfl, rfl⟩
            dsimp only [Option.toList, List.cons_append, List.nil_append, List.append_nil]
            refine T.if_eqN (tgt := 50) (pc' := 28) (q_d dX2_readRound_0 15 rfl) rfl (by decide) (by omega) (fun h25 => ?_) (fun h25 => ?_)
            · exact absurd h25 (by decide)
            · refine T.aload_n (pc' := 29) (q_d dX2_readRound_0 16 rfl) rfl rfl rfl ?_
              refine T.aload_n (pc' := 30) (q_d dX2_readRound_0 17 rfl) rfl rfl rfl ?_
              refine T.iload_n (pc' := 31) (q_d dX2_readRound_0 18 rfl) rfl rfl rfl ?_
              refine T.callV (pc' := 34) (ci := 2) (q_d dX2_readRound_0 19 rfl) rfl uX2_digitAt wM_X2_35 (c_digitAt (by exact hP) x3 hw (show p < 1000 by omega) d1) rfl rfl (by decide) rfl rfl (by decide) (Nat.le_of_ble_eq_true rfl) rfl rfl (fun _ => rfl) ?_
              rintro _ _ ⟨rfl, rfl⟩
              dsimp only [Option.toList, List.cons_append, List.nil_append, List.append_nil]
              refine T.putI (pc' := 37) (ci := 2) (k0 := 7) (q_d dX2_readRound_0 20 rfl) rfl rfl (by decide) rfl inX2 tyX2 tyX2_ok nmX2 (by decide) rfl wF_X2_22 rfl rfl rfl ?_
              refine T.aload_n (pc' := 38) (q_d dX2_readRound_0 21 rfl) rfl rfl rfl ?_
              refine T.dup (pc' := 39) (q_d dX2_readRound_0 22 rfl) rfl rfl ?_
              refine T.getI (pc' := 42) (ci := 2) (k0 := 6) (q_d dX2_readRound_0 23 rfl) rfl rfl (by decide) rfl inX2 (by decide) rfl wF_X2_19 rfl ?_
              refine T.iconst (pc' := 43) (v := nI 1) (q_d dX2_readRound_0 24 rfl) rfl (by decide) ?_
              refine T.iadd (pc' := 44) (q_d dX2_readRound_0 25 rfl) rfl (nI_add _ _) ?_
              refine T.putI (pc' := 47) (ci := 2) (k0 := 6) (q_d dX2_readRound_0 26 rfl) rfl rfl (by decide) rfl inX2 tyX2 tyX2_ok nmX2 (by decide) rfl wF_X2_19 rfl rfl rfl ?_
              refine T.iinc (pc' := 50) (q_d dX2_readRound_0 27 rfl) rfl rfl (nN_p _ 1) (by decide) rfl rfl ?_
              refine T.aload_n (pc' := 51) (q_d dX2_readRound_0 28 rfl) rfl rfl rfl ?_
              refine T.iload_n (pc' := 52) (q_d dX2_readRound_0 29 rfl) rfl rfl rfl ?_
              refine T.callV (pc' := 55) (ci := 2) (q_d dX2_readRound_0 30 rfl) rfl uX2_isDigit wM_X2_31 (c_isDigit1 (by exact hP) ((x3.q (k := 7) (by decide)).q (k := 6) (by decide)) hw (show p + 1 < 1000 by omega) d2) rfl rfl (by decide) rfl rfl (by decide) (Nat.le_of_ble_eq_true rfl) rfl rfl (fun _ => rfl) ?_
              rintro _ _ ⟨rfl, rfl⟩
              dsimp only [Option.toList, List.cons_append, List.nil_append, List.append_nil]
              refine T.if_eqN (tgt := 80) (pc' := 58) (q_d dX2_readRound_0 31 rfl) rfl (by decide) (by omega) (fun h55 => ?_) (fun h55 => ?_)
              · exact absurd h55 (by decide)
              · refine T.aload_n (pc' := 59) (q_d dX2_readRound_0 32 rfl) rfl rfl rfl ?_
                refine T.aload_n (pc' := 60) (q_d dX2_readRound_0 33 rfl) rfl rfl rfl ?_
                refine T.iload_n (pc' := 61) (q_d dX2_readRound_0 34 rfl) rfl rfl rfl ?_
                refine T.callV (pc' := 64) (ci := 2) (q_d dX2_readRound_0 35 rfl) rfl uX2_digitAt wM_X2_35 (c_digitAt (by exact hP) ((x3.q (k := 7) (by decide)).q (k := 6) (by decide)) hw (show p + 1 < 1000 by omega) d2) rfl rfl (by decide) rfl rfl (by decide) (Nat.le_of_ble_eq_true rfl) rfl rfl (fun _ => rfl) ?_
                rintro _ _ ⟨rfl, rfl⟩
                dsimp only [Option.toList, List.cons_append, List.nil_append, List.append_nil]
                refine T.putI (pc' := 67) (ci := 2) (k0 := 8) (q_d dX2_readRound_0 36 rfl) rfl rfl (by decide) rfl inX2 tyX2 tyX2_ok nmX2 (by decide) rfl wF_X2_25 rfl rfl rfl ?_
                refine T.aload_n (pc' := 68) (q_d dX2_readRound_0 37 rfl) rfl rfl rfl ?_
                refine T.dup (pc' := 69) (q_d dX2_readRound_0 38 rfl) rfl rfl ?_
                refine T.getI (pc' := 72) (ci := 2) (k0 := 6) (q_d dX2_readRound_0 39 rfl) rfl rfl (by decide) rfl inX2 (by decide) rfl wF_X2_19 rfl ?_
                refine T.iconst (pc' := 73) (v := nI 1) (q_d dX2_readRound_1 0 rfl) rfl (by decide) ?_
                refine T.iadd (pc' := 74) (q_d dX2_readRound_1 1 rfl) rfl (nI_add _ _) ?_
                refine T.putI (pc' := 77) (ci := 2) (k0 := 6) (q_d dX2_readRound_1 2 rfl) rfl rfl (by decide) rfl inX2 tyX2 tyX2_ok nmX2 (by decide) rfl wF_X2_19 rfl rfl rfl ?_
                refine T.iinc (pc' := 80) (q_d dX2_readRound_1 3 rfl) rfl rfl (nN_p _ 1) (by decide) rfl rfl ?_
                refine T.aload_n (pc' := 81) (q_d dX2_readRound_1 4 rfl) rfl rfl rfl ?_
                refine T.iload_n (pc' := 82) (q_d dX2_readRound_1 5 rfl) rfl rfl rfl ?_
                refine T.bipush (pc' := 84) (v := nI 58) (q_d dX2_readRound_1 6 rfl) rfl (by decide) ?_
                refine T.callV (pc' := 87) (ci := 2) (q_d dX2_readRound_1 7 rfl) rfl uX2_isSign wM_X2_39 (c_isSign1 (by exact hP) ((((x3.q (k := 7) (by decide)).q (k := 6) (by decide)).q (k := 8) (by decide)).q (k := 6) (by decide)) hw (show (p + 1 + 1) < 1000 by omega) (by decide) s1) rfl rfl (by decide) rfl rfl (by decide) (Nat.le_of_ble_eq_true rfl) rfl rfl (fun _ => rfl) ?_
                rintro _ _ ⟨rfl, rfl⟩
                dsimp only [Option.toList, List.cons_append, List.nil_append, List.append_nil]
                refine T.if_eqN (tgt := 112) (pc' := 90) (q_d dX2_readRound_1 8 rfl) rfl (by decide) (by omega) (fun h87 => ?_) (fun h87 => ?_)
                · exact absurd h87 (by decide)
                · refine T.aload_n (pc' := 91) (q_d dX2_readRound_1 9 rfl) rfl rfl rfl ?_
                  refine T.iload_n (pc' := 92) (q_d dX2_readRound_1 10 rfl) rfl rfl rfl ?_
                  refine T.iconst (pc' := 93) (v := nI 1) (q_d dX2_readRound_1 11 rfl) rfl (by decide) ?_
                  refine T.iadd (pc' := 94) (q_d dX2_readRound_1 12 rfl) rfl (nI_add _ _) ?_
                  refine T.callV (pc' := 97) (ci := 2) (q_d dX2_readRound_1 13 rfl) rfl uX2_isDigit wM_X2_31 (c_isDigit1 (by exact hP) ((((x3.q (k := 7) (by decide)).q (k := 6) (by decide)).q (k := 8) (by decide)).q (k := 6) (by decide)) hw (show (p + 1 + 1) + 1 < 1000 by omega) s2) rfl rfl (by decide) rfl rfl (by decide) (Nat.le_of_ble_eq_true rfl) rfl rfl (fun _ => rfl) ?_
                  rintro _ _ ⟨rfl, rfl⟩
                  dsimp only [Option.toList, List.cons_append, List.nil_append, List.append_nil]
                  refine T.if_eqN (tgt := 112) (pc' := 100) (q_d dX2_readRound_1 14 rfl) rfl (by decide) (by omega) (fun h97 => ?_) (fun h97 => ?_)
                  · exact absurd h97 (by decide)
                  · refine T.aload_n (pc' := 101) (q_d dX2_readRound_1 15 rfl) rfl rfl rfl ?_
                    refine T.iload_n (pc' := 102) (q_d dX2_readRound_1 16 rfl) rfl rfl rfl ?_
                    refine T.iconst (pc' := 103) (v := nI 2) (q_d dX2_readRound_1 17 rfl) rfl (by decide) ?_
                    refine T.iadd (pc' := 104) (q_d dX2_readRound_1 18 rfl) rfl (nI_add _ _) ?_
                    refine T.bipush (pc' := 106) (v := nI 59) (q_d dX2_readRound_1 19 rfl) rfl (by decide) ?_
                    refine T.callV (pc' := 109) (ci := 2) (q_d dX2_readRound_1 20 rfl) rfl uX2_isSign wM_X2_39 (c_isSign0 (by exact hP) ((((x3.q (k := 7) (by decide)).q (k := 6) (by decide)).q (k := 8) (by decide)).q (k := 6) (by decide)) hw (show (p + 1 + 1) + 2 < 1000 by omega) (by decide) s3) rfl rfl (by decide) rfl rfl (by decide) (Nat.le_of_ble_eq_true rfl) rfl rfl (fun _ => rfl) ?_
                    rintro _ _ ⟨rfl, rfl⟩
                    dsimp only [Option.toList, List.cons_append, List.nil_append, List.append_nil]
                    refine T.if_neN (tgt := 114) (pc' := 112) (q_d dX2_readRound_1 21 rfl) rfl (by decide) (by omega) (fun h109 => ?_) (fun h109 => ?_)
                    · exact absurd rfl h109
                    · refine T.iconst (pc' := 113) (v := nI 0) (q_d dX2_readRound_1 22 rfl) rfl (by decide) ?_
                      refine T.zret (q_d dX2_readRound_1 23 rfl) rfl (by decide) rfl rfl ?_
                      refine ⟨rfl, fun a ha => ?_, ⟨?_, ?_, ?_⟩, ?_, ?_, ?_, Or.inr ⟨rfl, hok⟩⟩
                      · funext j; simp [qI, ha]
                      · simp [qI]
                      · simp [qI]
                      · simp [qI]
                      · rw [e1]; simp [qI]
                      · rw [e2]; simp [qI]
                      · rw [eB]; simp [qI]; try omega
          | true =>
            have hok : okR n t p = true := by unfold okR; rw [eB, s1, s2, s3]; rfl
            refine T.aload_n (pc' := 1) (q_d dX2_readRound_0 0 rfl) rfl rfl rfl ?_
            refine T.iconst (pc' := 2) (v := nI 0) (q_d dX2_readRound_0 1 rfl) rfl (by decide) ?_
            refine T.putI (pc' := 5) (ci := 2) (k0 := 6) (q_d dX2_readRound_0 2 rfl) rfl rfl (by decide) rfl inX2 tyX2 tyX2_ok nmX2 (by decide) rfl wF_X2_19 rfl rfl rfl ?_
            refine T.aload_n (pc' := 6) (q_d dX2_readRound_0 3 rfl) rfl rfl rfl ?_
            refine T.iconst (pc' := 7) (v := nI 4294967295) (q_d dX2_readRound_0 4 rfl) rfl (by decide) ?_
            refine T.putI (pc' := 10) (ci := 2) (k0 := 7) (q_d dX2_readRound_0 5 rfl) rfl rfl (by decide) rfl inX2 tyX2 tyX2_ok nmX2 (by decide) rfl wF_X2_22 rfl rfl rfl ?_
            refine T.aload_n (pc' := 11) (q_d dX2_readRound_0 6 rfl) rfl rfl rfl ?_
            refine T.iconst (pc' := 12) (v := nI 4294967295) (q_d dX2_readRound_0 7 rfl) rfl (by decide) ?_
            refine T.putI (pc' := 15) (ci := 2) (k0 := 8) (q_d dX2_readRound_0 8 rfl) rfl rfl (by decide) rfl inX2 tyX2 tyX2_ok nmX2 (by decide) rfl wF_X2_25 rfl rfl rfl ?_
            refine T.aload_n (pc' := 16) (q_d dX2_readRound_0 9 rfl) rfl rfl rfl ?_
            refine T.getI (pc' := 19) (ci := 2) (k0 := 2) (q_d dX2_readRound_0 10 rfl) rfl rfl (by decide) rfl inX2 (by decide) rfl wF_X2_28 st2 ?_
            refine T.istore_n (pc' := 20) (q_d dX2_readRound_0 11 rfl) rfl rfl (by decide) rfl rfl ?_
            refine T.aload_n (pc' := 21) (q_d dX2_readRound_0 12 rfl) rfl rfl rfl ?_
            refine T.iload_n (pc' := 22) (q_d dX2_readRound_0 13 rfl) rfl rfl rfl ?_
            refine T.callV (pc' := 25) (ci := 2) (q_d dX2_readRound_0 14 rfl) rfl uX2_isDigit wM_X2_31 (c_isDigit1 (by exact hP) x3 hw (show p < 1000 by omega) d1) rfl rfl (by decide) rfl rfl (by decide) (Nat.le_of_ble_eq_true rfl) rfl rfl (fun _ => rfl) ?_
            rintro _ _ ⟨rfl, rfl⟩
            dsimp only [Option.toList, List.cons_append, List.nil_append, List.append_nil]
            refine T.if_eqN (tgt := 50) (pc' := 28) (q_d dX2_readRound_0 15 rfl) rfl (by decide) (by omega) (fun h25 => ?_) (fun h25 => ?_)
            · exact absurd h25 (by decide)
            · refine T.aload_n (pc' := 29) (q_d dX2_readRound_0 16 rfl) rfl rfl rfl ?_
              refine T.aload_n (pc' := 30) (q_d dX2_readRound_0 17 rfl) rfl rfl rfl ?_
              refine T.iload_n (pc' := 31) (q_d dX2_readRound_0 18 rfl) rfl rfl rfl ?_
              refine T.callV (pc' := 34) (ci := 2) (q_d dX2_readRound_0 19 rfl) rfl uX2_digitAt wM_X2_35 (c_digitAt (by exact hP) x3 hw (show p < 1000 by omega) d1) rfl rfl (by decide) rfl rfl (by decide) (Nat.le_of_ble_eq_true rfl) rfl rfl (fun _ => rfl) ?_
              rintro _ _ ⟨rfl, rfl⟩
              dsimp only [Option.toList, List.cons_append, List.nil_append, List.append_nil]
              refine T.putI (pc' := 37) (ci := 2) (k0 := 7) (q_d dX2_readRound_0 20 rfl) rfl rfl (by decide) rfl inX2 tyX2 tyX2_ok nmX2 (by decide) rfl wF_X2_22 rfl rfl rfl ?_
              refine T.aload_n (pc' := 38) (q_d dX2_readRound_0 21 rfl) rfl rfl rfl ?_
              refine T.dup (pc' := 39) (q_d dX2_readRound_0 22 rfl) rfl rfl ?_
              refine T.getI (pc' := 42) (ci := 2) (k0 := 6) (q_d dX2_readRound_0 23 rfl) rfl rfl (by decide) rfl inX2 (by decide) rfl wF_X2_19 rfl ?_
              refine T.iconst (pc' := 43) (v := nI 1) (q_d dX2_readRound_0 24 rfl) rfl (by decide) ?_
              refine T.iadd (pc' := 44) (q_d dX2_readRound_0 25 rfl) rfl (nI_add _ _) ?_
              refine T.putI (pc' := 47) (ci := 2) (k0 := 6) (q_d dX2_readRound_0 26 rfl) rfl rfl (by decide) rfl inX2 tyX2 tyX2_ok nmX2 (by decide) rfl wF_X2_19 rfl rfl rfl ?_
              refine T.iinc (pc' := 50) (q_d dX2_readRound_0 27 rfl) rfl rfl (nN_p _ 1) (by decide) rfl rfl ?_
              refine T.aload_n (pc' := 51) (q_d dX2_readRound_0 28 rfl) rfl rfl rfl ?_
              refine T.iload_n (pc' := 52) (q_d dX2_readRound_0 29 rfl) rfl rfl rfl ?_
              refine T.callV (pc' := 55) (ci := 2) (q_d dX2_readRound_0 30 rfl) rfl uX2_isDigit wM_X2_31 (c_isDigit1 (by exact hP) ((x3.q (k := 7) (by decide)).q (k := 6) (by decide)) hw (show p + 1 < 1000 by omega) d2) rfl rfl (by decide) rfl rfl (by decide) (Nat.le_of_ble_eq_true rfl) rfl rfl (fun _ => rfl) ?_
              rintro _ _ ⟨rfl, rfl⟩
              dsimp only [Option.toList, List.cons_append, List.nil_append, List.append_nil]
              refine T.if_eqN (tgt := 80) (pc' := 58) (q_d dX2_readRound_0 31 rfl) rfl (by decide) (by omega) (fun h55 => ?_) (fun h55 => ?_)
              · exact absurd h55 (by decide)
              · refine T.aload_n (pc' := 59) (q_d dX2_readRound_0 32 rfl) rfl rfl rfl ?_
                refine T.aload_n (pc' := 60) (q_d dX2_readRound_0 33 rfl) rfl rfl rfl ?_
                refine T.iload_n (pc' := 61) (q_d dX2_readRound_0 34 rfl) rfl rfl rfl ?_
                refine T.callV (pc' := 64) (ci := 2) (q_d dX2_readRound_0 35 rfl) rfl uX2_digitAt wM_X2_35 (c_digitAt (by exact hP) ((x3.q (k := 7) (by decide)).q (k := 6) (by decide)) hw (show p + 1 < 1000 by omega) d2) rfl rfl (by decide) rfl rfl (by decide) (Nat.le_of_ble_eq_true rfl) rfl rfl (fun _ => rfl) ?_
                rintro _ _ ⟨rfl, rfl⟩
                dsimp only [Option.toList, List.cons_append, List.nil_append, List.append_nil]
                refine T.putI (pc' := 67) (ci := 2) (k0 := 8) (q_d dX2_readRound_0 36 rfl) rfl rfl (by decide) rfl inX2 tyX2 tyX2_ok nmX2 (by decide) rfl wF_X2_25 rfl rfl rfl ?_
                refine T.aload_n (pc' := 68) (q_d dX2_readRound_0 37 rfl) rfl rfl rfl ?_
                refine T.dup (pc' := 69) (q_d dX2_readRound_0 38 rfl) rfl rfl ?_
                refine T.getI (pc' := 72) (ci := 2) (k0 := 6) (q_d dX2_readRound_0 39 rfl) rfl rfl (by decide) rfl inX2 (by decide) rfl wF_X2_19 rfl ?_
                refine T.iconst (pc' := 73) (v := nI 1) (q_d dX2_readRound_1 0 rfl) rfl (by decide) ?_
                refine T.iadd (pc' := 74) (q_d dX2_readRound_1 1 rfl) rfl (nI_add _ _) ?_
                refine T.putI (pc' := 77) (ci := 2) (k0 := 6) (q_d dX2_readRound_1 2 rfl) rfl rfl (by decide) rfl inX2 tyX2 tyX2_ok nmX2 (by decide) rfl wF_X2_19 rfl rfl rfl ?_
                refine T.iinc (pc' := 80) (q_d dX2_readRound_1 3 rfl) rfl rfl (nN_p _ 1) (by decide) rfl rfl ?_
                refine T.aload_n (pc' := 81) (q_d dX2_readRound_1 4 rfl) rfl rfl rfl ?_
                refine T.iload_n (pc' := 82) (q_d dX2_readRound_1 5 rfl) rfl rfl rfl ?_
                refine T.bipush (pc' := 84) (v := nI 58) (q_d dX2_readRound_1 6 rfl) rfl (by decide) ?_
                refine T.callV (pc' := 87) (ci := 2) (q_d dX2_readRound_1 7 rfl) rfl uX2_isSign wM_X2_39 (c_isSign1 (by exact hP) ((((x3.q (k := 7) (by decide)).q (k := 6) (by decide)).q (k := 8) (by decide)).q (k := 6) (by decide)) hw (show (p + 1 + 1) < 1000 by omega) (by decide) s1) rfl rfl (by decide) rfl rfl (by decide) (Nat.le_of_ble_eq_true rfl) rfl rfl (fun _ => rfl) ?_
                rintro _ _ ⟨rfl, rfl⟩
                dsimp only [Option.toList, List.cons_append, List.nil_append, List.append_nil]
                refine T.if_eqN (tgt := 112) (pc' := 90) (q_d dX2_readRound_1 8 rfl) rfl (by decide) (by omega) (fun h87 => ?_) (fun h87 => ?_)
                · exact absurd h87 (by decide)
                · refine T.aload_n (pc' := 91) (q_d dX2_readRound_1 9 rfl) rfl rfl rfl ?_
                  refine T.iload_n (pc' := 92) (q_d dX2_readRound_1 10 rfl) rfl rfl rfl ?_
                  refine T.iconst (pc' := 93) (v := nI 1) (q_d dX2_readRound_1 11 rfl) rfl (by decide) ?_
                  refine T.iadd (pc' := 94) (q_d dX2_readRound_1 12 rfl) rfl (nI_add _ _) ?_
                  refine T.callV (pc' := 97) (ci := 2) (q_d dX2_readRound_1 13 rfl) rfl uX2_isDigit wM_X2_31 (c_isDigit1 (by exact hP) ((((x3.q (k := 7) (by decide)).q (k := 6) (by decide)).q (k := 8) (by decide)).q (k := 6) (by decide)) hw (show (p + 1 + 1) + 1 < 1000 by omega) s2) rfl rfl (by decide) rfl rfl (by decide) (Nat.le_of_ble_eq_true rfl) rfl rfl (fun _ => rfl) ?_
                  rintro _ _ ⟨rfl, rfl⟩
                  dsimp only [Option.toList, List.cons_append, List.nil_append, List.append_nil]
                  refine T.if_eqN (tgt := 112) (pc' := 100) (q_d dX2_readRound_1 14 rfl) rfl (by decide) (by omega) (fun h97 => ?_) (fun h97 => ?_)
                  · exact absurd h97 (by decide)
                  · refine T.aload_n (pc' := 101) (q_d dX2_readRound_1 15 rfl) rfl rfl rfl ?_
                    refine T.iload_n (pc' := 102) (q_d dX2_readRound_1 16 rfl) rfl rfl rfl ?_
                    refine T.iconst (pc' := 103) (v := nI 2) (q_d dX2_readRound_1 17 rfl) rfl (by decide) ?_
                    refine T.iadd (pc' := 104) (q_d dX2_readRound_1 18 rfl) rfl (nI_add _ _) ?_
                    refine T.bipush (pc' := 106) (v := nI 59) (q_d dX2_readRound_1 19 rfl) rfl (by decide) ?_
                    refine T.callV (pc' := 109) (ci := 2) (q_d dX2_readRound_1 20 rfl) rfl uX2_isSign wM_X2_39 (c_isSign1 (by exact hP) ((((x3.q (k := 7) (by decide)).q (k := 6) (by decide)).q (k := 8) (by decide)).q (k := 6) (by decide)) hw (show (p + 1 + 1) + 2 < 1000 by omega) (by decide) s3) rfl rfl (by decide) rfl rfl (by decide) (Nat.le_of_ble_eq_true rfl) rfl rfl (fun _ => rfl) ?_
                    rintro _ _ ⟨rfl, rfl⟩
                    dsimp only [Option.toList, List.cons_append, List.nil_append, List.append_nil]
                    refine T.if_neN (tgt := 114) (pc' := 112) (q_d dX2_readRound_1 21 rfl) rfl (by decide) (by omega) (fun h109 => ?_) (fun h109 => ?_)
                    · refine T.aload_n (pc' := 115) (q_d dX2_readRound_1 24 rfl) rfl rfl rfl ?_
                      refine T.aload_n (pc' := 116) (q_d dX2_readRound_1 25 rfl) rfl rfl rfl ?_
                      refine T.iload_n (pc' := 117) (q_d dX2_readRound_1 26 rfl) rfl rfl rfl ?_
                      refine T.iconst (pc' := 118) (v := nI 1) (q_d dX2_readRound_1 27 rfl) rfl (by decide) ?_
                      refine T.iadd (pc' := 119) (q_d dX2_readRound_1 28 rfl) rfl (nI_add _ _) ?_
                      refine T.callV (pc' := 122) (ci := 2) (q_d dX2_readRound_1 29 rfl) rfl uX2_digitAt wM_X2_35 (c_digitAt (by exact hP) ((((x3.q (k := 7) (by decide)).q (k := 6) (by decide)).q (k := 8) (by decide)).q (k := 6) (by decide)) hw (show (p + 1 + 1) + 1 < 1000 by omega) s2) rfl rfl (by decide) rfl rfl (by decide) (Nat.le_of_ble_eq_true rfl) rfl rfl (fun _ => rfl) ?_
                      rintro _ _ ⟨rfl, rfl⟩
                      dsimp only [Option.toList, List.cons_append, List.nil_append, List.append_nil]
                      refine T.putI (pc' := 125) (ci := 2) (k0 := 4) (q_d dX2_readRound_1 30 rfl) rfl rfl (by decide) rfl inX2 tyX2 tyX2_ok nmX2 (by decide) rfl wF_X2_43 rfl rfl rfl ?_
                      refine T.aload_n (pc' := 126) (q_d dX2_readRound_1 31 rfl) rfl rfl rfl ?_
                      refine T.iload_n (pc' := 127) (q_d dX2_readRound_1 32 rfl) rfl rfl rfl ?_
                      refine T.iconst (pc' := 128) (v := nI 3) (q_d dX2_readRound_1 33 rfl) rfl (by decide) ?_
                      refine T.iadd (pc' := 129) (q_d dX2_readRound_1 34 rfl) rfl (nI_add _ _) ?_
                      refine T.putI (pc' := 132) (ci := 2) (k0 := 5) (q_d dX2_readRound_1 35 rfl) rfl rfl (by decide) rfl inX2 tyX2 tyX2_ok nmX2 (by decide) rfl wF_X2_46 rfl rfl rfl ?_
                      refine T.iconst (pc' := 133) (v := nI 1) (q_d dX2_readRound_1 36 rfl) rfl (by decide) ?_
                      refine T.zret (q_d dX2_readRound_1 37 rfl) rfl (by decide) rfl rfl ?_
                      refine ⟨rfl, fun a ha => ?_, ⟨?_, ?_, ?_⟩, ?_, ?_, ?_, Or.inl ⟨rfl, hok, ?_, ?_⟩⟩
                      · funext j; simp [qI, ha]
                      · simp [qI]
                      · simp [qI]
                      · simp [qI]
                      · rw [e1]; simp [qI]
                      · rw [e2]; simp [qI]
                      · rw [eB]; simp [qI]; try omega
                      · rw [eB]; simp [qI]
                      · rw [eB]; simp [qI]
                    · exact absurd h109 (by decide)
theorem c_hasGoodPlaces (hP : M.2.2 = pX pa sw) {o1 o2 dgs pl bu : Nat} (e1 : M.1 18 7 = o1) (e2 : M.1 18 8 = o2) (e6 : M.1 18 6 = dgs) (q1 : o1 = 4294967295 ∨ o1 ≤ 9) (q2 : o2 = 4294967295 ∨ o2 ≤ 9) (q6 : dgs ≤ 2) (hpl : pl ≤ 7) (hbu : bu ≤ 2) :
    Ct l hdX kX mX2_hasGoodPlaces [.ref 18, .int (nI pl), .int (nI bu)] M (fun v M' => M = M' ∧ ((v = some (.int (nI 1)) ∧ goodP o1 o2 dgs pl bu) ∨ (v = some (.int (nI 0)) ∧ ¬ goodP o1 o2 dgs pl bu))) := by
  refine Ct.of [some (.ref 18), some (.int (nI pl)), some (.int (nI bu)), none, none] (by decide +kernel) (fun h => absurd h (by decide)) (Nat.le_of_ble_eq_true rfl) rfl ?_
  have k1 := le_neg q1 hpl
  have k2 := le_neg q2 hpl
  refine T.aload_n (pc' := 1) (q_d dX2_hasGoodPlaces_0 0 rfl) rfl rfl rfl ?_
  refine T.getI (pc' := 4) (ci := 2) (k0 := 7) (q_d dX2_hasGoodPlaces_0 1 rfl) rfl rfl (by decide) rfl inX2 (by decide) rfl wF_X2_22 e1 ?_
  refine T.iload_n (pc' := 5) (q_d dX2_hasGoodPlaces_0 2 rfl) rfl rfl rfl ?_
  refine T.icmp_ge (tgt := 20) (pc' := 8) (q_d dX2_hasGoodPlaces_0 3 rfl) rfl (by decide)  (fun h5 => ?_) (fun h5 => ?_)
  · refine T.iconst (pc' := 21) (v := nI 0) (q_d dX2_hasGoodPlaces_0 10 rfl) rfl (by decide) ?_
    refine T.istore_n (pc' := 22) (q_d dX2_hasGoodPlaces_0 11 rfl) rfl rfl (by decide) rfl rfl ?_
    refine T.aload_n (pc' := 23) (q_d dX2_hasGoodPlaces_0 12 rfl) rfl rfl rfl ?_
    refine T.getI (pc' := 26) (ci := 2) (k0 := 6) (q_d dX2_hasGoodPlaces_0 13 rfl) rfl rfl (by decide) rfl inX2 (by decide) rfl wF_X2_19 e6 ?_
    refine T.iconst (pc' := 27) (v := nI 2) (q_d dX2_hasGoodPlaces_0 14 rfl) rfl (by decide) ?_
    refine T.icmp_neN (tgt := 45) (pc' := 30) (q_d dX2_hasGoodPlaces_0 15 rfl) rfl (by decide) (by omega) (by omega) (fun h27 => ?_) (fun h27 => ?_)
    · refine T.iconst (pc' := 46) (v := nI 0) (q_d dX2_hasGoodPlaces_0 23 rfl) rfl (by decide) ?_
      refine T.istore (pc' := 48) (q_d dX2_hasGoodPlaces_0 24 rfl) rfl (by decide) rfl rfl ?_
      refine T.iload_n (pc' := 49) (q_d dX2_hasGoodPlaces_0 25 rfl) rfl rfl rfl ?_
      refine T.if_eqN (tgt := 69) (pc' := 52) (q_d dX2_hasGoodPlaces_0 26 rfl) rfl (by decide) (by omega) (fun h49 => ?_) (fun h49 => ?_)
      · refine T.iconst (pc' := 70) (v := nI 0) (q_d dX2_hasGoodPlaces_0 35 rfl) rfl (by decide) ?_
        refine T.zret (q_d dX2_hasGoodPlaces_0 36 rfl) rfl (by decide) rfl rfl ?_
        first
          | exact absurd h49 (by decide)
          | exact absurd rfl h49
          | exact absurd h54 (by decide)
          | exact absurd rfl h54
          | exact ⟨rfl, Or.inl ⟨rfl, by simp only [k1, k2] at *; unfold goodP; omega⟩⟩
          | exact ⟨rfl, Or.inr ⟨rfl, by simp only [k1, k2] at *; unfold goodP; omega⟩⟩
      · refine T.iload (pc' := 54) (q_d dX2_hasGoodPlaces_0 27 rfl) rfl rfl ?_
        refine T.if_neN (tgt := 69) (pc' := 57) (q_d dX2_hasGoodPlaces_0 28 rfl) rfl (by decide) (by omega) (fun h54 => ?_) (fun h54 => ?_)
        · refine T.iconst (pc' := 70) (v := nI 0) (q_d dX2_hasGoodPlaces_0 35 rfl) rfl (by decide) ?_
          refine T.zret (q_d dX2_hasGoodPlaces_0 36 rfl) rfl (by decide) rfl rfl ?_
          first
            | exact absurd h49 (by decide)
            | exact absurd rfl h49
            | exact absurd h54 (by decide)
            | exact absurd rfl h54
            | exact ⟨rfl, Or.inl ⟨rfl, by simp only [k1, k2] at *; unfold goodP; omega⟩⟩
            | exact ⟨rfl, Or.inr ⟨rfl, by simp only [k1, k2] at *; unfold goodP; omega⟩⟩
        · refine T.aload_n (pc' := 58) (q_d dX2_hasGoodPlaces_0 29 rfl) rfl rfl rfl ?_
          refine T.getI (pc' := 61) (ci := 2) (k0 := 6) (q_d dX2_hasGoodPlaces_0 30 rfl) rfl rfl (by decide) rfl inX2 (by decide) rfl wF_X2_19 e6 ?_
          refine T.iload_n (pc' := 62) (q_d dX2_hasGoodPlaces_0 31 rfl) rfl rfl rfl ?_
          refine T.icmp_gtN (tgt := 69) (pc' := 65) (q_d dX2_hasGoodPlaces_0 32 rfl) rfl (by decide) (by omega) (by omega) (fun h62 => ?_) (fun h62 => ?_)
          · refine T.iconst (pc' := 70) (v := nI 0) (q_d dX2_hasGoodPlaces_0 35 rfl) rfl (by decide) ?_
            refine T.zret (q_d dX2_hasGoodPlaces_0 36 rfl) rfl (by decide) rfl rfl ?_
            first
              | exact absurd h49 (by decide)
              | exact absurd rfl h49
              | exact absurd h54 (by decide)
              | exact absurd rfl h54
              | exact ⟨rfl, Or.inl ⟨rfl, by simp only [k1, k2] at *; unfold goodP; omega⟩⟩
              | exact ⟨rfl, Or.inr ⟨rfl, by simp only [k1, k2] at *; unfold goodP; omega⟩⟩
          · refine T.iconst (pc' := 66) (v := nI 1) (q_d dX2_hasGoodPlaces_0 33 rfl) rfl (by decide) ?_
            refine T.goto (tgt := 70) (q_d dX2_hasGoodPlaces_0 34 rfl) (by decide) ?_
            refine T.zret (q_d dX2_hasGoodPlaces_0 36 rfl) rfl (by decide) rfl rfl ?_
            first
              | exact absurd h49 (by decide)
              | exact absurd rfl h49
              | exact absurd h54 (by decide)
              | exact absurd rfl h54
              | exact ⟨rfl, Or.inl ⟨rfl, by simp only [k1, k2] at *; unfold goodP; omega⟩⟩
              | exact ⟨rfl, Or.inr ⟨rfl, by simp only [k1, k2] at *; unfold goodP; omega⟩⟩
    · refine T.aload_n (pc' := 31) (q_d dX2_hasGoodPlaces_0 16 rfl) rfl rfl rfl ?_
      refine T.getI (pc' := 34) (ci := 2) (k0 := 7) (q_d dX2_hasGoodPlaces_0 17 rfl) rfl rfl (by decide) rfl inX2 (by decide) rfl wF_X2_22 e1 ?_
      refine T.aload_n (pc' := 35) (q_d dX2_hasGoodPlaces_0 18 rfl) rfl rfl rfl ?_
      refine T.getI (pc' := 38) (ci := 2) (k0 := 8) (q_d dX2_hasGoodPlaces_0 19 rfl) rfl rfl (by decide) rfl inX2 (by decide) rfl wF_X2_25 e2 ?_
      refine T.icmp_neN (tgt := 45) (pc' := 41) (q_d dX2_hasGoodPlaces_0 20 rfl) rfl (by decide) (by omega) (by omega) (fun h38 => ?_) (fun h38 => ?_)
      · refine T.iconst (pc' := 46) (v := nI 0) (q_d dX2_hasGoodPlaces_0 23 rfl) rfl (by decide) ?_
        refine T.istore (pc' := 48) (q_d dX2_hasGoodPlaces_0 24 rfl) rfl (by decide) rfl rfl ?_
        refine T.iload_n (pc' := 49) (q_d dX2_hasGoodPlaces_0 25 rfl) rfl rfl rfl ?_
        refine T.if_eqN (tgt := 69) (pc' := 52) (q_d dX2_hasGoodPlaces_0 26 rfl) rfl (by decide) (by omega) (fun h49 => ?_) (fun h49 => ?_)
        · refine T.iconst (pc' := 70) (v := nI 0) (q_d dX2_hasGoodPlaces_0 35 rfl) rfl (by decide) ?_
          refine T.zret (q_d dX2_hasGoodPlaces_0 36 rfl) rfl (by decide) rfl rfl ?_
          first
            | exact absurd h49 (by decide)
            | exact absurd rfl h49
            | exact absurd h54 (by decide)
            | exact absurd rfl h54
            | exact ⟨rfl, Or.inl ⟨rfl, by simp only [k1, k2] at *; unfold goodP; omega⟩⟩
            | exact ⟨rfl, Or.inr ⟨rfl, by simp only [k1, k2] at *; unfold goodP; omega⟩⟩
        · refine T.iload (pc' := 54) (q_d dX2_hasGoodPlaces_0 27 rfl) rfl rfl ?_
          refine T.if_neN (tgt := 69) (pc' := 57) (q_d dX2_hasGoodPlaces_0 28 rfl) rfl (by decide) (by omega) (fun h54 => ?_) (fun h54 => ?_)
          · refine T.iconst (pc' := 70) (v := nI 0) (q_d dX2_hasGoodPlaces_0 35 rfl) rfl (by decide) ?_
            refine T.zret (q_d dX2_hasGoodPlaces_0 36 rfl) rfl (by decide) rfl rfl ?_
            first
              | exact absurd h49 (by decide)
              | exact absurd rfl h49
              | exact absurd h54 (by decide)
              | exact absurd rfl h54
              | exact ⟨rfl, Or.inl ⟨rfl, by simp only [k1, k2] at *; unfold goodP; omega⟩⟩
              | exact ⟨rfl, Or.inr ⟨rfl, by simp only [k1, k2] at *; unfold goodP; omega⟩⟩
          · refine T.aload_n (pc' := 58) (q_d dX2_hasGoodPlaces_0 29 rfl) rfl rfl rfl ?_
            refine T.getI (pc' := 61) (ci := 2) (k0 := 6) (q_d dX2_hasGoodPlaces_0 30 rfl) rfl rfl (by decide) rfl inX2 (by decide) rfl wF_X2_19 e6 ?_
            refine T.iload_n (pc' := 62) (q_d dX2_hasGoodPlaces_0 31 rfl) rfl rfl rfl ?_
            refine T.icmp_gtN (tgt := 69) (pc' := 65) (q_d dX2_hasGoodPlaces_0 32 rfl) rfl (by decide) (by omega) (by omega) (fun h62 => ?_) (fun h62 => ?_)
            · refine T.iconst (pc' := 70) (v := nI 0) (q_d dX2_hasGoodPlaces_0 35 rfl) rfl (by decide) ?_
              refine T.zret (q_d dX2_hasGoodPlaces_0 36 rfl) rfl (by decide) rfl rfl ?_
              first
                | exact absurd h49 (by decide)
                | exact absurd rfl h49
                | exact absurd h54 (by decide)
                | exact absurd rfl h54
                | exact ⟨rfl, Or.inl ⟨rfl, by simp only [k1, k2] at *; unfold goodP; omega⟩⟩
                | exact ⟨rfl, Or.inr ⟨rfl, by simp only [k1, k2] at *; unfold goodP; omega⟩⟩
            · refine T.iconst (pc' := 66) (v := nI 1) (q_d dX2_hasGoodPlaces_0 33 rfl) rfl (by decide) ?_
              refine T.goto (tgt := 70) (q_d dX2_hasGoodPlaces_0 34 rfl) (by decide) ?_
              refine T.zret (q_d dX2_hasGoodPlaces_0 36 rfl) rfl (by decide) rfl rfl ?_
              first
                | exact absurd h49 (by decide)
                | exact absurd rfl h49
                | exact absurd h54 (by decide)
                | exact absurd rfl h54
                | exact ⟨rfl, Or.inl ⟨rfl, by simp only [k1, k2] at *; unfold goodP; omega⟩⟩
                | exact ⟨rfl, Or.inr ⟨rfl, by simp only [k1, k2] at *; unfold goodP; omega⟩⟩
      · refine T.iconst (pc' := 42) (v := nI 1) (q_d dX2_hasGoodPlaces_0 21 rfl) rfl (by decide) ?_
        refine T.goto (tgt := 46) (q_d dX2_hasGoodPlaces_0 22 rfl) (by decide) ?_
        refine T.istore (pc' := 48) (q_d dX2_hasGoodPlaces_0 24 rfl) rfl (by decide) rfl rfl ?_
        refine T.iload_n (pc' := 49) (q_d dX2_hasGoodPlaces_0 25 rfl) rfl rfl rfl ?_
        refine T.if_eqN (tgt := 69) (pc' := 52) (q_d dX2_hasGoodPlaces_0 26 rfl) rfl (by decide) (by omega) (fun h49 => ?_) (fun h49 => ?_)
        · refine T.iconst (pc' := 70) (v := nI 0) (q_d dX2_hasGoodPlaces_0 35 rfl) rfl (by decide) ?_
          refine T.zret (q_d dX2_hasGoodPlaces_0 36 rfl) rfl (by decide) rfl rfl ?_
          first
            | exact absurd h49 (by decide)
            | exact absurd rfl h49
            | exact absurd h54 (by decide)
            | exact absurd rfl h54
            | exact ⟨rfl, Or.inl ⟨rfl, by simp only [k1, k2] at *; unfold goodP; omega⟩⟩
            | exact ⟨rfl, Or.inr ⟨rfl, by simp only [k1, k2] at *; unfold goodP; omega⟩⟩
        · refine T.iload (pc' := 54) (q_d dX2_hasGoodPlaces_0 27 rfl) rfl rfl ?_
          refine T.if_neN (tgt := 69) (pc' := 57) (q_d dX2_hasGoodPlaces_0 28 rfl) rfl (by decide) (by omega) (fun h54 => ?_) (fun h54 => ?_)
          · refine T.iconst (pc' := 70) (v := nI 0) (q_d dX2_hasGoodPlaces_0 35 rfl) rfl (by decide) ?_
            refine T.zret (q_d dX2_hasGoodPlaces_0 36 rfl) rfl (by decide) rfl rfl ?_
            first
              | exact absurd h49 (by decide)
              | exact absurd rfl h49
              | exact absurd h54 (by decide)
              | exact absurd rfl h54
              | exact ⟨rfl, Or.inl ⟨rfl, by simp only [k1, k2] at *; unfold goodP; omega⟩⟩
              | exact ⟨rfl, Or.inr ⟨rfl, by simp only [k1, k2] at *; unfold goodP; omega⟩⟩
          · refine T.aload_n (pc' := 58) (q_d dX2_hasGoodPlaces_0 29 rfl) rfl rfl rfl ?_
            refine T.getI (pc' := 61) (ci := 2) (k0 := 6) (q_d dX2_hasGoodPlaces_0 30 rfl) rfl rfl (by decide) rfl inX2 (by decide) rfl wF_X2_19 e6 ?_
            refine T.iload_n (pc' := 62) (q_d dX2_hasGoodPlaces_0 31 rfl) rfl rfl rfl ?_
            refine T.icmp_gtN (tgt := 69) (pc' := 65) (q_d dX2_hasGoodPlaces_0 32 rfl) rfl (by decide) (by omega) (by omega) (fun h62 => ?_) (fun h62 => ?_)
            · refine T.iconst (pc' := 70) (v := nI 0) (q_d dX2_hasGoodPlaces_0 35 rfl) rfl (by decide) ?_
              refine T.zret (q_d dX2_hasGoodPlaces_0 36 rfl) rfl (by decide) rfl rfl ?_
              first
                | exact absurd h49 (by decide)
                | exact absurd rfl h49
                | exact absurd h54 (by decide)
                | exact absurd rfl h54
                | exact ⟨rfl, Or.inl ⟨rfl, by simp only [k1, k2] at *; unfold goodP; omega⟩⟩
                | exact ⟨rfl, Or.inr ⟨rfl, by simp only [k1, k2] at *; unfold goodP; omega⟩⟩
            · refine T.iconst (pc' := 66) (v := nI 1) (q_d dX2_hasGoodPlaces_0 33 rfl) rfl (by decide) ?_
              refine T.goto (tgt := 70) (q_d dX2_hasGoodPlaces_0 34 rfl) (by decide) ?_
              refine T.zret (q_d dX2_hasGoodPlaces_0 36 rfl) rfl (by decide) rfl rfl ?_
              first
                | exact absurd h49 (by decide)
                | exact absurd rfl h49
                | exact absurd h54 (by decide)
                | exact absurd rfl h54
                | exact ⟨rfl, Or.inl ⟨rfl, by simp only [k1, k2] at *; unfold goodP; omega⟩⟩
                | exact ⟨rfl, Or.inr ⟨rfl, by simp only [k1, k2] at *; unfold goodP; omega⟩⟩
  · refine T.aload_n (pc' := 9) (q_d dX2_hasGoodPlaces_0 4 rfl) rfl rfl rfl ?_
    refine T.getI (pc' := 12) (ci := 2) (k0 := 8) (q_d dX2_hasGoodPlaces_0 5 rfl) rfl rfl (by decide) rfl inX2 (by decide) rfl wF_X2_25 e2 ?_
    refine T.iload_n (pc' := 13) (q_d dX2_hasGoodPlaces_0 6 rfl) rfl rfl rfl ?_
    refine T.icmp_ge (tgt := 20) (pc' := 16) (q_d dX2_hasGoodPlaces_0 7 rfl) rfl (by decide)  (fun h13 => ?_) (fun h13 => ?_)
    · refine T.iconst (pc' := 21) (v := nI 0) (q_d dX2_hasGoodPlaces_0 10 rfl) rfl (by decide) ?_
      refine T.istore_n (pc' := 22) (q_d dX2_hasGoodPlaces_0 11 rfl) rfl rfl (by decide) rfl rfl ?_
      refine T.aload_n (pc' := 23) (q_d dX2_hasGoodPlaces_0 12 rfl) rfl rfl rfl ?_
      refine T.getI (pc' := 26) (ci := 2) (k0 := 6) (q_d dX2_hasGoodPlaces_0 13 rfl) rfl rfl (by decide) rfl inX2 (by decide) rfl wF_X2_19 e6 ?_
      refine T.iconst (pc' := 27) (v := nI 2) (q_d dX2_hasGoodPlaces_0 14 rfl) rfl (by decide) ?_
      refine T.icmp_neN (tgt := 45) (pc' := 30) (q_d dX2_hasGoodPlaces_0 15 rfl) rfl (by decide) (by omega) (by omega) (fun h27 => ?_) (fun h27 => ?_)
      · refine T.iconst (pc' := 46) (v := nI 0) (q_d dX2_hasGoodPlaces_0 23 rfl) rfl (by decide) ?_
        refine T.istore (pc' := 48) (q_d dX2_hasGoodPlaces_0 24 rfl) rfl (by decide) rfl rfl ?_
        refine T.iload_n (pc' := 49) (q_d dX2_hasGoodPlaces_0 25 rfl) rfl rfl rfl ?_
        refine T.if_eqN (tgt := 69) (pc' := 52) (q_d dX2_hasGoodPlaces_0 26 rfl) rfl (by decide) (by omega) (fun h49 => ?_) (fun h49 => ?_)
        · refine T.iconst (pc' := 70) (v := nI 0) (q_d dX2_hasGoodPlaces_0 35 rfl) rfl (by decide) ?_
          refine T.zret (q_d dX2_hasGoodPlaces_0 36 rfl) rfl (by decide) rfl rfl ?_
          first
            | exact absurd h49 (by decide)
            | exact absurd rfl h49
            | exact absurd h54 (by decide)
            | exact absurd rfl h54
            | exact ⟨rfl, Or.inl ⟨rfl, by simp only [k1, k2] at *; unfold goodP; omega⟩⟩
            | exact ⟨rfl, Or.inr ⟨rfl, by simp only [k1, k2] at *; unfold goodP; omega⟩⟩
        · refine T.iload (pc' := 54) (q_d dX2_hasGoodPlaces_0 27 rfl) rfl rfl ?_
          refine T.if_neN (tgt := 69) (pc' := 57) (q_d dX2_hasGoodPlaces_0 28 rfl) rfl (by decide) (by omega) (fun h54 => ?_) (fun h54 => ?_)
          · refine T.iconst (pc' := 70) (v := nI 0) (q_d dX2_hasGoodPlaces_0 35 rfl) rfl (by decide) ?_
            refine T.zret (q_d dX2_hasGoodPlaces_0 36 rfl) rfl (by decide) rfl rfl ?_
            first
              | exact absurd h49 (by decide)
              | exact absurd rfl h49
              | exact absurd h54 (by decide)
              | exact absurd rfl h54
              | exact ⟨rfl, Or.inl ⟨rfl, by simp only [k1, k2] at *; unfold goodP; omega⟩⟩
              | exact ⟨rfl, Or.inr ⟨rfl, by simp only [k1, k2] at *; unfold goodP; omega⟩⟩
          · refine T.aload_n (pc' := 58) (q_d dX2_hasGoodPlaces_0 29 rfl) rfl rfl rfl ?_
            refine T.getI (pc' := 61) (ci := 2) (k0 := 6) (q_d dX2_hasGoodPlaces_0 30 rfl) rfl rfl (by decide) rfl inX2 (by decide) rfl wF_X2_19 e6 ?_
            refine T.iload_n (pc' := 62) (q_d dX2_hasGoodPlaces_0 31 rfl) rfl rfl rfl ?_
            refine T.icmp_gtN (tgt := 69) (pc' := 65) (q_d dX2_hasGoodPlaces_0 32 rfl) rfl (by decide) (by omega) (by omega) (fun h62 => ?_) (fun h62 => ?_)
            · refine T.iconst (pc' := 70) (v := nI 0) (q_d dX2_hasGoodPlaces_0 35 rfl) rfl (by decide) ?_
              refine T.zret (q_d dX2_hasGoodPlaces_0 36 rfl) rfl (by decide) rfl rfl ?_
              first
                | exact absurd h49 (by decide)
                | exact absurd rfl h49
                | exact absurd h54 (by decide)
                | exact absurd rfl h54
                | exact ⟨rfl, Or.inl ⟨rfl, by simp only [k1, k2] at *; unfold goodP; omega⟩⟩
                | exact ⟨rfl, Or.inr ⟨rfl, by simp only [k1, k2] at *; unfold goodP; omega⟩⟩
            · refine T.iconst (pc' := 66) (v := nI 1) (q_d dX2_hasGoodPlaces_0 33 rfl) rfl (by decide) ?_
              refine T.goto (tgt := 70) (q_d dX2_hasGoodPlaces_0 34 rfl) (by decide) ?_
              refine T.zret (q_d dX2_hasGoodPlaces_0 36 rfl) rfl (by decide) rfl rfl ?_
              first
                | exact absurd h49 (by decide)
                | exact absurd rfl h49
                | exact absurd h54 (by decide)
                | exact absurd rfl h54
                | exact ⟨rfl, Or.inl ⟨rfl, by simp only [k1, k2] at *; unfold goodP; omega⟩⟩
                | exact ⟨rfl, Or.inr ⟨rfl, by simp only [k1, k2] at *; unfold goodP; omega⟩⟩
      · refine T.aload_n (pc' := 31) (q_d dX2_hasGoodPlaces_0 16 rfl) rfl rfl rfl ?_
        refine T.getI (pc' := 34) (ci := 2) (k0 := 7) (q_d dX2_hasGoodPlaces_0 17 rfl) rfl rfl (by decide) rfl inX2 (by decide) rfl wF_X2_22 e1 ?_
        refine T.aload_n (pc' := 35) (q_d dX2_hasGoodPlaces_0 18 rfl) rfl rfl rfl ?_
        refine T.getI (pc' := 38) (ci := 2) (k0 := 8) (q_d dX2_hasGoodPlaces_0 19 rfl) rfl rfl (by decide) rfl inX2 (by decide) rfl wF_X2_25 e2 ?_
        refine T.icmp_neN (tgt := 45) (pc' := 41) (q_d dX2_hasGoodPlaces_0 20 rfl) rfl (by decide) (by omega) (by omega) (fun h38 => ?_) (fun h38 => ?_)
        · refine T.iconst (pc' := 46) (v := nI 0) (q_d dX2_hasGoodPlaces_0 23 rfl) rfl (by decide) ?_
          refine T.istore (pc' := 48) (q_d dX2_hasGoodPlaces_0 24 rfl) rfl (by decide) rfl rfl ?_
          refine T.iload_n (pc' := 49) (q_d dX2_hasGoodPlaces_0 25 rfl) rfl rfl rfl ?_
          refine T.if_eqN (tgt := 69) (pc' := 52) (q_d dX2_hasGoodPlaces_0 26 rfl) rfl (by decide) (by omega) (fun h49 => ?_) (fun h49 => ?_)
          · refine T.iconst (pc' := 70) (v := nI 0) (q_d dX2_hasGoodPlaces_0 35 rfl) rfl (by decide) ?_
            refine T.zret (q_d dX2_hasGoodPlaces_0 36 rfl) rfl (by decide) rfl rfl ?_
            first
              | exact absurd h49 (by decide)
              | exact absurd rfl h49
              | exact absurd h54 (by decide)
              | exact absurd rfl h54
              | exact ⟨rfl, Or.inl ⟨rfl, by simp only [k1, k2] at *; unfold goodP; omega⟩⟩
              | exact ⟨rfl, Or.inr ⟨rfl, by simp only [k1, k2] at *; unfold goodP; omega⟩⟩
          · refine T.iload (pc' := 54) (q_d dX2_hasGoodPlaces_0 27 rfl) rfl rfl ?_
            refine T.if_neN (tgt := 69) (pc' := 57) (q_d dX2_hasGoodPlaces_0 28 rfl) rfl (by decide) (by omega) (fun h54 => ?_) (fun h54 => ?_)
            · refine T.iconst (pc' := 70) (v := nI 0) (q_d dX2_hasGoodPlaces_0 35 rfl) rfl (by decide) ?_
              refine T.zret (q_d dX2_hasGoodPlaces_0 36 rfl) rfl (by decide) rfl rfl ?_
              first
                | exact absurd h49 (by decide)
                | exact absurd rfl h49
                | exact absurd h54 (by decide)
                | exact absurd rfl h54
                | exact ⟨rfl, Or.inl ⟨rfl, by simp only [k1, k2] at *; unfold goodP; omega⟩⟩
                | exact ⟨rfl, Or.inr ⟨rfl, by simp only [k1, k2] at *; unfold goodP; omega⟩⟩
            · refine T.aload_n (pc' := 58) (q_d dX2_hasGoodPlaces_0 29 rfl) rfl rfl rfl ?_
              refine T.getI (pc' := 61) (ci := 2) (k0 := 6) (q_d dX2_hasGoodPlaces_0 30 rfl) rfl rfl (by decide) rfl inX2 (by decide) rfl wF_X2_19 e6 ?_
              refine T.iload_n (pc' := 62) (q_d dX2_hasGoodPlaces_0 31 rfl) rfl rfl rfl ?_
              refine T.icmp_gtN (tgt := 69) (pc' := 65) (q_d dX2_hasGoodPlaces_0 32 rfl) rfl (by decide) (by omega) (by omega) (fun h62 => ?_) (fun h62 => ?_)
              · refine T.iconst (pc' := 70) (v := nI 0) (q_d dX2_hasGoodPlaces_0 35 rfl) rfl (by decide) ?_
                refine T.zret (q_d dX2_hasGoodPlaces_0 36 rfl) rfl (by decide) rfl rfl ?_
                first
                  | exact absurd h49 (by decide)
                  | exact absurd rfl h49
                  | exact absurd h54 (by decide)
                  | exact absurd rfl h54
                  | exact ⟨rfl, Or.inl ⟨rfl, by simp only [k1, k2] at *; unfold goodP; omega⟩⟩
                  | exact ⟨rfl, Or.inr ⟨rfl, by simp only [k1, k2] at *; unfold goodP; omega⟩⟩
              · refine T.iconst (pc' := 66) (v := nI 1) (q_d dX2_hasGoodPlaces_0 33 rfl) rfl (by decide) ?_
                refine T.goto (tgt := 70) (q_d dX2_hasGoodPlaces_0 34 rfl) (by decide) ?_
                refine T.zret (q_d dX2_hasGoodPlaces_0 36 rfl) rfl (by decide) rfl rfl ?_
                first
                  | exact absurd h49 (by decide)
                  | exact absurd rfl h49
                  | exact absurd h54 (by decide)
                  | exact absurd rfl h54
                  | exact ⟨rfl, Or.inl ⟨rfl, by simp only [k1, k2] at *; unfold goodP; omega⟩⟩
                  | exact ⟨rfl, Or.inr ⟨rfl, by simp only [k1, k2] at *; unfold goodP; omega⟩⟩
        · refine T.iconst (pc' := 42) (v := nI 1) (q_d dX2_hasGoodPlaces_0 21 rfl) rfl (by decide) ?_
          refine T.goto (tgt := 46) (q_d dX2_hasGoodPlaces_0 22 rfl) (by decide) ?_
          refine T.istore (pc' := 48) (q_d dX2_hasGoodPlaces_0 24 rfl) rfl (by decide) rfl rfl ?_
          refine T.iload_n (pc' := 49) (q_d dX2_hasGoodPlaces_0 25 rfl) rfl rfl rfl ?_
          refine T.if_eqN (tgt := 69) (pc' := 52) (q_d dX2_hasGoodPlaces_0 26 rfl) rfl (by decide) (by omega) (fun h49 => ?_) (fun h49 => ?_)
          · refine T.iconst (pc' := 70) (v := nI 0) (q_d dX2_hasGoodPlaces_0 35 rfl) rfl (by decide) ?_
            refine T.zret (q_d dX2_hasGoodPlaces_0 36 rfl) rfl (by decide) rfl rfl ?_
            first
              | exact absurd h49 (by decide)
              | exact absurd rfl h49
              | exact absurd h54 (by decide)
              | exact absurd rfl h54
              | exact ⟨rfl, Or.inl ⟨rfl, by simp only [k1, k2] at *; unfold goodP; omega⟩⟩
              | exact ⟨rfl, Or.inr ⟨rfl, by simp only [k1, k2] at *; unfold goodP; omega⟩⟩
          · refine T.iload (pc' := 54) (q_d dX2_hasGoodPlaces_0 27 rfl) rfl rfl ?_
            refine T.if_neN (tgt := 69) (pc' := 57) (q_d dX2_hasGoodPlaces_0 28 rfl) rfl (by decide) (by omega) (fun h54 => ?_) (fun h54 => ?_)
            · refine T.iconst (pc' := 70) (v := nI 0) (q_d dX2_hasGoodPlaces_0 35 rfl) rfl (by decide) ?_
              refine T.zret (q_d dX2_hasGoodPlaces_0 36 rfl) rfl (by decide) rfl rfl ?_
              first
                | exact absurd h49 (by decide)
                | exact absurd rfl h49
                | exact absurd h54 (by decide)
                | exact absurd rfl h54
                | exact ⟨rfl, Or.inl ⟨rfl, by simp only [k1, k2] at *; unfold goodP; omega⟩⟩
                | exact ⟨rfl, Or.inr ⟨rfl, by simp only [k1, k2] at *; unfold goodP; omega⟩⟩
            · refine T.aload_n (pc' := 58) (q_d dX2_hasGoodPlaces_0 29 rfl) rfl rfl rfl ?_
              refine T.getI (pc' := 61) (ci := 2) (k0 := 6) (q_d dX2_hasGoodPlaces_0 30 rfl) rfl rfl (by decide) rfl inX2 (by decide) rfl wF_X2_19 e6 ?_
              refine T.iload_n (pc' := 62) (q_d dX2_hasGoodPlaces_0 31 rfl) rfl rfl rfl ?_
              refine T.icmp_gtN (tgt := 69) (pc' := 65) (q_d dX2_hasGoodPlaces_0 32 rfl) rfl (by decide) (by omega) (by omega) (fun h62 => ?_) (fun h62 => ?_)
              · refine T.iconst (pc' := 70) (v := nI 0) (q_d dX2_hasGoodPlaces_0 35 rfl) rfl (by decide) ?_
                refine T.zret (q_d dX2_hasGoodPlaces_0 36 rfl) rfl (by decide) rfl rfl ?_
                first
                  | exact absurd h49 (by decide)
                  | exact absurd rfl h49
                  | exact absurd h54 (by decide)
                  | exact absurd rfl h54
                  | exact ⟨rfl, Or.inl ⟨rfl, by simp only [k1, k2] at *; unfold goodP; omega⟩⟩
                  | exact ⟨rfl, Or.inr ⟨rfl, by simp only [k1, k2] at *; unfold goodP; omega⟩⟩
              · refine T.iconst (pc' := 66) (v := nI 1) (q_d dX2_hasGoodPlaces_0 33 rfl) rfl (by decide) ?_
                refine T.goto (tgt := 70) (q_d dX2_hasGoodPlaces_0 34 rfl) (by decide) ?_
                refine T.zret (q_d dX2_hasGoodPlaces_0 36 rfl) rfl (by decide) rfl rfl ?_
                first
                  | exact absurd h49 (by decide)
                  | exact absurd rfl h49
                  | exact absurd h54 (by decide)
                  | exact absurd rfl h54
                  | exact ⟨rfl, Or.inl ⟨rfl, by simp only [k1, k2] at *; unfold goodP; omega⟩⟩
                  | exact ⟨rfl, Or.inr ⟨rfl, by simp only [k1, k2] at *; unfold goodP; omega⟩⟩
    · refine T.iconst (pc' := 17) (v := nI 1) (q_d dX2_hasGoodPlaces_0 8 rfl) rfl (by decide) ?_
      refine T.goto (tgt := 21) (q_d dX2_hasGoodPlaces_0 9 rfl) (by decide) ?_
      refine T.istore_n (pc' := 22) (q_d dX2_hasGoodPlaces_0 11 rfl) rfl rfl (by decide) rfl rfl ?_
      refine T.aload_n (pc' := 23) (q_d dX2_hasGoodPlaces_0 12 rfl) rfl rfl rfl ?_
      refine T.getI (pc' := 26) (ci := 2) (k0 := 6) (q_d dX2_hasGoodPlaces_0 13 rfl) rfl rfl (by decide) rfl inX2 (by decide) rfl wF_X2_19 e6 ?_
      refine T.iconst (pc' := 27) (v := nI 2) (q_d dX2_hasGoodPlaces_0 14 rfl) rfl (by decide) ?_
      refine T.icmp_neN (tgt := 45) (pc' := 30) (q_d dX2_hasGoodPlaces_0 15 rfl) rfl (by decide) (by omega) (by omega) (fun h27 => ?_) (fun h27 => ?_)
      · refine T.iconst (pc' := 46) (v := nI 0) (q_d dX2_hasGoodPlaces_0 23 rfl) rfl (by decide) ?_
        refine T.istore (pc' := 48) (q_d dX2_hasGoodPlaces_0 24 rfl) rfl (by decide) rfl rfl ?_
        refine T.iload_n (pc' := 49) (q_d dX2_hasGoodPlaces_0 25 rfl) rfl rfl rfl ?_
        refine T.if_eqN (tgt := 69) (pc' := 52) (q_d dX2_hasGoodPlaces_0 26 rfl) rfl (by decide) (by omega) (fun h49 => ?_) (fun h49 => ?_)
        · refine T.iconst (pc' := 70) (v := nI 0) (q_d dX2_hasGoodPlaces_0 35 rfl) rfl (by decide) ?_
          refine T.zret (q_d dX2_hasGoodPlaces_0 36 rfl) rfl (by decide) rfl rfl ?_
          first
            | exact absurd h49 (by decide)
            | exact absurd rfl h49
            | exact absurd h54 (by decide)
            | exact absurd rfl h54
            | exact ⟨rfl, Or.inl ⟨rfl, by simp only [k1, k2] at *; unfold goodP; omega⟩⟩
            | exact ⟨rfl, Or.inr ⟨rfl, by simp only [k1, k2] at *; unfold goodP; omega⟩⟩
        · refine T.iload (pc' := 54) (q_d dX2_hasGoodPlaces_0 27 rfl) rfl rfl ?_
          refine T.if_neN (tgt := 69) (pc' := 57) (q_d dX2_hasGoodPlaces_0 28 rfl) rfl (by decide) (by omega) (fun h54 => ?_) (fun h54 => ?_)
          · refine T.iconst (pc' := 70) (v := nI 0) (q_d dX2_hasGoodPlaces_0 35 rfl) rfl (by decide) ?_
            refine T.zret (q_d dX2_hasGoodPlaces_0 36 rfl) rfl (by decide) rfl rfl ?_
            first
              | exact absurd h49 (by decide)
              | exact absurd rfl h49
              | exact absurd h54 (by decide)
              | exact absurd rfl h54
              | exact ⟨rfl, Or.inl ⟨rfl, by simp only [k1, k2] at *; unfold goodP; omega⟩⟩
              | exact ⟨rfl, Or.inr ⟨rfl, by simp only [k1, k2] at *; unfold goodP; omega⟩⟩
          · refine T.aload_n (pc' := 58) (q_d dX2_hasGoodPlaces_0 29 rfl) rfl rfl rfl ?_
            refine T.getI (pc' := 61) (ci := 2) (k0 := 6) (q_d dX2_hasGoodPlaces_0 30 rfl) rfl rfl (by decide) rfl inX2 (by decide) rfl wF_X2_19 e6 ?_
            refine T.iload_n (pc' := 62) (q_d dX2_hasGoodPlaces_0 31 rfl) rfl rfl rfl ?_
            refine T.icmp_gtN (tgt := 69) (pc' := 65) (q_d dX2_hasGoodPlaces_0 32 rfl) rfl (by decide) (by omega) (by omega) (fun h62 => ?_) (fun h62 => ?_)
            · refine T.iconst (pc' := 70) (v := nI 0) (q_d dX2_hasGoodPlaces_0 35 rfl) rfl (by decide) ?_
              refine T.zret (q_d dX2_hasGoodPlaces_0 36 rfl) rfl (by decide) rfl rfl ?_
              first
                | exact absurd h49 (by decide)
                | exact absurd rfl h49
                | exact absurd h54 (by decide)
                | exact absurd rfl h54
                | exact ⟨rfl, Or.inl ⟨rfl, by simp only [k1, k2] at *; unfold goodP; omega⟩⟩
                | exact ⟨rfl, Or.inr ⟨rfl, by simp only [k1, k2] at *; unfold goodP; omega⟩⟩
            · refine T.iconst (pc' := 66) (v := nI 1) (q_d dX2_hasGoodPlaces_0 33 rfl) rfl (by decide) ?_
              refine T.goto (tgt := 70) (q_d dX2_hasGoodPlaces_0 34 rfl) (by decide) ?_
              refine T.zret (q_d dX2_hasGoodPlaces_0 36 rfl) rfl (by decide) rfl rfl ?_
              first
                | exact absurd h49 (by decide)
                | exact absurd rfl h49
                | exact absurd h54 (by decide)
                | exact absurd rfl h54
                | exact ⟨rfl, Or.inl ⟨rfl, by simp only [k1, k2] at *; unfold goodP; omega⟩⟩
                | exact ⟨rfl, Or.inr ⟨rfl, by simp only [k1, k2] at *; unfold goodP; omega⟩⟩
      · refine T.aload_n (pc' := 31) (q_d dX2_hasGoodPlaces_0 16 rfl) rfl rfl rfl ?_
        refine T.getI (pc' := 34) (ci := 2) (k0 := 7) (q_d dX2_hasGoodPlaces_0 17 rfl) rfl rfl (by decide) rfl inX2 (by decide) rfl wF_X2_22 e1 ?_
        refine T.aload_n (pc' := 35) (q_d dX2_hasGoodPlaces_0 18 rfl) rfl rfl rfl ?_
        refine T.getI (pc' := 38) (ci := 2) (k0 := 8) (q_d dX2_hasGoodPlaces_0 19 rfl) rfl rfl (by decide) rfl inX2 (by decide) rfl wF_X2_25 e2 ?_
        refine T.icmp_neN (tgt := 45) (pc' := 41) (q_d dX2_hasGoodPlaces_0 20 rfl) rfl (by decide) (by omega) (by omega) (fun h38 => ?_) (fun h38 => ?_)
        · refine T.iconst (pc' := 46) (v := nI 0) (q_d dX2_hasGoodPlaces_0 23 rfl) rfl (by decide) ?_
          refine T.istore (pc' := 48) (q_d dX2_hasGoodPlaces_0 24 rfl) rfl (by decide) rfl rfl ?_
          refine T.iload_n (pc' := 49) (q_d dX2_hasGoodPlaces_0 25 rfl) rfl rfl rfl ?_
          refine T.if_eqN (tgt := 69) (pc' := 52) (q_d dX2_hasGoodPlaces_0 26 rfl) rfl (by decide) (by omega) (fun h49 => ?_) (fun h49 => ?_)
          · refine T.iconst (pc' := 70) (v := nI 0) (q_d dX2_hasGoodPlaces_0 35 rfl) rfl (by decide) ?_
            refine T.zret (q_d dX2_hasGoodPlaces_0 36 rfl) rfl (by decide) rfl rfl ?_
            first
              | exact absurd h49 (by decide)
              | exact absurd rfl h49
              | exact absurd h54 (by decide)
              | exact absurd rfl h54
              | exact ⟨rfl, Or.inl ⟨rfl, by simp only [k1, k2] at *; unfold goodP; omega⟩⟩
              | exact ⟨rfl, Or.inr ⟨rfl, by simp only [k1, k2] at *; unfold goodP; omega⟩⟩
          · refine T.iload (pc' := 54) (q_d dX2_hasGoodPlaces_0 27 rfl) rfl rfl ?_
            refine T.if_neN (tgt := 69) (pc' := 57) (q_d dX2_hasGoodPlaces_0 28 rfl) rfl (by decide) (by omega) (fun h54 => ?_) (fun h54 => ?_)
            · refine T.iconst (pc' := 70) (v := nI 0) (q_d dX2_hasGoodPlaces_0 35 rfl) rfl (by decide) ?_
              refine T.zret (q_d dX2_hasGoodPlaces_0 36 rfl) rfl (by decide) rfl rfl ?_
              first
                | exact absurd h49 (by decide)
                | exact absurd rfl h49
                | exact absurd h54 (by decide)
                | exact absurd rfl h54
                | exact ⟨rfl, Or.inl ⟨rfl, by simp only [k1, k2] at *; unfold goodP; omega⟩⟩
                | exact ⟨rfl, Or.inr ⟨rfl, by simp only [k1, k2] at *; unfold goodP; omega⟩⟩
            · refine T.aload_n (pc' := 58) (q_d dX2_hasGoodPlaces_0 29 rfl) rfl rfl rfl ?_
              refine T.getI (pc' := 61) (ci := 2) (k0 := 6) (q_d dX2_hasGoodPlaces_0 30 rfl) rfl rfl (by decide) rfl inX2 (by decide) rfl wF_X2_19 e6 ?_
              refine T.iload_n (pc' := 62) (q_d dX2_hasGoodPlaces_0 31 rfl) rfl rfl rfl ?_
              refine T.icmp_gtN (tgt := 69) (pc' := 65) (q_d dX2_hasGoodPlaces_0 32 rfl) rfl (by decide) (by omega) (by omega) (fun h62 => ?_) (fun h62 => ?_)
              · refine T.iconst (pc' := 70) (v := nI 0) (q_d dX2_hasGoodPlaces_0 35 rfl) rfl (by decide) ?_
                refine T.zret (q_d dX2_hasGoodPlaces_0 36 rfl) rfl (by decide) rfl rfl ?_
                first
                  | exact absurd h49 (by decide)
                  | exact absurd rfl h49
                  | exact absurd h54 (by decide)
                  | exact absurd rfl h54
                  | exact ⟨rfl, Or.inl ⟨rfl, by simp only [k1, k2] at *; unfold goodP; omega⟩⟩
                  | exact ⟨rfl, Or.inr ⟨rfl, by simp only [k1, k2] at *; unfold goodP; omega⟩⟩
              · refine T.iconst (pc' := 66) (v := nI 1) (q_d dX2_hasGoodPlaces_0 33 rfl) rfl (by decide) ?_
                refine T.goto (tgt := 70) (q_d dX2_hasGoodPlaces_0 34 rfl) (by decide) ?_
                refine T.zret (q_d dX2_hasGoodPlaces_0 36 rfl) rfl (by decide) rfl rfl ?_
                first
                  | exact absurd h49 (by decide)
                  | exact absurd rfl h49
                  | exact absurd h54 (by decide)
                  | exact absurd rfl h54
                  | exact ⟨rfl, Or.inl ⟨rfl, by simp only [k1, k2] at *; unfold goodP; omega⟩⟩
                  | exact ⟨rfl, Or.inr ⟨rfl, by simp only [k1, k2] at *; unfold goodP; omega⟩⟩
        · refine T.iconst (pc' := 42) (v := nI 1) (q_d dX2_hasGoodPlaces_0 21 rfl) rfl (by decide) ?_
          refine T.goto (tgt := 46) (q_d dX2_hasGoodPlaces_0 22 rfl) (by decide) ?_
          refine T.istore (pc' := 48) (q_d dX2_hasGoodPlaces_0 24 rfl) rfl (by decide) rfl rfl ?_
          refine T.iload_n (pc' := 49) (q_d dX2_hasGoodPlaces_0 25 rfl) rfl rfl rfl ?_
          refine T.if_eqN (tgt := 69) (pc' := 52) (q_d dX2_hasGoodPlaces_0 26 rfl) rfl (by decide) (by omega) (fun h49 => ?_) (fun h49 => ?_)
          · refine T.iconst (pc' := 70) (v := nI 0) (q_d dX2_hasGoodPlaces_0 35 rfl) rfl (by decide) ?_
            refine T.zret (q_d dX2_hasGoodPlaces_0 36 rfl) rfl (by decide) rfl rfl ?_
            first
              | exact absurd h49 (by decide)
              | exact absurd rfl h49
              | exact absurd h54 (by decide)
              | exact absurd rfl h54
              | exact ⟨rfl, Or.inl ⟨rfl, by simp only [k1, k2] at *; unfold goodP; omega⟩⟩
              | exact ⟨rfl, Or.inr ⟨rfl, by simp only [k1, k2] at *; unfold goodP; omega⟩⟩
          · refine T.iload (pc' := 54) (q_d dX2_hasGoodPlaces_0 27 rfl) rfl rfl ?_
            refine T.if_neN (tgt := 69) (pc' := 57) (q_d dX2_hasGoodPlaces_0 28 rfl) rfl (by decide) (by omega) (fun h54 => ?_) (fun h54 => ?_)
            · refine T.iconst (pc' := 70) (v := nI 0) (q_d dX2_hasGoodPlaces_0 35 rfl) rfl (by decide) ?_
              refine T.zret (q_d dX2_hasGoodPlaces_0 36 rfl) rfl (by decide) rfl rfl ?_
              first
                | exact absurd h49 (by decide)
                | exact absurd rfl h49
                | exact absurd h54 (by decide)
                | exact absurd rfl h54
                | exact ⟨rfl, Or.inl ⟨rfl, by simp only [k1, k2] at *; unfold goodP; omega⟩⟩
                | exact ⟨rfl, Or.inr ⟨rfl, by simp only [k1, k2] at *; unfold goodP; omega⟩⟩
            · refine T.aload_n (pc' := 58) (q_d dX2_hasGoodPlaces_0 29 rfl) rfl rfl rfl ?_
              refine T.getI (pc' := 61) (ci := 2) (k0 := 6) (q_d dX2_hasGoodPlaces_0 30 rfl) rfl rfl (by decide) rfl inX2 (by decide) rfl wF_X2_19 e6 ?_
              refine T.iload_n (pc' := 62) (q_d dX2_hasGoodPlaces_0 31 rfl) rfl rfl rfl ?_
              refine T.icmp_gtN (tgt := 69) (pc' := 65) (q_d dX2_hasGoodPlaces_0 32 rfl) rfl (by decide) (by omega) (by omega) (fun h62 => ?_) (fun h62 => ?_)
              · refine T.iconst (pc' := 70) (v := nI 0) (q_d dX2_hasGoodPlaces_0 35 rfl) rfl (by decide) ?_
                refine T.zret (q_d dX2_hasGoodPlaces_0 36 rfl) rfl (by decide) rfl rfl ?_
                first
                  | exact absurd h49 (by decide)
                  | exact absurd rfl h49
                  | exact absurd h54 (by decide)
                  | exact absurd rfl h54
                  | exact ⟨rfl, Or.inl ⟨rfl, by simp only [k1, k2] at *; unfold goodP; omega⟩⟩
                  | exact ⟨rfl, Or.inr ⟨rfl, by simp only [k1, k2] at *; unfold goodP; omega⟩⟩
              · refine T.iconst (pc' := 66) (v := nI 1) (q_d dX2_hasGoodPlaces_0 33 rfl) rfl (by decide) ?_
                refine T.goto (tgt := 70) (q_d dX2_hasGoodPlaces_0 34 rfl) (by decide) ?_
                refine T.zret (q_d dX2_hasGoodPlaces_0 36 rfl) rfl (by decide) rfl rfl ?_
                first
                  | exact absurd h49 (by decide)
                  | exact absurd rfl h49
                  | exact absurd h54 (by decide)
                  | exact absurd rfl h54
                  | exact ⟨rfl, Or.inl ⟨rfl, by simp only [k1, k2] at *; unfold goodP; omega⟩⟩
                  | exact ⟨rfl, Or.inr ⟨rfl, by simp only [k1, k2] at *; unfold goodP; omega⟩⟩
theorem c_placesRead (hP : M.2.2 = pX pa sw) {o1 o2 : Nat} (e1 : M.1 18 7 = o1) (e2 : M.1 18 8 = o2) (q1 : o1 = 4294967295 ∨ o1 ≤ 9) (q2 : o2 = 4294967295 ∨ o2 ≤ 9) :
    Ct l hdX kX mX2_placesRead [.ref 18] M (RI M (setP o1 o2)) := by
  refine Ct.of [some (.ref 18), none] (by decide +kernel) (fun h => absurd h (by decide)) (Nat.le_of_ble_eq_true rfl) rfl ?_
  refine T.aload_n (pc' := 1) (q_d dX2_placesRead_0 0 rfl) rfl rfl rfl ?_
  refine T.getI (pc' := 4) (ci := 2) (k0 := 7) (q_d dX2_placesRead_0 1 rfl) rfl rfl (by decide) rfl inX2 (by decide) rfl wF_X2_22 e1 ?_
  refine T.iconst (pc' := 5) (v := nI 4294967295) (q_d dX2_placesRead_0 2 rfl) rfl (by decide) ?_
  refine T.icmp_neN (tgt := 12) (pc' := 8) (q_d dX2_placesRead_0 3 rfl) rfl (by decide) (by omega) (by omega) (fun h5 => ?_) (fun h5 => ?_)
  · refine T.iconst (pc' := 13) (v := nI 1) (q_d dX2_placesRead_0 6 rfl) rfl (by decide) ?_
    refine T.aload_n (pc' := 14) (q_d dX2_placesRead_0 7 rfl) rfl rfl rfl ?_
    refine T.getI (pc' := 17) (ci := 2) (k0 := 7) (q_d dX2_placesRead_0 8 rfl) rfl rfl (by decide) rfl inX2 (by decide) rfl wF_X2_22 e1 ?_
    refine T.ishl (pc' := 18) (q_d dX2_placesRead_0 9 rfl) rfl (nN_shl _ (by omega)) ?_
    refine T.istore_n (pc' := 19) (q_d dX2_placesRead_0 10 rfl) rfl rfl (by decide) rfl rfl ?_
    refine T.aload_n (pc' := 20) (q_d dX2_placesRead_0 11 rfl) rfl rfl rfl ?_
    refine T.getI (pc' := 23) (ci := 2) (k0 := 8) (q_d dX2_placesRead_0 12 rfl) rfl rfl (by decide) rfl inX2 (by decide) rfl wF_X2_25 e2 ?_
    refine T.iconst (pc' := 24) (v := nI 4294967295) (q_d dX2_placesRead_0 13 rfl) rfl (by decide) ?_
    refine T.icmp_neN (tgt := 31) (pc' := 27) (q_d dX2_placesRead_0 14 rfl) rfl (by decide) (by omega) (by omega) (fun h24 => ?_) (fun h24 => ?_)
    · refine T.iload_n (pc' := 32) (q_d dX2_placesRead_0 17 rfl) rfl rfl rfl ?_
      refine T.iconst (pc' := 33) (v := nI 1) (q_d dX2_placesRead_0 18 rfl) rfl (by decide) ?_
      refine T.aload_n (pc' := 34) (q_d dX2_placesRead_0 19 rfl) rfl rfl rfl ?_
      refine T.getI (pc' := 37) (ci := 2) (k0 := 8) (q_d dX2_placesRead_0 20 rfl) rfl rfl (by decide) rfl inX2 (by decide) rfl wF_X2_25 e2 ?_
      refine T.ishl (pc' := 38) (q_d dX2_placesRead_0 21 rfl) rfl (nN_shl _ (by omega)) ?_
      refine T.ior (pc' := 39) (q_d dX2_placesRead_0 22 rfl) rfl (nN_or _ _) ?_
      refine T.iret (q_d dX2_placesRead_0 23 rfl) rfl rfl rfl ?_
      refine ⟨rfl, ?_⟩
      unfold setP
      first
        | (rw [if_pos h5, if_pos h24]; rfl)
        | rw [if_pos h5, if_neg h24]
        | rw [if_neg h5, if_pos h24, Nat.or_zero]
        | rw [if_neg h5, if_neg h24]
    · refine T.iload_n (pc' := 28) (q_d dX2_placesRead_0 15 rfl) rfl rfl rfl ?_
      refine T.goto (tgt := 39) (q_d dX2_placesRead_0 16 rfl) (by decide) ?_
      refine T.iret (q_d dX2_placesRead_0 23 rfl) rfl rfl rfl ?_
      refine ⟨rfl, ?_⟩
      unfold setP
      first
        | (rw [if_pos h5, if_pos h24]; rfl)
        | rw [if_pos h5, if_neg h24]
        | rw [if_neg h5, if_pos h24, Nat.or_zero]
        | rw [if_neg h5, if_neg h24]
  · refine T.iconst (pc' := 9) (v := nI 0) (q_d dX2_placesRead_0 4 rfl) rfl (by decide) ?_
    refine T.goto (tgt := 18) (q_d dX2_placesRead_0 5 rfl) (by decide) ?_
    refine T.istore_n (pc' := 19) (q_d dX2_placesRead_0 10 rfl) rfl rfl (by decide) rfl rfl ?_
    refine T.aload_n (pc' := 20) (q_d dX2_placesRead_0 11 rfl) rfl rfl rfl ?_
    refine T.getI (pc' := 23) (ci := 2) (k0 := 8) (q_d dX2_placesRead_0 12 rfl) rfl rfl (by decide) rfl inX2 (by decide) rfl wF_X2_25 e2 ?_
    refine T.iconst (pc' := 24) (v := nI 4294967295) (q_d dX2_placesRead_0 13 rfl) rfl (by decide) ?_
    refine T.icmp_neN (tgt := 31) (pc' := 27) (q_d dX2_placesRead_0 14 rfl) rfl (by decide) (by omega) (by omega) (fun h24 => ?_) (fun h24 => ?_)
    · refine T.iload_n (pc' := 32) (q_d dX2_placesRead_0 17 rfl) rfl rfl rfl ?_
      refine T.iconst (pc' := 33) (v := nI 1) (q_d dX2_placesRead_0 18 rfl) rfl (by decide) ?_
      refine T.aload_n (pc' := 34) (q_d dX2_placesRead_0 19 rfl) rfl rfl rfl ?_
      refine T.getI (pc' := 37) (ci := 2) (k0 := 8) (q_d dX2_placesRead_0 20 rfl) rfl rfl (by decide) rfl inX2 (by decide) rfl wF_X2_25 e2 ?_
      refine T.ishl (pc' := 38) (q_d dX2_placesRead_0 21 rfl) rfl (nN_shl _ (by omega)) ?_
      refine T.ior (pc' := 39) (q_d dX2_placesRead_0 22 rfl) rfl (nN_or _ _) ?_
      refine T.iret (q_d dX2_placesRead_0 23 rfl) rfl rfl rfl ?_
      refine ⟨rfl, ?_⟩
      unfold setP
      first
        | (rw [if_pos h5, if_pos h24]; rfl)
        | rw [if_pos h5, if_neg h24]
        | rw [if_neg h5, if_pos h24, Nat.or_zero]
        | rw [if_neg h5, if_neg h24]
    · refine T.iload_n (pc' := 28) (q_d dX2_placesRead_0 15 rfl) rfl rfl rfl ?_
      refine T.goto (tgt := 39) (q_d dX2_placesRead_0 16 rfl) (by decide) ?_
      refine T.iret (q_d dX2_placesRead_0 23 rfl) rfl rfl rfl ?_
      refine ⟨rfl, ?_⟩
      unfold setP
      first
        | (rw [if_pos h5, if_pos h24]; rfl)
        | rw [if_pos h5, if_neg h24]
        | rw [if_neg h5, if_pos h24, Nat.or_zero]
        | rw [if_neg h5, if_neg h24]
theorem c_goOn (hP : M.2.2 = pX pa sw) : Ct l hdX kX mX2_goOn [.ref 18] M (fun v M' => v = none ∧ M' = qI (qI M 18 2 (M.1 18 5)) 18 3 (M.1 18 3 + 1)) := by
  refine Ct.of [some (.ref 18)] (by decide +kernel) (fun h => absurd h (by decide)) (Nat.le_of_ble_eq_true rfl) rfl ?_
  refine T.aload_n (pc' := 1) (q_d dX2_goOn_0 0 rfl) rfl rfl rfl ?_
  refine T.aload_n (pc' := 2) (q_d dX2_goOn_0 1 rfl) rfl rfl rfl ?_
  refine T.getI (pc' := 5) (ci := 2) (k0 := 5) (q_d dX2_goOn_0 2 rfl) rfl rfl (by decide) rfl inX2 (by decide) rfl wF_X2_46 rfl ?_
  refine T.putI (pc' := 8) (ci := 2) (k0 := 2) (q_d dX2_goOn_0 3 rfl) rfl rfl (by decide) rfl inX2 tyX2 tyX2_ok nmX2 (by decide) rfl wF_X2_28 rfl rfl rfl ?_
  refine T.aload_n (pc' := 9) (q_d dX2_goOn_0 4 rfl) rfl rfl rfl ?_
  refine T.dup (pc' := 10) (q_d dX2_goOn_0 5 rfl) rfl rfl ?_
  refine T.getI (pc' := 13) (ci := 2) (k0 := 3) (q_d dX2_goOn_0 6 rfl) rfl rfl (by decide) rfl inX2 (by decide) rfl wF_X2_49 (qI_ne (Or.inr (by decide))) ?_
  refine T.iconst (pc' := 14) (v := nI 1) (q_d dX2_goOn_0 7 rfl) rfl (by decide) ?_
  refine T.iadd (pc' := 15) (q_d dX2_goOn_0 8 rfl) rfl (nI_add _ _) ?_
  refine T.putI (pc' := 18) (ci := 2) (k0 := 3) (q_d dX2_goOn_0 9 rfl) rfl rfl (by decide) rfl inX2 tyX2 tyX2_ok nmX2 (by decide) rfl wF_X2_49 rfl rfl rfl ?_
  refine T.vret (q_d dX2_goOn_0 10 rfl) rfl rfl rfl ?_
  exact ⟨rfl, rfl⟩
theorem c_append (hP : M.2.2 = pX pa sw) (h1 : M.1 18 1 = n) (hn : n < 60) {c : Nat} (hc : c < 65536) : Ct l hdX kX mX2_append [.ref 18, .int (nI c)] M (fun v M' => v = none ∧ M' = qI (qI M 19 n c) 18 1 (n + 1)) := by
  refine Ct.of [some (.ref 18), some (.int (nI c))] (by decide +kernel) (fun h => absurd h (by decide)) (Nat.le_of_ble_eq_true rfl) rfl ?_
  refine T.aload_n (pc' := 1) (q_d dX2_append_0 0 rfl) rfl rfl rfl ?_
  refine T.getR (pc' := 4) (ci := 2) (k0 := 0) (q_d dX2_append_0 1 rfl) rfl rfl (by decide) rfl inX2 (by decide) rfl wF_X2_9 (rP hP rfl) ?_
  refine T.aload_n (pc' := 5) (q_d dX2_append_0 2 rfl) rfl rfl rfl ?_
  refine T.getI (pc' := 8) (ci := 2) (k0 := 1) (q_d dX2_append_0 3 rfl) rfl rfl (by decide) rfl inX2 (by decide) rfl wF_X2_15 h1 ?_
  refine T.iload_n (pc' := 9) (q_d dX2_append_0 4 rfl) rfl rfl rfl ?_
  refine T.cast (pc' := 10) (q_d dX2_append_0 5 rfl) rfl rfl (by decide) rfl (by omega) (by decide) (pk_charN hc).1 ?_
  refine T.aload_n (pc' := 11) (q_d dX2_append_0 6 rfl) rfl rfl rfl ?_
  refine T.dup (pc' := 12) (q_d dX2_append_0 7 rfl) rfl rfl ?_
  refine T.getI (pc' := 15) (ci := 2) (k0 := 1) (q_d dX2_append_0 8 rfl) rfl rfl (by decide) rfl inX2 (by decide) rfl wF_X2_15 ((qI_ne (Or.inl (by decide))).trans h1) ?_
  refine T.iconst (pc' := 16) (v := nI 1) (q_d dX2_append_0 9 rfl) rfl (by decide) ?_
  refine T.iadd (pc' := 17) (q_d dX2_append_0 10 rfl) rfl (nI_add _ _) ?_
  refine T.putI (pc' := 20) (ci := 2) (k0 := 1) (q_d dX2_append_0 11 rfl) rfl rfl (by decide) rfl inX2 tyX2 tyX2_ok nmX2 (by decide) rfl wF_X2_15 rfl rfl rfl ?_
  refine T.vret (q_d dX2_append_0 12 rfl) rfl rfl rfl ?_
  exact ⟨rfl, rfl⟩
end CX2
