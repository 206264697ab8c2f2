/-! BlindHunts: tests of arguments, the history, the tables -/
def sI (u : Nat) : Int := if u < 2147483648 then (u : Int) else (u : Int) - 4294967296
theorem nN_sI {u : Nat} (h : u < 4294967296) : (nI u).toInt = sI u := by
  unfold sI
  split
  · exact nI_toInt (by omega)
  · exact nN_neg (by omega) h
def inS (u lo hi : Nat) : Bool := decide (sI lo ≤ sI u) && decide (sI u ≤ sI hi)
theorem inS_iff {u lo hi : Nat} (hu : u < 4294967296) (hl : lo < 2147483648) (hh : hi < 2147483648) : inS u lo hi = true ↔ lo ≤ u ∧ u ≤ hi := by
  simp only [inS, Bool.and_eq_true, decide_eq_true_eq]
  unfold sI
  rw [if_pos hl, if_pos hh]
  split <;> omega
theorem inS_pl {u pl : Nat} (hu : u < 4294967296) (hp : pl ≤ 128) : inS u 0 (if pl = 0 then 4294967295 else pl - 1) = true ↔ u < pl := by
  simp only [inS, Bool.and_eq_true, decide_eq_true_eq]
  unfold sI
  by_cases h : pl = 0
  · rw [if_pos h]
    split <;> simp <;> omega
  · rw [if_neg h, if_pos (show pl - 1 < 2147483648 by omega)]
    split <;> simp <;> omega
theorem inS_m1 {u : Nat} (hu : u < 4294967296) : inS u 4294967295 3 = true ↔ u = 4294967295 ∨ u ≤ 3 := by
  simp only [inS, Bool.and_eq_true, decide_eq_true_eq]
  unfold sI
  split <;> simp <;> omega
theorem nar_if (p : Prop) [Decidable p] : narrow .boolean (.int (nI (if p then 1 else 0))) = .int (nI (if p then 1 else 0)) := by split <;> decide
theorem pl_m1 {pl : Nat} : nI pl - nI 1 = nI (if pl = 0 then 4294967295 else pl - 1) := by
  by_cases h : pl = 0
  · subst h; decide
  · rw [if_neg h]; exact nN_sub (by omega)
def PaOk (pa : Nat → Nat) : Prop := (∀ i, i < 4 → pa i = 39 ∨ pa i = 47 ∨ pa i = 55 ∨ pa i = 63) ∧ ∀ i j, i < 4 → j < 4 → pa i = pa j → i = j
theorem PaOk.so {pa : Nat → Nat} (h : PaOk pa) {i : Nat} (hi : i < 4) : SO (pa i) := by
  rcases h.1 i hi with e | e | e | e <;> rw [e] <;> unfold SO <;> omega
theorem PaOk.ge {pa : Nat → Nat} (h : PaOk pa) {i : Nat} (hi : i < 4) : 39 ≤ pa i := by
  rcases h.1 i hi with e | e | e | e <;> omega
theorem PaOk.ap {pa : Nat → Nat} (h : PaOk pa) {i j : Nat} (hi : i < 4) (hj : j < 4) (hij : i ≠ j) : pa i + 8 ≤ pa j ∨ pa j + 8 ≤ pa i := by
  have h1 : pa i ≠ pa j := fun e => hij (h.2 i j hi hj e)
  rcases h.1 i hi with e | e | e | e <;> rcases h.1 j hj with f | f | f | f <;> omega
/-- what is known of the tables -/
def Tb (M : qM) (s : Nat → Nat) : Prop :=
  M.1 0 8 ≤ 1 ∧ M.1 0 9 ≤ 1 ∧ M.1 0 10 ≤ 1 ∧ (M.1 0 8 = 1 → RT M s) ∧ (M.1 0 9 = 1 → M.1 0 8 = 1 ∧ RHs M 29 (solN s 0 3 127)) ∧ (M.1 0 10 = 1 → M.1 0 8 = 1 ∧ RHs M 32 (solN s 4 4 127)) ∧ M.1 29 2 = 0 ∧ M.1 29 3 = 3 ∧ M.1 32 2 = 4 ∧ M.1 32 3 = 4 ∧ ∀ g, g < 5 → M.1 (22 + g) 0 = 0
def RX (M : qM) (b : Nat) (s : Nat → Nat) (k : Nat) (was : Nat → Nat → Nat) (n : Nat) (t : Nat → Nat) (pa : Nat → Nat) (sw : Bool) : Prop :=
  M.2.2 = pX pa sw ∧ PaOk pa ∧ RS M 1 s ∧ WF b s ∧ M.1 0 3 = k ∧ k ≤ 4 ∧ (∀ i, i < k → RS M (pa i) (was i) ∧ WF b (was i)) ∧ TX M n t ∧ WT n t ∧ Tb M s
theorem RHs.mono {M M' : qM} {h : Nat} {st : (Nat → Nat) × (Nat → Nat)} (q : RHs M h st) (h1 : M'.1 (h + 1) = M.1 (h + 1)) (h2 : M'.1 (h + 2) = M.1 (h + 2)) : RHs M' h st := fun x hx => by rw [h1, h2]; exact q x hx
theorem Tb.mono {M M' : qM} {s : Nat → Nat} (q : Tb M s) (h0 : M'.1 0 8 = M.1 0 8 ∧ M'.1 0 9 = M.1 0 9 ∧ M'.1 0 10 = M.1 0 10) (ha : ∀ a, 20 ≤ a → a ≤ 34 → M'.1 a = M.1 a) : Tb M' s := by
  obtain ⟨q1, q2, q3, q4, q5, q6, q7, q8, q9, q10, q11⟩ := q
  unfold Tb
  rw [h0.1, h0.2.1, h0.2.2, ha 29 (by decide) (by decide), ha 32 (by decide) (by decide)]
  exact ⟨q1, q2, q3, fun e => (q4 e).mono (fun a h1 h2 => ha a h1 (by omega)), fun e => ⟨(q5 e).1, (q5 e).2.mono (ha 30 (by decide) (by decide)) (ha 31 (by decide) (by decide))⟩, fun e => ⟨(q6 e).1, (q6 e).2.mono (ha 33 (by decide) (by decide)) (ha 34 (by decide) (by decide))⟩, q7, q8, q9, q10, fun g hg => by rw [ha (22 + g) (by omega) (by omega)]; exact q11 g hg⟩
/-- only the tables changed -/
def FrT (M M' : qM) : Prop := M'.2 = M.2 ∧ (∀ a, a ≠ 0 → (a < 20 ∨ 34 < a) → M'.1 a = M.1 a) ∧ ∀ j, j < 8 → M'.1 0 j = M.1 0 j
theorem RX.tb {M M' : qM} {b : Nat} {s : Nat → Nat} {k : Nat} {was : Nat → Nat → Nat} {n : Nat} {t pa : Nat → Nat} {sw : Bool} (q : RX M b s k was n t pa sw) (h : FrT M M') (ht : Tb M' s) : RX M' b s k was n t pa sw := by
  obtain ⟨q1, q2, q3, q4, q5, q6, q7, q8, q9, -⟩ := q
  obtain ⟨f1, f2, f3⟩ := h
  refine ⟨by rw [f1]; exact q1, q2, q3.mono (fun a a1 a2 => f2 a (by omega) (by omega)), q4, (f3 3 (by decide)).trans q5, q6, fun i hi => ⟨(q7 i hi).1.mono (fun a a1 a2 => by have := q2.ge (show i < 4 by omega); exact f2 a (by omega) (by omega)), (q7 i hi).2⟩, ⟨by rw [f2 18 (by decide) (by decide)]; exact q8.1, fun i hi => by rw [f2 19 (by decide) (by decide)]; exact q8.2 i hi⟩, q9, ht⟩
theorem FrT.refl {M : qM} : FrT M M := ⟨rfl, fun _ _ _ => rfl, fun _ _ => rfl⟩
theorem FrT.trans {M M2 M3 : qM} (h : FrT M M2) (h2 : FrT M2 M3) : FrT M M3 := ⟨h2.1.trans h.1, fun a a1 a2 => (h2.2.1 a a1 a2).trans (h.2.1 a a1 a2), fun j hj => (h2.2.2 j hj).trans (h.2.2 j hj)⟩
theorem sol_vals {s : Nat → Nat} {g0 g1 : Nat} (y : Nat) : (solN s g0 g1 127).1 y = 1000 ∨ (solN s g0 g1 127).1 y ≤ 127 := sol_val 127 y
section CX5A
variable {l : Launch} {M : qM} {b : Nat} {s : Nat → Nat} {k : Nat} {was : Nat → Nat → Nat} {n : Nat} {t pa : Nat → Nat} {sw : Bool}
theorem c_isWithin {u lo hi : Nat} (hu : u < 4294967296) (hl : lo < 4294967296) (hh : hi < 4294967296) : Ct l hdX kX mX5_isWithin [.int (nI u), .int (nI lo), .int (nI hi)] M (RI M (if inS u lo hi = true then 1 else 0)) := by
  refine Ct.of [some (.int (nI u)), some (.int (nI lo)), some (.int (nI hi))] (by decide +kernel) (fun h => absurd h (by decide)) (Nat.le_of_ble_eq_true rfl) rfl ?_
  have e1 : (nI u < nI lo) ↔ sI u < sI lo := by rw [Int32.lt_iff_toInt_lt, nN_sI hu, nN_sI hl]
  have e2 : (nI hi < nI u) ↔ sI hi < sI u := by rw [Int32.lt_iff_toInt_lt, nN_sI hh, nN_sI hu]
  have e3 : inS u lo hi = true ↔ sI lo ≤ sI u ∧ sI u ≤ sI hi := by simp [inS]
  refine T.iload_n (pc' := 1) (q_d dX5_isWithin_0 0 rfl) rfl rfl rfl ?_
  refine T.iload_n (pc' := 2) (q_d dX5_isWithin_0 1 rfl) rfl rfl rfl ?_
  refine T.icmp_lt (tgt := 14) (pc' := 5) (q_d dX5_isWithin_0 2 rfl) rfl (by decide)  (fun h2 => ?_) (fun h2 => ?_)
  · refine T.iconst (pc' := 15) (v := nI 0) (q_d dX5_isWithin_0 8 rfl) rfl (by decide) ?_
    refine T.zret (q_d dX5_isWithin_0 9 rfl) rfl (by decide) rfl rfl ?_
    refine ⟨rfl, ?_⟩
    first
      | (rw [if_pos (e3.mpr ⟨Int.not_lt.mp (fun q => h2 (e1.mpr q)), Int.not_lt.mp (fun q => h7 (e2.mpr q))⟩)]; done)
      | (rw [if_neg (fun q => by have h9 := e3.mp q; have h8 := e1.mp h2; omega)]; done)
      | (rw [if_neg (fun q => by have h9 := e3.mp q; have h8 := e2.mp h7; omega)]; done)
  · refine T.iload_n (pc' := 6) (q_d dX5_isWithin_0 3 rfl) rfl rfl rfl ?_
    refine T.iload_n (pc' := 7) (q_d dX5_isWithin_0 4 rfl) rfl rfl rfl ?_
    refine T.icmp_gt (tgt := 14) (pc' := 10) (q_d dX5_isWithin_0 5 rfl) rfl (by decide)  (fun h7 => ?_) (fun h7 => ?_)
    · refine T.iconst (pc' := 15) (v := nI 0) (q_d dX5_isWithin_0 8 rfl) rfl (by decide) ?_
      refine T.zret (q_d dX5_isWithin_0 9 rfl) rfl (by decide) rfl rfl ?_
      refine ⟨rfl, ?_⟩
      first
        | (rw [if_pos (e3.mpr ⟨Int.not_lt.mp (fun q => h2 (e1.mpr q)), Int.not_lt.mp (fun q => h7 (e2.mpr q))⟩)]; done)
        | (rw [if_neg (fun q => by have h9 := e3.mp q; have h8 := e1.mp h2; omega)]; done)
        | (rw [if_neg (fun q => by have h9 := e3.mp q; have h8 := e2.mp h7; omega)]; done)
    · refine T.iconst (pc' := 11) (v := nI 1) (q_d dX5_isWithin_0 6 rfl) rfl (by decide) ?_
      refine T.goto (tgt := 15) (q_d dX5_isWithin_0 7 rfl) (by decide) ?_
      refine T.zret (q_d dX5_isWithin_0 9 rfl) rfl (by decide) rfl rfl ?_
      refine ⟨rfl, ?_⟩
      first
        | (rw [if_pos (e3.mpr ⟨Int.not_lt.mp (fun q => h2 (e1.mpr q)), Int.not_lt.mp (fun q => h7 (e2.mpr q))⟩)]; done)
        | (rw [if_neg (fun q => by have h9 := e3.mp q; have h8 := e1.mp h2; omega)]; done)
        | (rw [if_neg (fun q => by have h9 := e3.mp q; have h8 := e2.mp h7; omega)]; done)
theorem c_isPlace (hP : M.2.2 = pX pa sw) (hs : RS M 1 s) (hw : WF b s) {u : Nat} (hu : u < 4294967296) : Ct l hdX kX mX5_isPlace [.ref 0, .int (nI u)] M (RI M (if u < s 0 then 1 else 0)) := by
  refine Ct.of [some (.ref 0), some (.int (nI u))] (by decide +kernel) (fun h => absurd h (by decide)) (Nat.le_of_ble_eq_true rfl) rfl ?_
  have h0 := hs.1
  have w7 := hw.1
  have e := inS_pl (pl := s 0) hu (by omega)
  refine T.iload_n (pc' := 1) (q_d dX5_isPlace_0 0 rfl) rfl rfl rfl ?_
  refine T.iconst (pc' := 2) (v := nI 0) (q_d dX5_isPlace_0 1 rfl) rfl (by decide) ?_
  refine T.aload_n (pc' := 3) (q_d dX5_isPlace_0 2 rfl) rfl rfl rfl ?_
  refine T.getR (pc' := 6) (ci := 5) (k0 := 0) (q_d dX5_isPlace_0 3 rfl) rfl rfl (by decide) rfl inX5 (by decide) rfl wF_X5_10 (rP hP rfl) ?_
  refine T.getI (pc' := 9) (ci := 3) (k0 := 0) (q_d dX5_isPlace_0 4 rfl) rfl rfl (by decide) rfl inX3 (by decide) rfl wF_X5_65 h0 ?_
  refine T.iconst (pc' := 10) (v := nI 1) (q_d dX5_isPlace_0 5 rfl) rfl (by decide) ?_
  refine T.isub (pc' := 11) (q_d dX5_isPlace_0 6 rfl) rfl pl_m1 ?_
  refine T.callS (pc' := 14) (q_d dX5_isPlace_0 7 rfl) rfl uX5_isWithin wM_X5_60 (c_isWithin hu (by decide) (hi := if s 0 = 0 then 4294967295 else s 0 - 1) (by split <;> omega)) rfl rfl (by decide) (Nat.le_of_ble_eq_true rfl) rfl rfl (fun _ => rfl) ?_
  rintro _ _ ⟨rfl, rfl⟩
  dsimp only [Option.toList, List.cons_append, List.nil_append, List.append_nil]
  refine T.zret (q_d dX5_isPlace_0 8 rfl) rfl (nar_if _) rfl rfl ?_
  refine ⟨rfl, ?_⟩
  by_cases h9 : u < s 0
  · rw [if_pos h9, if_pos (e.mpr h9)]
  · rw [if_neg h9, if_neg (fun q => h9 (e.mp q))]
theorem c_isSet (hP : M.2.2 = pX pa sw) (hs : RS M 1 s) (hw : WF b s) {u : Nat} (hu : u < 4294967296) : Ct l hdX kX mX5_isSet [.ref 0, .int (nI u)] M (RI M (if u < 2 ^ s 0 then 1 else 0)) := by
  refine Ct.of [some (.ref 0), some (.int (nI u))] (by decide +kernel) (fun h => absurd h (by decide)) (Nat.le_of_ble_eq_true rfl) rfl ?_
  have w0 := p2_le hw.1
  have e := inS_pl (pl := 2 ^ s 0) hu w0
  have hne : ¬ 2 ^ s 0 = 0 := by have := Nat.two_pow_pos (s 0); omega
  rw [if_neg hne] at e
  have hpos : 1 ≤ 2 ^ s 0 := Nat.two_pow_pos _
  refine T.iload_n (pc' := 1) (q_d dX5_isSet_0 0 rfl) rfl rfl rfl ?_
  refine T.iconst (pc' := 2) (v := nI 0) (q_d dX5_isSet_0 1 rfl) rfl (by decide) ?_
  refine T.aload_n (pc' := 3) (q_d dX5_isSet_0 2 rfl) rfl rfl rfl ?_
  refine T.getR (pc' := 6) (ci := 5) (k0 := 0) (q_d dX5_isSet_0 3 rfl) rfl rfl (by decide) rfl inX5 (by decide) rfl wF_X5_10 (rP hP rfl) ?_
  refine T.callV (pc' := 9) (ci := 3) (q_d dX5_isSet_0 4 rfl) rfl uX3_sets wM_X5_184 (c_sets (Or.inl rfl) hP hs hw) rfl rfl (by decide) rfl rfl (by decide) (Nat.le_of_ble_eq_true rfl) rfl rfl (fun _ => rfl) ?_
  rintro _ _ ⟨rfl, rfl⟩
  dsimp only [Option.toList, List.cons_append, List.nil_append, List.append_nil]
  refine T.iconst (pc' := 10) (v := nI 1) (q_d dX5_isSet_0 5 rfl) rfl (by decide) ?_
  refine T.isub (pc' := 11) (q_d dX5_isSet_0 6 rfl) rfl ((congrArg (fun z => nI z - nI 1) (Nat.one_shiftLeft (s 0))).trans (nN_sub hpos)) ?_
  refine T.callS (pc' := 14) (q_d dX5_isSet_0 7 rfl) rfl uX5_isWithin wM_X5_60 (c_isWithin hu (by decide) (hi := 2 ^ s 0 - 1) (by omega)) rfl rfl (by decide) (Nat.le_of_ble_eq_true rfl) rfl rfl (fun _ => rfl) ?_
  rintro _ _ ⟨rfl, rfl⟩
  dsimp only [Option.toList, List.cons_append, List.nil_append, List.append_nil]
  refine T.zret (q_d dX5_isSet_0 8 rfl) rfl (nar_if _) rfl rfl ?_
  refine ⟨rfl, ?_⟩
  by_cases h9 : u < 2 ^ s 0
  · rw [if_pos h9, if_pos (e.mpr h9)]
  · rw [if_neg h9, if_neg (fun q => h9 (e.mp q))]
theorem c_arePlaces (hP : M.2.2 = pX pa sw) (hs : RS M 1 s) (hw : WF b s) {u v : Nat} (hu : u < 4294967296) (hv : v < 4294967296) : Ct l hdX kX mX5_arePlaces [.ref 0, .int (nI u), .int (nI v)] M (RI M (if u < s 0 ∧ v < s 0 ∧ u ≠ v then 1 else 0)) := by
  refine Ct.of [some (.ref 0), some (.int (nI u)), some (.int (nI v))] (by decide +kernel) (fun h => absurd h (by decide)) (Nat.le_of_ble_eq_true rfl) rfl ?_
  refine T.aload_n (pc' := 1) (q_d dX5_arePlaces_0 0 rfl) rfl rfl rfl ?_
  refine T.iload_n (pc' := 2) (q_d dX5_arePlaces_0 1 rfl) rfl rfl rfl ?_
  refine T.callV (pc' := 5) (ci := 5) (q_d dX5_arePlaces_0 2 rfl) rfl uX5_isPlace wM_X5_141 (c_isPlace hP hs hw hu) rfl rfl (by decide) rfl rfl (by decide) (Nat.le_of_ble_eq_true rfl) rfl rfl (fun _ => rfl) ?_
  rintro _ _ ⟨rfl, rfl⟩
  dsimp only [Option.toList, List.cons_append, List.nil_append, List.append_nil]
  refine T.if_eqN (tgt := 25) (pc' := 8) (q_d dX5_arePlaces_0 3 rfl) rfl (by decide) (by split <;> decide) (fun h5 => ?_) (fun h5 => ?_)
  · refine T.iconst (pc' := 26) (v := nI 0) (q_d dX5_arePlaces_0 13 rfl) rfl (by decide) ?_
    refine T.zret (q_d dX5_arePlaces_0 14 rfl) rfl (by decide) rfl rfl ?_
    refine ⟨rfl, ?_⟩
    by_cases a1 : u < s 0 <;> by_cases a2 : v < s 0 <;> simp only [a1, a2, if_true, if_false, true_and, false_and] at * <;> first
      | exact absurd rfl h5
      | exact absurd rfl h13
      | exact absurd h5 (by decide)
      | exact absurd h13 (by decide)
      | (rw [if_pos h18]; done)
      | (rw [if_neg (fun q => q h18)]; done)
      | rfl
  · refine T.aload_n (pc' := 9) (q_d dX5_arePlaces_0 4 rfl) rfl rfl rfl ?_
    refine T.iload_n (pc' := 10) (q_d dX5_arePlaces_0 5 rfl) rfl rfl rfl ?_
    refine T.callV (pc' := 13) (ci := 5) (q_d dX5_arePlaces_0 6 rfl) rfl uX5_isPlace wM_X5_141 (c_isPlace hP hs hw hv) rfl rfl (by decide) rfl rfl (by decide) (Nat.le_of_ble_eq_true rfl) rfl rfl (fun _ => rfl) ?_
    rintro _ _ ⟨rfl, rfl⟩
    dsimp only [Option.toList, List.cons_append, List.nil_append, List.append_nil]
    refine T.if_eqN (tgt := 25) (pc' := 16) (q_d dX5_arePlaces_0 7 rfl) rfl (by decide) (by split <;> decide) (fun h13 => ?_) (fun h13 => ?_)
    · refine T.iconst (pc' := 26) (v := nI 0) (q_d dX5_arePlaces_0 13 rfl) rfl (by decide) ?_
      refine T.zret (q_d dX5_arePlaces_0 14 rfl) rfl (by decide) rfl rfl ?_
      refine ⟨rfl, ?_⟩
      by_cases a1 : u < s 0 <;> by_cases a2 : v < s 0 <;> simp only [a1, a2, if_true, if_false, true_and, false_and] at * <;> first
        | exact absurd rfl h5
        | exact absurd rfl h13
        | exact absurd h5 (by decide)
        | exact absurd h13 (by decide)
        | (rw [if_pos h18]; done)
        | (rw [if_neg (fun q => q h18)]; done)
        | rfl
    · refine T.iload_n (pc' := 17) (q_d dX5_arePlaces_0 8 rfl) rfl rfl rfl ?_
      refine T.iload_n (pc' := 18) (q_d dX5_arePlaces_0 9 rfl) rfl rfl rfl ?_
      refine T.icmp_eqN (tgt := 25) (pc' := 21) (q_d dX5_arePlaces_0 10 rfl) rfl (by decide) (by omega) (by omega) (fun h18 => ?_) (fun h18 => ?_)
      · refine T.iconst (pc' := 26) (v := nI 0) (q_d dX5_arePlaces_0 13 rfl) rfl (by decide) ?_
        refine T.zret (q_d dX5_arePlaces_0 14 rfl) rfl (by decide) rfl rfl ?_
        refine ⟨rfl, ?_⟩
        by_cases a1 : u < s 0 <;> by_cases a2 : v < s 0 <;> simp only [a1, a2, if_true, if_false, true_and, false_and] at * <;> first
          | exact absurd rfl h5
          | exact absurd rfl h13
          | exact absurd h5 (by decide)
          | exact absurd h13 (by decide)
          | (rw [if_pos h18]; done)
          | (rw [if_neg (fun q => q h18)]; done)
          | rfl
      · refine T.iconst (pc' := 22) (v := nI 1) (q_d dX5_arePlaces_0 11 rfl) rfl (by decide) ?_
        refine T.goto (tgt := 26) (q_d dX5_arePlaces_0 12 rfl) (by decide) ?_
        refine T.zret (q_d dX5_arePlaces_0 14 rfl) rfl (by decide) rfl rfl ?_
        refine ⟨rfl, ?_⟩
        by_cases a1 : u < s 0 <;> by_cases a2 : v < s 0 <;> simp only [a1, a2, if_true, if_false, true_and, false_and] at * <;> first
          | exact absurd rfl h5
          | exact absurd rfl h13
          | exact absurd h5 (by decide)
          | exact absurd h13 (by decide)
          | (rw [if_pos h18]; done)
          | (rw [if_neg (fun q => q h18)]; done)
          | rfl
theorem c_isSetting {u v : Nat} (hu : u < 4294967296) (hv : v < 4294967296) : Ct l hdX kX mX5_isSetting [.int (nI u), .int (nI v)] M (RI M (if (u ≤ 2 ∧ (if u = 2 then 1 ≤ v ∧ v ≤ 2 else v ≤ 3)) then 1 else 0)) := by
  refine Ct.of [some (.int (nI u)), some (.int (nI v))] (by decide +kernel) (fun h => absurd h (by decide)) (Nat.le_of_ble_eq_true rfl) rfl ?_
  have e1 := inS_iff (lo := 0) (hi := 2) hu (by decide) (by decide)
  have e2 := inS_iff (lo := 1) (hi := 2) hv (by decide) (by decide)
  have e3 := inS_iff (lo := 0) (hi := 3) hv (by decide) (by decide)
  refine T.iload_n (pc' := 1) (q_d dX5_isSetting_0 0 rfl) rfl rfl rfl ?_
  refine T.iconst (pc' := 2) (v := nI 0) (q_d dX5_isSetting_0 1 rfl) rfl (by decide) ?_
  refine T.iconst (pc' := 3) (v := nI 2) (q_d dX5_isSetting_0 2 rfl) rfl (by decide) ?_
  refine T.callS (pc' := 6) (q_d dX5_isSetting_0 3 rfl) rfl uX5_isWithin wM_X5_60 (c_isWithin hu (by decide) (hi := 2) (by decide)) rfl rfl (by decide) (Nat.le_of_ble_eq_true rfl) rfl rfl (fun _ => rfl) ?_
  rintro _ _ ⟨rfl, rfl⟩
  dsimp only [Option.toList, List.cons_append, List.nil_append, List.append_nil]
  refine T.if_neN (tgt := 11) (pc' := 9) (q_d dX5_isSetting_0 4 rfl) rfl (by decide) (by split <;> decide) (fun h6 => ?_) (fun h6 => ?_)
  · refine T.iload_n (pc' := 12) (q_d dX5_isSetting_0 7 rfl) rfl rfl rfl ?_
    refine T.iconst (pc' := 13) (v := nI 2) (q_d dX5_isSetting_0 8 rfl) rfl (by decide) ?_
    refine T.icmp_neN (tgt := 25) (pc' := 16) (q_d dX5_isSetting_0 9 rfl) rfl (by decide) (by omega) (by omega) (fun h13 => ?_) (fun h13 => ?_)
    · refine T.iload_n (pc' := 26) (q_d dX5_isSetting_0 15 rfl) rfl rfl rfl ?_
      refine T.iconst (pc' := 27) (v := nI 0) (q_d dX5_isSetting_0 16 rfl) rfl (by decide) ?_
      refine T.iconst (pc' := 28) (v := nI 3) (q_d dX5_isSetting_0 17 rfl) rfl (by decide) ?_
      refine T.callS (pc' := 31) (q_d dX5_isSetting_0 18 rfl) rfl uX5_isWithin wM_X5_60 (c_isWithin hv (by decide) (hi := 3) (by decide)) rfl rfl (by decide) (Nat.le_of_ble_eq_true rfl) rfl rfl (fun _ => rfl) ?_
      rintro _ _ ⟨rfl, rfl⟩
      dsimp only [Option.toList, List.cons_append, List.nil_append, List.append_nil]
      refine T.zret (q_d dX5_isSetting_0 19 rfl) rfl (nar_if _) rfl rfl ?_
      refine ⟨rfl, ?_⟩
      have a1 : inS u 0 2 = true := by
        cases q : inS u 0 2 with
        | true => rfl
        | false => rw [q] at h6; exact absurd rfl h6
      have a2 := (e1.mp a1).2
      first
        | (have e9 : (u ≤ 2 ∧ (if u = 2 then 1 ≤ v ∧ v ≤ 2 else v ≤ 3)) ↔ (1 ≤ v ∧ v ≤ 2) := by rw [if_pos h13]; exact ⟨fun q => q.2, fun q => ⟨a2, q⟩⟩
           by_cases a3 : inS v 1 2 = true
           · rw [if_pos a3, if_pos (e9.mpr (e2.mp a3))]
           · rw [if_neg a3, if_neg (fun q => a3 (e2.mpr (e9.mp q)))])
        | (have e9 : (u ≤ 2 ∧ (if u = 2 then 1 ≤ v ∧ v ≤ 2 else v ≤ 3)) ↔ v ≤ 3 := by rw [if_neg h13]; exact ⟨fun q => q.2, fun q => ⟨a2, q⟩⟩
           by_cases a3 : inS v 0 3 = true
           · rw [if_pos a3, if_pos (e9.mpr (e3.mp a3).2)]
           · rw [if_neg a3, if_neg (fun q => a3 (e3.mpr ⟨Nat.zero_le _, e9.mp q⟩))])
    · refine T.iload_n (pc' := 17) (q_d dX5_isSetting_0 10 rfl) rfl rfl rfl ?_
      refine T.iconst (pc' := 18) (v := nI 1) (q_d dX5_isSetting_0 11 rfl) rfl (by decide) ?_
      refine T.iconst (pc' := 19) (v := nI 2) (q_d dX5_isSetting_0 12 rfl) rfl (by decide) ?_
      refine T.callS (pc' := 22) (q_d dX5_isSetting_0 13 rfl) rfl uX5_isWithin wM_X5_60 (c_isWithin hv (by decide) (hi := 2) (by decide)) rfl rfl (by decide) (Nat.le_of_ble_eq_true rfl) rfl rfl (fun _ => rfl) ?_
      rintro _ _ ⟨rfl, rfl⟩
      dsimp only [Option.toList, List.cons_append, List.nil_append, List.append_nil]
      refine T.goto (tgt := 31) (q_d dX5_isSetting_0 14 rfl) (by decide) ?_
      refine T.zret (q_d dX5_isSetting_0 19 rfl) rfl (nar_if _) rfl rfl ?_
      refine ⟨rfl, ?_⟩
      have a1 : inS u 0 2 = true := by
        cases q : inS u 0 2 with
        | true => rfl
        | false => rw [q] at h6; exact absurd rfl h6
      have a2 := (e1.mp a1).2
      first
        | (have e9 : (u ≤ 2 ∧ (if u = 2 then 1 ≤ v ∧ v ≤ 2 else v ≤ 3)) ↔ (1 ≤ v ∧ v ≤ 2) := by rw [if_pos h13]; exact ⟨fun q => q.2, fun q => ⟨a2, q⟩⟩
           by_cases a3 : inS v 1 2 = true
           · rw [if_pos a3, if_pos (e9.mpr (e2.mp a3))]
           · rw [if_neg a3, if_neg (fun q => a3 (e2.mpr (e9.mp q)))])
        | (have e9 : (u ≤ 2 ∧ (if u = 2 then 1 ≤ v ∧ v ≤ 2 else v ≤ 3)) ↔ v ≤ 3 := by rw [if_neg h13]; exact ⟨fun q => q.2, fun q => ⟨a2, q⟩⟩
           by_cases a3 : inS v 0 3 = true
           · rw [if_pos a3, if_pos (e9.mpr (e3.mp a3).2)]
           · rw [if_neg a3, if_neg (fun q => a3 (e3.mpr ⟨Nat.zero_le _, e9.mp q⟩))])
  · refine T.iconst (pc' := 10) (v := nI 0) (q_d dX5_isSetting_0 5 rfl) rfl (by decide) ?_
    refine T.zret (q_d dX5_isSetting_0 6 rfl) rfl (by decide) rfl rfl ?_
    refine ⟨rfl, ?_⟩
    by_cases a1 : inS u 0 2 = true
    · rw [if_pos a1] at h6; exact absurd h6 (by decide)
    · rw [if_neg (fun q => a1 (e1.mpr ⟨Nat.zero_le _, q.1⟩))]
theorem c_forgetTables : Ct l hdX kX mX5_forgetTables [.ref 0] M (fun v M' => v = none ∧ M' = qI (qI (qI M 0 8 0) 0 9 0) 0 10 0) := by
  refine Ct.of [some (.ref 0)] (by decide +kernel) (fun h => absurd h (by decide)) (Nat.le_of_ble_eq_true rfl) rfl ?_
  refine T.aload_n (pc' := 1) (q_d dX5_forgetTables_0 0 rfl) rfl rfl rfl ?_
  refine T.iconst (pc' := 2) (v := nI 0) (q_d dX5_forgetTables_0 1 rfl) rfl (by decide) ?_
  refine T.putI (pc' := 5) (ci := 5) (k0 := 8) (q_d dX5_forgetTables_0 2 rfl) rfl rfl (by decide) rfl inX5 tyX5 tyX5_ok nmX5 (by decide) rfl wF_X5_245 rfl (by decide) (by decide) ?_
  refine T.aload_n (pc' := 6) (q_d dX5_forgetTables_0 3 rfl) rfl rfl rfl ?_
  refine T.iconst (pc' := 7) (v := nI 0) (q_d dX5_forgetTables_0 4 rfl) rfl (by decide) ?_
  refine T.putI (pc' := 10) (ci := 5) (k0 := 9) (q_d dX5_forgetTables_0 5 rfl) rfl rfl (by decide) rfl inX5 tyX5 tyX5_ok nmX5 (by decide) rfl wF_X5_249 rfl (by decide) (by decide) ?_
  refine T.aload_n (pc' := 11) (q_d dX5_forgetTables_0 6 rfl) rfl rfl rfl ?_
  refine T.iconst (pc' := 12) (v := nI 0) (q_d dX5_forgetTables_0 7 rfl) rfl (by decide) ?_
  refine T.putI (pc' := 15) (ci := 5) (k0 := 10) (q_d dX5_forgetTables_0 8 rfl) rfl rfl (by decide) rfl inX5 tyX5 tyX5_ok nmX5 (by decide) rfl wF_X5_252 rfl (by decide) (by decide) ?_
  refine T.vret (q_d dX5_forgetTables_0 9 rfl) rfl rfl rfl ?_
  exact ⟨rfl, rfl⟩
theorem c_dropOldest (hP : M.2.2 = pX pa sw) (hpa : PaOk pa) : Ct l hdX kX mX5_dropOldest [.ref 0] M (fun v M' => v = none ∧ M'.1 = (qI M 0 3 3).1 ∧ M'.2.1 = M.2.1 ∧ M'.2.2 = pX (fun i => pa ((i + 1) % 4)) sw) := by
  refine Ct.of [some (.ref 0), none, none] (by decide +kernel) (fun h => absurd h (by decide)) (Nat.le_of_ble_eq_true rfl) rfl ?_
  have hp17 : ∀ j, M.2.2 17 j = if j < 4 then some (pa j) else none := fun j => by rw [hP]; rfl
  have fin : ∀ (M' : qM), (∀ a, a ≠ 17 → M'.2.2 a = M.2.2 a) → (∀ j, M'.2.2 17 j = if j < 4 then some (pa ((j + 1) % 4)) else none) → M'.2.2 = pX (fun i => pa ((i + 1) % 4)) sw := by
    intro M' ha hj
    funext a j
    by_cases e : a = 17
    · subst e; rw [hj]; rfl
    · rw [ha a e, hP]
      unfold pX
      split <;> first | rfl | exact absurd rfl e
  have loop : ∀ d i (M' : qM), i + d = 4 → 1 ≤ i → M'.1 = M.1 → M'.2.1 = M.2.1 → (∀ a, a ≠ 17 → M'.2.2 a = M.2.2 a) → (∀ j, M'.2.2 17 j = if j < 4 then some (if j + 1 < i then pa (j + 1) else pa j) else none) →
      T l hdX kX mX5_dropOldest (fun v M' => v = none ∧ M'.1 = (qI M 0 3 3).1 ∧ M'.2.1 = M.2.1 ∧ M'.2.2 = pX (fun i => pa ((i + 1) % 4)) sw) 0 0 9 [some (.ref 0), some (.ref (pa 0)), some (.int (nI i))] [] M' := by
    intro d
    induction d with
    | zero =>
      intro i M' hi hi1 h1 h2 ha hj
      have e : i = 4 := by omega
      subst e
      have hp2 : M'.2.2 0 2 = some 17 := by rw [ha 0 (by decide), hP]; rfl
      refine T.iload_n (pc' := 10) (q_d dX5_dropOldest_0 7 rfl) rfl rfl rfl ?_
      refine T.iconst (pc' := 11) (v := nI 4) (q_d dX5_dropOldest_0 8 rfl) rfl (by decide) ?_
      refine T.icmp_geN (tgt := 34) (pc' := 14) (q_d dX5_dropOldest_0 9 rfl) rfl (by decide) (by omega) (by omega) (fun h11 => ?_) (fun h11 => ?_)
      · refine T.aload_n (pc' := 35) (q_d dX5_dropOldest_0 22 rfl) rfl rfl rfl ?_
        refine T.getR (pc' := 38) (ci := 5) (k0 := 2) (q_d dX5_dropOldest_0 23 rfl) rfl rfl (by decide) rfl inX5 (by decide) rfl wF_X5_19 hp2 ?_
        refine T.iconst (pc' := 39) (v := nI 3) (q_d dX5_dropOldest_0 24 rfl) rfl (by decide) ?_
        refine T.aload_n (pc' := 40) (q_d dX5_dropOldest_0 25 rfl) rfl rfl rfl ?_
        refine T.qast (pc' := 41) (q_d dX5_dropOldest_0 26 rfl) rfl rfl (by decide) rfl (by omega) (by decide) (show pa 0 < 71 by have := SO.lt (hpa.so (show 0 < 4 by decide)); omega) (SO.o (hpa.so (show 0 < 4 by decide))) rfl rfl ?_
        refine T.aload_n (pc' := 42) (q_d dX5_dropOldest_0 27 rfl) rfl rfl rfl ?_
        refine T.iconst (pc' := 43) (v := nI 3) (q_d dX5_dropOldest_0 28 rfl) rfl (by decide) ?_
        refine T.putI (pc' := 46) (ci := 5) (k0 := 3) (q_d dX5_dropOldest_0 29 rfl) rfl rfl (by decide) rfl inX5 tyX5 tyX5_ok nmX5 (by decide) rfl wF_X5_219 rfl rfl rfl ?_
        refine T.vret (q_d dX5_dropOldest_0 30 rfl) rfl rfl rfl ?_
        refine ⟨rfl, by simp only [qI, qR, h1], h2, fin _ (fun a h9 => ?_) (fun j => ?_)⟩
        · funext j; simp only [qI, qR]; rw [if_neg (fun q => h9 q.1), ha a h9]
        · simp only [qI, qR, true_and]
          by_cases e3 : j = 3
          · subst e3; simp
          · rw [if_neg e3, hj]
            by_cases e4 : j < 4
            · rw [if_pos e4, if_pos e4, if_pos (by omega), show (j + 1) % 4 = j + 1 by omega]
            · rw [if_neg e4, if_neg e4]
      · exact absurd h11 (by omega)
    | succ d ih =>
      intro i M' hi hi1 h1 h2 ha hj
      have hp2 : M'.2.2 0 2 = some 17 := by rw [ha 0 (by decide), hP]; rfl
      have hi4 : i < 4 := by omega
      have hx : M'.2.2 17 i = some (pa i) := by rw [hj, if_pos hi4, if_neg (by omega)]
      refine T.iload_n (pc' := 10) (q_d dX5_dropOldest_0 7 rfl) rfl rfl rfl ?_
      refine T.iconst (pc' := 11) (v := nI 4) (q_d dX5_dropOldest_0 8 rfl) rfl (by decide) ?_
      refine T.icmp_geN (tgt := 34) (pc' := 14) (q_d dX5_dropOldest_0 9 rfl) rfl (by decide) (by omega) (by omega) (fun h11 => ?_) (fun h11 => ?_)
      · exact absurd h11 (by omega)
      · refine T.aload_n (pc' := 15) (q_d dX5_dropOldest_0 10 rfl) rfl rfl rfl ?_
        refine T.getR (pc' := 18) (ci := 5) (k0 := 2) (q_d dX5_dropOldest_0 11 rfl) rfl rfl (by decide) rfl inX5 (by decide) rfl wF_X5_19 hp2 ?_
        refine T.iload_n (pc' := 19) (q_d dX5_dropOldest_0 12 rfl) rfl rfl rfl ?_
        refine T.iconst (pc' := 20) (v := nI 1) (q_d dX5_dropOldest_0 13 rfl) rfl (by decide) ?_
        refine T.isub (pc' := 21) (q_d dX5_dropOldest_0 14 rfl) rfl (nN_sub (by omega)) ?_
        refine T.aload_n (pc' := 22) (q_d dX5_dropOldest_0 15 rfl) rfl rfl rfl ?_
        refine T.getR (pc' := 25) (ci := 5) (k0 := 2) (q_d dX5_dropOldest_0 16 rfl) rfl rfl (by decide) rfl inX5 (by decide) rfl wF_X5_19 hp2 ?_
        refine T.iload_n (pc' := 26) (q_d dX5_dropOldest_0 17 rfl) rfl rfl rfl ?_
        refine T.qald (pc' := 27) (q_d dX5_dropOldest_0 18 rfl) rfl (Or.inl rfl) rfl (by decide) rfl (by omega) (by decide) hx ?_
        refine T.qast (pc' := 28) (q_d dX5_dropOldest_0 19 rfl) rfl rfl (by decide) rfl (by omega) (by decide) (show pa i < 71 by have := SO.lt (hpa.so hi4); omega) (SO.o (hpa.so hi4)) rfl rfl ?_
        refine T.iinc (pc' := 31) (q_d dX5_dropOldest_0 20 rfl) rfl rfl (nN_p _ 1) (by decide) rfl rfl ?_
        refine T.goto (tgt := 9) (q_d dX5_dropOldest_0 21 rfl) (by decide) ?_
        refine ih (i + 1) _ (by omega) (by omega) h1 h2 (fun a h9 => ?_) (fun j => ?_)
        · funext j; simp only [qR]; rw [if_neg (fun q => h9 q.1), ha a h9]
        · simp only [qR, true_and]
          by_cases e3 : j = i - 1
          · subst e3
            rw [if_pos rfl, if_pos (by omega), if_pos (by omega), show i - 1 + 1 = i by omega]
          · rw [if_neg e3, hj]
            by_cases e4 : j < 4
            · rw [if_pos e4, if_pos e4]
              by_cases e5 : j + 1 < i
              · rw [if_pos e5, if_pos (by omega)]
              · rw [if_neg e5, if_neg (by omega)]
            · rw [if_neg e4, if_neg e4]
  refine T.aload_n (pc' := 1) (q_d dX5_dropOldest_0 0 rfl) rfl rfl rfl ?_
  refine T.getR (pc' := 4) (ci := 5) (k0 := 2) (q_d dX5_dropOldest_0 1 rfl) rfl rfl (by decide) rfl inX5 (by decide) rfl wF_X5_19 (rP hP rfl) ?_
  refine T.iconst (pc' := 5) (v := nI 0) (q_d dX5_dropOldest_0 2 rfl) rfl (by decide) ?_
  refine T.qald (pc' := 6) (q_d dX5_dropOldest_0 3 rfl) rfl (Or.inl rfl) rfl (by decide) rfl (by omega) (by decide) (rP hP rfl) ?_
  refine T.astore_n (pc' := 7) (q_d dX5_dropOldest_0 4 rfl) rfl rfl (by decide) rfl rfl ?_
  refine T.iconst (pc' := 8) (v := nI 1) (q_d dX5_dropOldest_0 5 rfl) rfl (by decide) ?_
  refine T.istore_n (pc' := 9) (q_d dX5_dropOldest_0 6 rfl) rfl rfl (by decide) rfl rfl ?_
  exact loop 3 1 M (by omega) (by decide) rfl rfl (fun _ _ => rfl) (fun j => by rw [hp17]; by_cases e : j < 4; rw [if_pos e, if_pos e, if_neg (by omega)]; rw [if_neg e, if_neg e])
def pushK (k : Nat) : Nat := if k = 4 then 4 else k + 1
def pushW (k : Nat) (was : Nat → Nat → Nat) (s : Nat → Nat) : Nat → Nat → Nat := if k = 4 then (fun i => if i < 3 then was (i + 1) else s) else (fun i => if i = k then s else was i)
theorem PaOk.rot {pa : Nat → Nat} (h : PaOk pa) : PaOk (fun i => pa ((i + 1) % 4)) :=
  ⟨fun i _ => h.1 _ (Nat.mod_lt _ (by decide)), fun i j hi hj e => by have := h.2 _ _ (Nat.mod_lt _ (by decide)) (Nat.mod_lt _ (by decide)) e; omega⟩
theorem RX.rec {M M' : qM} {pa' : Nat → Nat} {k' : Nat} {was' : Nat → Nat → Nat} (q : RX M b s k was n t pa sw) (hP : M'.2.2 = pX pa' sw) (hpa : PaOk pa') (ha : ∀ a, a ≠ 0 → a < 39 → M'.1 a = M.1 a) (h0 : ∀ j, j ≠ 3 → M'.1 0 j = M.1 0 j) (hk : M'.1 0 3 = k') (hk4 : k' ≤ 4) (hh : ∀ i, i < k' → RS M' (pa' i) (was' i) ∧ WF b (was' i)) : RX M' b s k' was' n t pa' sw := by
  obtain ⟨q1, q2, q3, q4, q5, q6, q7, q8, q9, q10⟩ := q
  exact ⟨hP, hpa, q3.mono (fun a a1 a2 => ha a (by omega) (by omega)), q4, hk, hk4, hh, ⟨by rw [ha 18 (by decide) (by decide)]; exact q8.1, fun i hi => by rw [ha 19 (by decide) (by decide)]; exact q8.2 i hi⟩, q9, q10.mono ⟨h0 8 (by decide), h0 9 (by decide), h0 10 (by decide)⟩ (fun a a1 a2 => ha a (by omega) (by omega))⟩
theorem c_record (hX : RX M b s k was n t pa sw) : Ct l hdX kX mX5_record [.ref 0] M (fun v M' => v = none ∧ (∃ pa', RX M' b s (pushK k) (pushW k was s) n t pa' sw) ∧ M'.2.1 = M.2.1 ∧ (∀ a, a ≠ 0 → a < 39 → M'.1 a = M.1 a) ∧ ∀ j, j ≠ 3 → M'.1 0 j = M.1 0 j) := by
  refine Ct.of [some (.ref 0)] (by decide +kernel) (fun h => absurd h (by decide)) (Nat.le_of_ble_eq_true rfl) rfl ?_
  have hX0 := hX
  obtain ⟨q1, q2, q3, q4, q5, q6, q7, q8, q9, q10⟩ := hX
  by_cases h4 : k = 4
  · have hge0 := q2.ge (show 0 < 4 by decide)
    refine T.aload_n (pc' := 1) (q_d dX5_record_0 0 rfl) rfl rfl rfl ?_
    refine T.getI (pc' := 4) (ci := 5) (k0 := 3) (q_d dX5_record_0 1 rfl) rfl rfl (by decide) rfl inX5 (by decide) rfl wF_X5_219 q5 ?_
    refine T.iconst (pc' := 5) (v := nI 4) (q_d dX5_record_0 2 rfl) rfl (by decide) ?_
    refine T.icmp_ltN (tgt := 12) (pc' := 8) (q_d dX5_record_0 3 rfl) rfl (by decide) (by omega) (by omega) (fun h5 => ?_) (fun h5 => ?_)
    · exact absurd h5 (by omega)
    · refine T.aload_n (pc' := 9) (q_d dX5_record_0 4 rfl) rfl rfl rfl ?_
      refine T.callV (pc' := 12) (ci := 5) (q_d dX5_record_0 5 rfl) rfl uX5_dropOldest wM_X5_242 (c_dropOldest q1 q2) rfl rfl (by decide) rfl rfl (by decide) (Nat.le_of_ble_eq_true rfl) rfl rfl (fun _ => rfl) ?_
      rintro _ M2 ⟨rfl, f1, f2, f3⟩
      have q3' : RS M2 1 s := q3.mono (fun a a1 a2 => by rw [f1]; funext j; exact qI_ne (Or.inl (by omega)))
      dsimp only [Option.toList, List.cons_append, List.nil_append, List.append_nil]
      refine T.aload_n (pc' := 13) (q_d dX5_record_0 6 rfl) rfl rfl rfl ?_
      refine T.getR (pc' := 16) (ci := 5) (k0 := 2) (q_d dX5_record_0 7 rfl) rfl rfl (by decide) rfl inX5 (by decide) rfl wF_X5_19 (rP f3 rfl) ?_
      refine T.aload_n (pc' := 17) (q_d dX5_record_0 8 rfl) rfl rfl rfl ?_
      refine T.getI (pc' := 20) (ci := 5) (k0 := 3) (q_d dX5_record_0 9 rfl) rfl rfl (by decide) rfl inX5 (by decide) rfl wF_X5_219 (show M2.1 0 3 = 3 by rw [f1]; exact qI_eq) ?_
      refine T.qald (pc' := 21) (q_d dX5_record_0 10 rfl) rfl (Or.inl rfl) rfl (by decide) rfl (by omega) (by decide) (rP f3 rfl) ?_
      refine T.aload_n (pc' := 22) (q_d dX5_record_0 11 rfl) rfl rfl rfl ?_
      refine T.getR (pc' := 25) (ci := 5) (k0 := 0) (q_d dX5_record_0 12 rfl) rfl rfl (by decide) rfl inX5 (by decide) rfl wF_X5_10 (rP f3 rfl) ?_
      refine T.callV (pc' := 28) (ci := 3) (q_d dX5_record_0 13 rfl) rfl uX3_takeFrom wM_X5_225 (c_takeFrom (q2.so (show 0 < 4 by decide)) (Or.inl rfl) (show pa 0 + 8 ≤ 1 ∨ 1 + 8 ≤ pa 0 from Or.inr (by omega)) f3 q3') rfl rfl (Nat.lt_of_le_of_lt (Nat.le_add_right _ _) (SO.lt (q2.so (show 0 < 4 by decide)))) (SO.o (q2.so (show 0 < 4 by decide))) rfl (by decide) (Nat.le_of_ble_eq_true rfl) rfl rfl (fun _ => rfl) ?_
      rintro _ M3 ⟨rfl, g1, g2⟩
      dsimp only [Option.toList, List.cons_append, List.nil_append, List.append_nil]
      refine T.aload_n (pc' := 29) (q_d dX5_record_0 14 rfl) rfl rfl rfl ?_
      refine T.dup (pc' := 30) (q_d dX5_record_0 15 rfl) rfl rfl ?_
      refine T.getI (pc' := 33) (ci := 5) (k0 := 3) (q_d dX5_record_0 16 rfl) rfl rfl (by decide) rfl inX5 (by decide) rfl wF_X5_219 (show M3.1 0 3 = 3 by rw [g2.2 0 (Or.inl (by omega)), f1]; exact qI_eq) ?_
      refine T.iconst (pc' := 34) (v := nI 1) (q_d dX5_record_0 17 rfl) rfl (by decide) ?_
      refine T.iadd (pc' := 35) (q_d dX5_record_0 18 rfl) rfl (nI_add _ _) ?_
      refine T.putI (pc' := 38) (ci := 5) (k0 := 3) (q_d dX5_record_0 19 rfl) rfl rfl (by decide) rfl inX5 tyX5 tyX5_ok nmX5 (by decide) rfl wF_X5_219 rfl rfl rfl ?_
      refine T.vret (q_d dX5_record_0 20 rfl) rfl rfl rfl ?_
      have hA : ∀ a, a ≠ 0 → (a < pa 0 ∨ pa 0 + 8 ≤ a) → (qI M3 0 3 (3 + 1)).1 a = M.1 a := fun a a1 a2 => by
        funext j
        rw [qI_ne (Or.inl a1), g2.2 a a2, f1, qI_ne (Or.inl a1)]
      have h0 : ∀ j, j ≠ 3 → (qI M3 0 3 (3 + 1)).1 0 j = M.1 0 j := fun j hj => by
        rw [qI_ne (Or.inr hj), g2.2 0 (Or.inl (by omega)), f1, qI_ne (Or.inr hj)]
      have hP3 : (qI M3 0 3 (3 + 1)).2.2 = pX (fun i => pa ((i + 1) % 4)) sw := by
        show M3.2.2 = _
        rw [g2.1]; exact f3
      refine ⟨rfl, ⟨_, hX0.rec hP3 q2.rot (fun a a1 a2 => hA a a1 (by omega)) h0 (k' := pushK k) (was' := pushW k was s) ?_ ?_ (fun i hi => ?_)⟩, ?_, fun a a1 a2 => hA a a1 (by omega), h0⟩
      · rw [qI_eq]; unfold pushK; rw [if_pos h4]
      · unfold pushK; rw [if_pos h4]; exact Nat.le_refl _
      · unfold pushK at hi
        rw [if_pos h4] at hi
        unfold pushW
        rw [if_pos h4]
        by_cases e : i < 3
        · show RS _ (pa ((i + 1) % 4)) (if i < 3 then was (i + 1) else s) ∧ _
          rw [if_pos e, show (i + 1) % 4 = i + 1 by omega]
          have h9 := q7 (i + 1) (by omega)
          have h8 := q2.ap (show i + 1 < 4 by omega) (show 0 < 4 by decide) (by omega)
          exact ⟨h9.1.mono (fun a a1 a2 => by have := q2.ge (show i + 1 < 4 by omega); exact hA a (by omega) (by omega)), h9.2⟩
        · show RS _ (pa ((i + 1) % 4)) (if i < 3 then was (i + 1) else s) ∧ _
          rw [if_neg e, show (i + 1) % 4 = 0 by omega]
          exact ⟨g1.mono (fun a a1 a2 => by funext j; exact qI_ne (Or.inl (by omega))), q4⟩
      · show M3.2.1 = M.2.1
        rw [g2.1]; exact f2
  · have hk4 : k < 4 := by omega
    have hgek := q2.ge hk4
    refine T.aload_n (pc' := 1) (q_d dX5_record_0 0 rfl) rfl rfl rfl ?_
    refine T.getI (pc' := 4) (ci := 5) (k0 := 3) (q_d dX5_record_0 1 rfl) rfl rfl (by decide) rfl inX5 (by decide) rfl wF_X5_219 q5 ?_
    refine T.iconst (pc' := 5) (v := nI 4) (q_d dX5_record_0 2 rfl) rfl (by decide) ?_
    refine T.icmp_ltN (tgt := 12) (pc' := 8) (q_d dX5_record_0 3 rfl) rfl (by decide) (by omega) (by omega) (fun h5 => ?_) (fun h5 => ?_)
    · refine T.aload_n (pc' := 13) (q_d dX5_record_0 6 rfl) rfl rfl rfl ?_
      refine T.getR (pc' := 16) (ci := 5) (k0 := 2) (q_d dX5_record_0 7 rfl) rfl rfl (by decide) rfl inX5 (by decide) rfl wF_X5_19 (rP q1 rfl) ?_
      refine T.aload_n (pc' := 17) (q_d dX5_record_0 8 rfl) rfl rfl rfl ?_
      refine T.getI (pc' := 20) (ci := 5) (k0 := 3) (q_d dX5_record_0 9 rfl) rfl rfl (by decide) rfl inX5 (by decide) rfl wF_X5_219 q5 ?_
      refine T.qald (pc' := 21) (q_d dX5_record_0 10 rfl) rfl (Or.inl rfl) rfl (by decide) rfl (by omega) (by decide) (rP q1 (if_pos hk4)) ?_
      refine T.aload_n (pc' := 22) (q_d dX5_record_0 11 rfl) rfl rfl rfl ?_
      refine T.getR (pc' := 25) (ci := 5) (k0 := 0) (q_d dX5_record_0 12 rfl) rfl rfl (by decide) rfl inX5 (by decide) rfl wF_X5_10 (rP q1 rfl) ?_
      refine T.callV (pc' := 28) (ci := 3) (q_d dX5_record_0 13 rfl) rfl uX3_takeFrom wM_X5_225 (c_takeFrom (q2.so hk4) (Or.inl rfl) (show pa k + 8 ≤ 1 ∨ 1 + 8 ≤ pa k from Or.inr (by omega)) q1 q3) rfl rfl (Nat.lt_of_le_of_lt (Nat.le_add_right _ _) (SO.lt (q2.so hk4))) (SO.o (q2.so hk4)) rfl (by decide) (Nat.le_of_ble_eq_true rfl) rfl rfl (fun _ => rfl) ?_
      rintro _ M3 ⟨rfl, g1, g2⟩
      dsimp only [Option.toList, List.cons_append, List.nil_append, List.append_nil]
      refine T.aload_n (pc' := 29) (q_d dX5_record_0 14 rfl) rfl rfl rfl ?_
      refine T.dup (pc' := 30) (q_d dX5_record_0 15 rfl) rfl rfl ?_
      refine T.getI (pc' := 33) (ci := 5) (k0 := 3) (q_d dX5_record_0 16 rfl) rfl rfl (by decide) rfl inX5 (by decide) rfl wF_X5_219 (show M3.1 0 3 = k by rw [g2.2 0 (Or.inl (by omega))]; exact q5) ?_
      refine T.iconst (pc' := 34) (v := nI 1) (q_d dX5_record_0 17 rfl) rfl (by decide) ?_
      refine T.iadd (pc' := 35) (q_d dX5_record_0 18 rfl) rfl (nI_add _ _) ?_
      refine T.putI (pc' := 38) (ci := 5) (k0 := 3) (q_d dX5_record_0 19 rfl) rfl rfl (by decide) rfl inX5 tyX5 tyX5_ok nmX5 (by decide) rfl wF_X5_219 rfl rfl rfl ?_
      refine T.vret (q_d dX5_record_0 20 rfl) rfl rfl rfl ?_
      have hA : ∀ a, a ≠ 0 → (a < pa k ∨ pa k + 8 ≤ a) → (qI M3 0 3 (k + 1)).1 a = M.1 a := fun a a1 a2 => by
        funext j
        rw [qI_ne (Or.inl a1), g2.2 a a2]
      have h0 : ∀ j, j ≠ 3 → (qI M3 0 3 (k + 1)).1 0 j = M.1 0 j := fun j hj => by
        rw [qI_ne (Or.inr hj), g2.2 0 (Or.inl (by omega))]
      have hP3 : (qI M3 0 3 (k + 1)).2.2 = pX pa sw := by
        show M3.2.2 = _
        rw [g2.1]; exact q1
      refine ⟨rfl, ⟨_, hX0.rec hP3 q2 (fun a a1 a2 => hA a a1 (by omega)) h0 (k' := pushK k) (was' := pushW k was s) ?_ ?_ (fun i hi => ?_)⟩, ?_, fun a a1 a2 => hA a a1 (by omega), h0⟩
      · rw [qI_eq]; unfold pushK; rw [if_neg h4]
      · unfold pushK; rw [if_neg h4]; omega
      · unfold pushK at hi
        rw [if_neg h4] at hi
        unfold pushW
        rw [if_neg h4]
        by_cases e : i = k
        · subst e
          show RS _ (pa i) (if i = i then s else was i) ∧ _
          rw [if_pos rfl]
          exact ⟨g1.mono (fun a a1 a2 => by funext j; exact qI_ne (Or.inl (by omega))), q4⟩
        · show RS _ (pa i) (if i = k then s else was i) ∧ _
          rw [if_neg e]
          have h9 := q7 i (by omega)
          have h8 := q2.ap (show i < 4 by omega) hk4 e
          exact ⟨h9.1.mono (fun a a1 a2 => by have := q2.ge (show i < 4 by omega); exact hA a (by omega) (by omega)), h9.2⟩
      · show M3.2.1 = M.2.1
        rw [g2.1]
    · exact absurd h5 (by omega)
theorem c_standingMoves (hX : RX M b s k was n t pa sw) : Ct l hdX kX mX5_standingMoves [.ref 0] M (fun v M' => v = some (.ref 20) ∧ M'.1 0 8 = 1 ∧ M'.1 0 9 = M.1 0 9 ∧ M'.1 0 10 = M.1 0 10 ∧ (∀ a, 28 < a → M'.1 a = M.1 a) ∧ FrT M M' ∧ Tb M' s) := by
  refine Ct.of [some (.ref 0)] (by decide +kernel) (fun h => absurd h (by decide)) (Nat.le_of_ble_eq_true rfl) rfl ?_
  obtain ⟨q1, q2, q3, q4, q5, q6, q7, q8, q9, q10⟩ := hX
  have z1 := q10.1
  refine T.aload_n (pc' := 1) (q_d dX5_standingMoves_0 0 rfl) rfl rfl rfl ?_
  refine T.getI (pc' := 4) (ci := 5) (k0 := 8) (q_d dX5_standingMoves_0 1 rfl) rfl rfl (by decide) rfl inX5 (by decide) rfl wF_X5_245 rfl ?_
  refine T.if_neN (tgt := 23) (pc' := 7) (q_d dX5_standingMoves_0 2 rfl) rfl (by decide) (by omega) (fun h4 => ?_) (fun h4 => ?_)
  · refine T.aload_n (pc' := 24) (q_d dX5_standingMoves_0 11 rfl) rfl rfl rfl ?_
    refine T.getR (pc' := 27) (ci := 5) (k0 := 5) (q_d dX5_standingMoves_0 12 rfl) rfl rfl (by decide) rfl inX5 (by decide) rfl wF_X5_33 (by first | exact rP q1' rfl | exact rP q1 rfl) ?_
    refine T.aret (q_d dX5_standingMoves_0 13 rfl) rfl rfl rfl ?_
    first
      | (have h8 : M.1 0 8 = 1 := by omega
         exact ⟨rfl, h8, rfl, rfl, fun _ _ => rfl, FrT.refl, q10⟩)
      | (refine ⟨rfl, qI_eq, ?_, ?_, fun a a1 => ?_, ⟨f1, fun a a1 a2 => ?_, fun j hj => ?_⟩, ?_⟩
         · rw [qI_ne (Or.inr (by decide)), f2 0 (by omega)]
         · rw [qI_ne (Or.inr (by decide)), f2 0 (by omega)]
         · funext j; rw [qI_ne (Or.inl (by omega)), f2 a (by omega)]
         · funext j; rw [qI_ne (Or.inl a1), f2 a (by omega)]
         · rw [qI_ne (Or.inr (by omega)), f2 0 (by omega)]
         · obtain ⟨t1, t2, t3, t4, t5, t6, t7, t8, t9, t10, -⟩ := q10
           have e9 : (qI M2 0 8 1).1 0 9 = M.1 0 9 := by rw [qI_ne (Or.inr (by decide)), f2 0 (by omega)]
           have e10 : (qI M2 0 8 1).1 0 10 = M.1 0 10 := by rw [qI_ne (Or.inr (by decide)), f2 0 (by omega)]
           have hr : ∀ a, 28 < a → (qI M2 0 8 1).1 a = M.1 a := fun a a1 => by funext j; rw [qI_ne (Or.inl (by omega)), f2 a (by omega)]
           refine ⟨by rw [qI_eq]; decide, by rw [e9]; exact t2, by rw [e10]; exact t3, fun _ => f3.mono (fun a a1 a2 => by funext j; exact qI_ne (Or.inl (by omega))), fun e => ?_, fun e => ?_, by rw [hr 29 (by decide)]; exact t7, by rw [hr 29 (by decide)]; exact t8, by rw [hr 32 (by decide)]; exact t9, by rw [hr 32 (by decide)]; exact t10, fun g hg => by rw [qI_ne (Or.inl (by omega))]; exact f3.zero g hg⟩
           · rw [e9] at e; exact absurd (t5 e).1 (by omega)
           · rw [e10] at e; exact absurd (t6 e).1 (by omega))
  · refine T.aload_n (pc' := 8) (q_d dX5_standingMoves_0 3 rfl) rfl rfl rfl ?_
    refine T.getR (pc' := 11) (ci := 5) (k0 := 5) (q_d dX5_standingMoves_0 4 rfl) rfl rfl (by decide) rfl inX5 (by decide) rfl wF_X5_33 (rP q1 rfl) ?_
    refine T.aload_n (pc' := 12) (q_d dX5_standingMoves_0 5 rfl) rfl rfl rfl ?_
    refine T.getR (pc' := 15) (ci := 5) (k0 := 0) (q_d dX5_standingMoves_0 6 rfl) rfl rfl (by decide) rfl inX5 (by decide) rfl wF_X5_10 (rP q1 rfl) ?_
    refine T.callV (pc' := 18) (ci := 1) (q_d dX5_standingMoves_0 7 rfl) rfl uX1_build wM_X5_255 (c_build q1 q3 q4 q10.2.2.2.2.2.2.2.2.2.2) rfl rfl (by decide) rfl rfl (by decide) (Nat.le_of_ble_eq_true rfl) rfl rfl (fun _ => rfl) ?_
    rintro _ M2 ⟨rfl, f1, f2, f3⟩
    have q1' : M2.2.2 = pX pa sw := by rw [f1]; exact q1
    dsimp only [Option.toList, List.cons_append, List.nil_append, List.append_nil]
    refine T.aload_n (pc' := 19) (q_d dX5_standingMoves_0 8 rfl) rfl rfl rfl ?_
    refine T.iconst (pc' := 20) (v := nI 1) (q_d dX5_standingMoves_0 9 rfl) rfl (by decide) ?_
    refine T.putI (pc' := 23) (ci := 5) (k0 := 8) (q_d dX5_standingMoves_0 10 rfl) rfl rfl (by decide) rfl inX5 tyX5 tyX5_ok nmX5 (by decide) rfl wF_X5_245 rfl (by decide) (by decide) ?_
    refine T.aload_n (pc' := 24) (q_d dX5_standingMoves_0 11 rfl) rfl rfl rfl ?_
    refine T.getR (pc' := 27) (ci := 5) (k0 := 5) (q_d dX5_standingMoves_0 12 rfl) rfl rfl (by decide) rfl inX5 (by decide) rfl wF_X5_33 (by first | exact rP q1' rfl | exact rP q1 rfl) ?_
    refine T.aret (q_d dX5_standingMoves_0 13 rfl) rfl rfl rfl ?_
    first
      | (have h8 : M.1 0 8 = 1 := by omega
         exact ⟨rfl, h8, rfl, rfl, fun _ _ => rfl, FrT.refl, q10⟩)
      | (refine ⟨rfl, qI_eq, ?_, ?_, fun a a1 => ?_, ⟨f1, fun a a1 a2 => ?_, fun j hj => ?_⟩, ?_⟩
         · rw [qI_ne (Or.inr (by decide)), f2 0 (by omega)]
         · rw [qI_ne (Or.inr (by decide)), f2 0 (by omega)]
         · funext j; rw [qI_ne (Or.inl (by omega)), f2 a (by omega)]
         · funext j; rw [qI_ne (Or.inl a1), f2 a (by omega)]
         · rw [qI_ne (Or.inr (by omega)), f2 0 (by omega)]
         · obtain ⟨t1, t2, t3, t4, t5, t6, t7, t8, t9, t10, -⟩ := q10
           have e9 : (qI M2 0 8 1).1 0 9 = M.1 0 9 := by rw [qI_ne (Or.inr (by decide)), f2 0 (by omega)]
           have e10 : (qI M2 0 8 1).1 0 10 = M.1 0 10 := by rw [qI_ne (Or.inr (by decide)), f2 0 (by omega)]
           have hr : ∀ a, 28 < a → (qI M2 0 8 1).1 a = M.1 a := fun a a1 => by funext j; rw [qI_ne (Or.inl (by omega)), f2 a (by omega)]
           refine ⟨by rw [qI_eq]; decide, by rw [e9]; exact t2, by rw [e10]; exact t3, fun _ => f3.mono (fun a a1 a2 => by funext j; exact qI_ne (Or.inl (by omega))), fun e => ?_, fun e => ?_, by rw [hr 29 (by decide)]; exact t7, by rw [hr 29 (by decide)]; exact t8, by rw [hr 32 (by decide)]; exact t9, by rw [hr 32 (by decide)]; exact t10, fun g hg => by rw [qI_ne (Or.inl (by omega))]; exact f3.zero g hg⟩
           · rw [e9] at e; exact absurd (t5 e).1 (by omega)
           · rw [e10] at e; exact absurd (t6 e).1 (by omega))
theorem c_standingHearing (hX : RX M b s k was n t pa sw) : Ct l hdX kX mX5_standingHearing [.ref 0] M (fun v M' => v = some (.ref 29) ∧ M'.1 0 8 = 1 ∧ M'.1 0 9 = 1 ∧ FrT M M' ∧ Tb M' s) := by
  refine Ct.of [some (.ref 0)] (by decide +kernel) (fun h => absurd h (by decide)) (Nat.le_of_ble_eq_true rfl) rfl ?_
  have hX0 := hX
  obtain ⟨q1, q2, q3, q4, q5, q6, q7, q8, q9, q10⟩ := hX
  have z1 := q10.2.1
  have hho : HO 29 0 3 := Or.inl ⟨rfl, rfl, rfl⟩
  refine T.aload_n (pc' := 1) (q_d dX5_standingHearing_0 0 rfl) rfl rfl rfl ?_
  refine T.getI (pc' := 4) (ci := 5) (k0 := 9) (q_d dX5_standingHearing_0 1 rfl) rfl rfl (by decide) rfl inX5 (by decide) rfl wF_X5_249 rfl ?_
  refine T.if_neN (tgt := 23) (pc' := 7) (q_d dX5_standingHearing_0 2 rfl) rfl (by decide) (by omega) (fun h4 => ?_) (fun h4 => ?_)
  · refine T.aload_n (pc' := 24) (q_d dX5_standingHearing_0 11 rfl) rfl rfl rfl ?_
    refine T.getR (pc' := 27) (ci := 5) (k0 := 6) (q_d dX5_standingHearing_0 12 rfl) rfl rfl (by decide) rfl inX5 (by decide) rfl wF_X5_42 (by first | exact rP qM3 rfl | exact rP q1 rfl) ?_
    refine T.aret (q_d dX5_standingHearing_0 13 rfl) rfl rfl rfl ?_
    first
      | (have h8 : M.1 0 9 = 1 := by omega
         exact ⟨rfl, (q10.2.2.2.2.1 h8).1, h8, FrT.refl, q10⟩)
      | (have hr : ∀ a, a ≠ 0 → a ≠ 30 → a ≠ 31 → (qI M3 0 9 1).1 a = M2.1 a := fun a a1 a2 a3 => by funext j; rw [qI_ne (Or.inl a1), r3 a a2 a3]
         have h0 : ∀ j, j ≠ 9 → (qI M3 0 9 1).1 0 j = M2.1 0 j := fun j hj => by rw [qI_ne (Or.inr hj), r3 0 (by decide) (by decide)]
         obtain ⟨t1, t2, t3, t4, t5, t6, t7, t8, t9, t10, t11⟩ := hTb
         refine ⟨rfl, (h0 8 (by decide)).trans e8, qI_eq, fT.trans ⟨r2, fun a a1 a2 => hr a a1 (by omega) (by omega), fun j hj => h0 j (by omega)⟩, ?_⟩
         refine ⟨by rw [h0 8 (by decide)]; exact t1, ?_, ?_, fun _ => (t4 e8).mono (fun a a1 a2 => hr a (by omega) (by omega) (by omega)), fun e => ⟨(h0 8 (by decide)).trans e8, ?_⟩, fun e => ⟨(h0 8 (by decide)).trans e8, ?_⟩, by rw [hr 29 (by decide) (by decide) (by decide)]; exact t7, by rw [hr 29 (by decide) (by decide) (by decide)]; exact t8, by rw [hr 32 (by decide) (by decide) (by decide)]; exact t9, by rw [hr 32 (by decide) (by decide) (by decide)]; exact t10, fun g hg => by rw [hr (22 + g) (by omega) (by omega) (by omega)]; exact t11 g hg⟩
         · first | (rw [qI_eq]; decide) | (rw [h0 9 (by decide)]; exact t2)
         · first | (rw [qI_eq]; decide) | (rw [h0 10 (by decide)]; exact t3)
         · first
             | exact r1.mono (by funext j; exact qI_ne (Or.inl (by decide))) (by funext j; exact qI_ne (Or.inl (by decide)))
             | (rw [h0 9 (by decide)] at e; exact (t5 e).2.mono (hr 30 (by decide) (by decide) (by decide)) (hr 31 (by decide) (by decide) (by decide)))
         · first
             | exact r1.mono (by funext j; exact qI_ne (Or.inl (by decide))) (by funext j; exact qI_ne (Or.inl (by decide)))
             | (rw [h0 10 (by decide)] at e; exact (t6 e).2.mono (hr 33 (by decide) (by decide) (by decide)) (hr 34 (by decide) (by decide) (by decide))))
  · refine T.aload_n (pc' := 8) (q_d dX5_standingHearing_0 3 rfl) rfl rfl rfl ?_
    refine T.getR (pc' := 11) (ci := 5) (k0 := 6) (q_d dX5_standingHearing_0 4 rfl) rfl rfl (by decide) rfl inX5 (by decide) rfl wF_X5_42 (rP q1 rfl) ?_
    refine T.aload_n (pc' := 12) (q_d dX5_standingHearing_0 5 rfl) rfl rfl rfl ?_
    refine T.callV (pc' := 15) (ci := 5) (q_d dX5_standingHearing_0 6 rfl) rfl uX5_standingMoves wM_X5_129 (c_standingMoves hX0) rfl rfl (by decide) rfl rfl (by decide) (Nat.le_of_ble_eq_true rfl) rfl rfl (fun _ => rfl) ?_
    rintro _ M2 ⟨rfl, e8, e9, e10, f28, fT, hTb⟩
    have qM : M2.2.2 = pX pa sw := by rw [fT.1]; exact q1
    dsimp only [Option.toList, List.cons_append, List.nil_append, List.append_nil]
    refine T.callV (pc' := 18) (ci := 0) (q_d dX5_standingHearing_0 7 rfl) rfl uX0_solve wM_X5_258 (c_solve hho qM q4 (hTb.2.2.2.1 e8) (show M2.1 29 2 = 0 from hTb.2.2.2.2.2.2.1) (show M2.1 29 3 = 3 from hTb.2.2.2.2.2.2.2.1)) rfl rfl (by decide) rfl rfl (by decide) (Nat.le_of_ble_eq_true rfl) rfl rfl (fun _ => rfl) ?_
    rintro _ M3 ⟨rfl, r1, r2, r3⟩
    have qM3 : M3.2.2 = pX pa sw := by rw [r2]; exact qM
    dsimp only [Option.toList, List.cons_append, List.nil_append, List.append_nil]
    refine T.aload_n (pc' := 19) (q_d dX5_standingHearing_0 8 rfl) rfl rfl rfl ?_
    refine T.iconst (pc' := 20) (v := nI 1) (q_d dX5_standingHearing_0 9 rfl) rfl (by decide) ?_
    refine T.putI (pc' := 23) (ci := 5) (k0 := 9) (q_d dX5_standingHearing_0 10 rfl) rfl rfl (by decide) rfl inX5 tyX5 tyX5_ok nmX5 (by decide) rfl wF_X5_249 rfl (by decide) (by decide) ?_
    refine T.aload_n (pc' := 24) (q_d dX5_standingHearing_0 11 rfl) rfl rfl rfl ?_
    refine T.getR (pc' := 27) (ci := 5) (k0 := 6) (q_d dX5_standingHearing_0 12 rfl) rfl rfl (by decide) rfl inX5 (by decide) rfl wF_X5_42 (by first | exact rP qM3 rfl | exact rP q1 rfl) ?_
    refine T.aret (q_d dX5_standingHearing_0 13 rfl) rfl rfl rfl ?_
    first
      | (have h8 : M.1 0 9 = 1 := by omega
         exact ⟨rfl, (q10.2.2.2.2.1 h8).1, h8, FrT.refl, q10⟩)
      | (have hr : ∀ a, a ≠ 0 → a ≠ 30 → a ≠ 31 → (qI M3 0 9 1).1 a = M2.1 a := fun a a1 a2 a3 => by funext j; rw [qI_ne (Or.inl a1), r3 a a2 a3]
         have h0 : ∀ j, j ≠ 9 → (qI M3 0 9 1).1 0 j = M2.1 0 j := fun j hj => by rw [qI_ne (Or.inr hj), r3 0 (by decide) (by decide)]
         obtain ⟨t1, t2, t3, t4, t5, t6, t7, t8, t9, t10, t11⟩ := hTb
         refine ⟨rfl, (h0 8 (by decide)).trans e8, qI_eq, fT.trans ⟨r2, fun a a1 a2 => hr a a1 (by omega) (by omega), fun j hj => h0 j (by omega)⟩, ?_⟩
         refine ⟨by rw [h0 8 (by decide)]; exact t1, ?_, ?_, fun _ => (t4 e8).mono (fun a a1 a2 => hr a (by omega) (by omega) (by omega)), fun e => ⟨(h0 8 (by decide)).trans e8, ?_⟩, fun e => ⟨(h0 8 (by decide)).trans e8, ?_⟩, by rw [hr 29 (by decide) (by decide) (by decide)]; exact t7, by rw [hr 29 (by decide) (by decide) (by decide)]; exact t8, by rw [hr 32 (by decide) (by decide) (by decide)]; exact t9, by rw [hr 32 (by decide) (by decide) (by decide)]; exact t10, fun g hg => by rw [hr (22 + g) (by omega) (by omega) (by omega)]; exact t11 g hg⟩
         · first | (rw [qI_eq]; decide) | (rw [h0 9 (by decide)]; exact t2)
         · first | (rw [qI_eq]; decide) | (rw [h0 10 (by decide)]; exact t3)
         · first
             | exact r1.mono (by funext j; exact qI_ne (Or.inl (by decide))) (by funext j; exact qI_ne (Or.inl (by decide)))
             | (rw [h0 9 (by decide)] at e; exact (t5 e).2.mono (hr 30 (by decide) (by decide) (by decide)) (hr 31 (by decide) (by decide) (by decide)))
         · first
             | exact r1.mono (by funext j; exact qI_ne (Or.inl (by decide))) (by funext j; exact qI_ne (Or.inl (by decide)))
             | (rw [h0 10 (by decide)] at e; exact (t6 e).2.mono (hr 33 (by decide) (by decide) (by decide)) (hr 34 (by decide) (by decide) (by decide))))
theorem c_standingUnhearing (hX : RX M b s k was n t pa sw) : Ct l hdX kX mX5_standingUnhearing [.ref 0] M (fun v M' => v = some (.ref 32) ∧ M'.1 0 8 = 1 ∧ M'.1 0 10 = 1 ∧ FrT M M' ∧ Tb M' s) := by
  refine Ct.of [some (.ref 0)] (by decide +kernel) (fun h => absurd h (by decide)) (Nat.le_of_ble_eq_true rfl) rfl ?_
  have hX0 := hX
  obtain ⟨q1, q2, q3, q4, q5, q6, q7, q8, q9, q10⟩ := hX
  have z1 := q10.2.2.1
  have hho : HO 32 4 4 := Or.inr ⟨rfl, rfl, rfl⟩
  refine T.aload_n (pc' := 1) (q_d dX5_standingUnhearing_0 0 rfl) rfl rfl rfl ?_
  refine T.getI (pc' := 4) (ci := 5) (k0 := 10) (q_d dX5_standingUnhearing_0 1 rfl) rfl rfl (by decide) rfl inX5 (by decide) rfl wF_X5_252 rfl ?_
  refine T.if_neN (tgt := 23) (pc' := 7) (q_d dX5_standingUnhearing_0 2 rfl) rfl (by decide) (by omega) (fun h4 => ?_) (fun h4 => ?_)
  · refine T.aload_n (pc' := 24) (q_d dX5_standingUnhearing_0 11 rfl) rfl rfl rfl ?_
    refine T.getR (pc' := 27) (ci := 5) (k0 := 7) (q_d dX5_standingUnhearing_0 12 rfl) rfl rfl (by decide) rfl inX5 (by decide) rfl wF_X5_46 (by first | exact rP qM3 rfl | exact rP q1 rfl) ?_
    refine T.aret (q_d dX5_standingUnhearing_0 13 rfl) rfl rfl rfl ?_
    first
      | (have h8 : M.1 0 10 = 1 := by omega
         exact ⟨rfl, (q10.2.2.2.2.2.1 h8).1, h8, FrT.refl, q10⟩)
      | (have hr : ∀ a, a ≠ 0 → a ≠ 33 → a ≠ 34 → (qI M3 0 10 1).1 a = M2.1 a := fun a a1 a2 a3 => by funext j; rw [qI_ne (Or.inl a1), r3 a a2 a3]
         have h0 : ∀ j, j ≠ 10 → (qI M3 0 10 1).1 0 j = M2.1 0 j := fun j hj => by rw [qI_ne (Or.inr hj), r3 0 (by decide) (by decide)]
         obtain ⟨t1, t2, t3, t4, t5, t6, t7, t8, t9, t10, t11⟩ := hTb
         refine ⟨rfl, (h0 8 (by decide)).trans e8, qI_eq, fT.trans ⟨r2, fun a a1 a2 => hr a a1 (by omega) (by omega), fun j hj => h0 j (by omega)⟩, ?_⟩
         refine ⟨by rw [h0 8 (by decide)]; exact t1, ?_, ?_, fun _ => (t4 e8).mono (fun a a1 a2 => hr a (by omega) (by omega) (by omega)), fun e => ⟨(h0 8 (by decide)).trans e8, ?_⟩, fun e => ⟨(h0 8 (by decide)).trans e8, ?_⟩, by rw [hr 29 (by decide) (by decide) (by decide)]; exact t7, by rw [hr 29 (by decide) (by decide) (by decide)]; exact t8, by rw [hr 32 (by decide) (by decide) (by decide)]; exact t9, by rw [hr 32 (by decide) (by decide) (by decide)]; exact t10, fun g hg => by rw [hr (22 + g) (by omega) (by omega) (by omega)]; exact t11 g hg⟩
         · first | (rw [qI_eq]; decide) | (rw [h0 9 (by decide)]; exact t2)
         · first | (rw [qI_eq]; decide) | (rw [h0 10 (by decide)]; exact t3)
         · first
             | exact r1.mono (by funext j; exact qI_ne (Or.inl (by decide))) (by funext j; exact qI_ne (Or.inl (by decide)))
             | (rw [h0 9 (by decide)] at e; exact (t5 e).2.mono (hr 30 (by decide) (by decide) (by decide)) (hr 31 (by decide) (by decide) (by decide)))
         · first
             | exact r1.mono (by funext j; exact qI_ne (Or.inl (by decide))) (by funext j; exact qI_ne (Or.inl (by decide)))
             | (rw [h0 10 (by decide)] at e; exact (t6 e).2.mono (hr 33 (by decide) (by decide) (by decide)) (hr 34 (by decide) (by decide) (by decide))))
  · refine T.aload_n (pc' := 8) (q_d dX5_standingUnhearing_0 3 rfl) rfl rfl rfl ?_
    refine T.getR (pc' := 11) (ci := 5) (k0 := 7) (q_d dX5_standingUnhearing_0 4 rfl) rfl rfl (by decide) rfl inX5 (by decide) rfl wF_X5_46 (rP q1 rfl) ?_
    refine T.aload_n (pc' := 12) (q_d dX5_standingUnhearing_0 5 rfl) rfl rfl rfl ?_
    refine T.callV (pc' := 15) (ci := 5) (q_d dX5_standingUnhearing_0 6 rfl) rfl uX5_standingMoves wM_X5_129 (c_standingMoves hX0) rfl rfl (by decide) rfl rfl (by decide) (Nat.le_of_ble_eq_true rfl) rfl rfl (fun _ => rfl) ?_
    rintro _ M2 ⟨rfl, e8, e9, e10, f28, fT, hTb⟩
    have qM : M2.2.2 = pX pa sw := by rw [fT.1]; exact q1
    dsimp only [Option.toList, List.cons_append, List.nil_append, List.append_nil]
    refine T.callV (pc' := 18) (ci := 0) (q_d dX5_standingUnhearing_0 7 rfl) rfl uX0_solve wM_X5_258 (c_solve hho qM q4 (hTb.2.2.2.1 e8) (show M2.1 32 2 = 4 from hTb.2.2.2.2.2.2.2.2.1) (show M2.1 32 3 = 4 from hTb.2.2.2.2.2.2.2.2.2.1)) rfl rfl (by decide) rfl rfl (by decide) (Nat.le_of_ble_eq_true rfl) rfl rfl (fun _ => rfl) ?_
    rintro _ M3 ⟨rfl, r1, r2, r3⟩
    have qM3 : M3.2.2 = pX pa sw := by rw [r2]; exact qM
    dsimp only [Option.toList, List.cons_append, List.nil_append, List.append_nil]
    refine T.aload_n (pc' := 19) (q_d dX5_standingUnhearing_0 8 rfl) rfl rfl rfl ?_
    refine T.iconst (pc' := 20) (v := nI 1) (q_d dX5_standingUnhearing_0 9 rfl) rfl (by decide) ?_
    refine T.putI (pc' := 23) (ci := 5) (k0 := 10) (q_d dX5_standingUnhearing_0 10 rfl) rfl rfl (by decide) rfl inX5 tyX5 tyX5_ok nmX5 (by decide) rfl wF_X5_252 rfl (by decide) (by decide) ?_
    refine T.aload_n (pc' := 24) (q_d dX5_standingUnhearing_0 11 rfl) rfl rfl rfl ?_
    refine T.getR (pc' := 27) (ci := 5) (k0 := 7) (q_d dX5_standingUnhearing_0 12 rfl) rfl rfl (by decide) rfl inX5 (by decide) rfl wF_X5_46 (by first | exact rP qM3 rfl | exact rP q1 rfl) ?_
    refine T.aret (q_d dX5_standingUnhearing_0 13 rfl) rfl rfl rfl ?_
    first
      | (have h8 : M.1 0 10 = 1 := by omega
         exact ⟨rfl, (q10.2.2.2.2.2.1 h8).1, h8, FrT.refl, q10⟩)
      | (have hr : ∀ a, a ≠ 0 → a ≠ 33 → a ≠ 34 → (qI M3 0 10 1).1 a = M2.1 a := fun a a1 a2 a3 => by funext j; rw [qI_ne (Or.inl a1), r3 a a2 a3]
         have h0 : ∀ j, j ≠ 10 → (qI M3 0 10 1).1 0 j = M2.1 0 j := fun j hj => by rw [qI_ne (Or.inr hj), r3 0 (by decide) (by decide)]
         obtain ⟨t1, t2, t3, t4, t5, t6, t7, t8, t9, t10, t11⟩ := hTb
         refine ⟨rfl, (h0 8 (by decide)).trans e8, qI_eq, fT.trans ⟨r2, fun a a1 a2 => hr a a1 (by omega) (by omega), fun j hj => h0 j (by omega)⟩, ?_⟩
         refine ⟨by rw [h0 8 (by decide)]; exact t1, ?_, ?_, fun _ => (t4 e8).mono (fun a a1 a2 => hr a (by omega) (by omega) (by omega)), fun e => ⟨(h0 8 (by decide)).trans e8, ?_⟩, fun e => ⟨(h0 8 (by decide)).trans e8, ?_⟩, by rw [hr 29 (by decide) (by decide) (by decide)]; exact t7, by rw [hr 29 (by decide) (by decide) (by decide)]; exact t8, by rw [hr 32 (by decide) (by decide) (by decide)]; exact t9, by rw [hr 32 (by decide) (by decide) (by decide)]; exact t10, fun g hg => by rw [hr (22 + g) (by omega) (by omega) (by omega)]; exact t11 g hg⟩
         · first | (rw [qI_eq]; decide) | (rw [h0 9 (by decide)]; exact t2)
         · first | (rw [qI_eq]; decide) | (rw [h0 10 (by decide)]; exact t3)
         · first
             | exact r1.mono (by funext j; exact qI_ne (Or.inl (by decide))) (by funext j; exact qI_ne (Or.inl (by decide)))
             | (rw [h0 9 (by decide)] at e; exact (t5 e).2.mono (hr 30 (by decide) (by decide) (by decide)) (hr 31 (by decide) (by decide) (by decide)))
         · first
             | exact r1.mono (by funext j; exact qI_ne (Or.inl (by decide))) (by funext j; exact qI_ne (Or.inl (by decide)))
             | (rw [h0 10 (by decide)] at e; exact (t6 e).2.mono (hr 33 (by decide) (by decide) (by decide)) (hr 34 (by decide) (by decide) (by decide))))
end CX5A
