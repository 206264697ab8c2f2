/-! the reference: what it holds, and its small methods -/
def RM (M : qM) (b : Nat) (s : Nat → Nat) (k : Nat) (was : Nat → Nat → Nat) (n : Nat) (t : Nat → Nat) : Prop :=
  M.2.2 = pM ∧ (∀ j, j < 52 → M.1 1 j = s j) ∧ WF b s ∧ M.1 0 4 = k ∧ k ≤ 4 ∧ (∀ i, i < k → (∀ j, j < 52 → M.1 2 (52 * i + j) = was i j) ∧ WF b (was i)) ∧ M.1 0 6 = n ∧ (∀ i, i < n → M.1 5 i = t i) ∧ WT n t
/-- only what is worked with changed -/
def Sc (M M' : qM) : Prop := M'.2.2 = M.2.2 ∧ M'.1 1 = M.1 1 ∧ M'.1 2 = M.1 2 ∧ M'.1 5 = M.1 5 ∧ M'.1 0 4 = M.1 0 4 ∧ M'.1 0 6 = M.1 0 6
theorem Sc.refl {M : qM} : Sc M M := ⟨rfl, rfl, rfl, rfl, rfl, rfl⟩
theorem Sc.trans {M M2 M3 : qM} (h : Sc M M2) (h2 : Sc M2 M3) : Sc M M3 := ⟨h2.1.trans h.1, h2.2.1.trans h.2.1, h2.2.2.1.trans h.2.2.1, h2.2.2.2.1.trans h.2.2.2.1, h2.2.2.2.2.1.trans h.2.2.2.2.1, h2.2.2.2.2.2.trans h.2.2.2.2.2⟩
section CM1
variable {l : Launch} {M M' : qM} {b b' : Nat} {s s' : Nat → Nat} {k : Nat} {was : Nat → Nat → Nat} {n : Nat} {t : Nat → Nat}
theorem RM.sc (q : RM M b s k was n t) (h : Sc M M') : RM M' b s k was n t := by
  obtain ⟨q1, q2, q3, q4, q5, q6, q7, q8, q9⟩ := q
  obtain ⟨h1, h2, h3, h4, h5, h6⟩ := h
  exact ⟨h1.trans q1, fun j hj => by rw [h2]; exact q2 j hj, q3, h5.trans q4, q5, fun i hi => ⟨fun j hj => by rw [h3]; exact (q6 i hi).1 j hj, (q6 i hi).2⟩, h6.trans q7, fun i hi => by rw [h4]; exact q8 i hi, q9⟩
theorem RM.le (q : RM M b s k was n t) (hb : b ≤ b') : RM M b' s k was n t := by
  obtain ⟨q1, q2, q3, q4, q5, q6, q7, q8, q9⟩ := q
  exact ⟨q1, q2, q3.mono hb, q4, q5, fun i hi => ⟨(q6 i hi).1, (q6 i hi).2.mono hb⟩, q7, q8, q9⟩
theorem m_in {u lo hi : Nat} (hu : u < 4294967296) (hl : lo < 4294967296) (hh : hi < 4294967296) : Ct l hdM kM mX6_in [.int (nI u), .int (nI lo), .int (nI hi)] M (RI M (if inS u lo hi = true then 1 else 0)) := by
  refine Ct.of [some (.int (nI u)), some (.int (nI lo)), some (.int (nI hi))] (by decide +kernel) (fun h => absurd h (by decide)) (Nat.le_of_ble_eq_true rfl) rfl ?_
  have e1 : (nI u < nI lo) ↔ sI u < sI lo := by rw [Int32.lt_iff_toInt_lt, nN_sI hu, nN_sI hl]
  have e2 : (nI hi < nI u) ↔ sI hi < sI u := by rw [Int32.lt_iff_toInt_lt, nN_sI hh, nN_sI hu]
  have e3 : inS u lo hi = true ↔ sI lo ≤ sI u ∧ sI u ≤ sI hi := by simp [inS]
  refine T.iload_n (pc' := 1) (q_d dX6_in_0 0 rfl) rfl rfl rfl ?_
  refine T.iload_n (pc' := 2) (q_d dX6_in_0 1 rfl) rfl rfl rfl ?_
  refine T.icmp_lt (tgt := 14) (pc' := 5) (q_d dX6_in_0 2 rfl) rfl (by decide)  (fun h2 => ?_) (fun h2 => ?_)
  · refine T.iconst (pc' := 15) (v := nI 0) (q_d dX6_in_0 8 rfl) rfl (by decide) ?_
    refine T.zret (q_d dX6_in_0 9 rfl) rfl (by decide) rfl rfl ?_
    refine ⟨rfl, ?_⟩
    first
      | (rw [if_pos (e3.mpr ⟨Int.not_lt.mp (fun q => h2 (e1.mpr q)), Int.not_lt.mp (fun q => h7 (e2.mpr q))⟩)]; done)
      | (rw [if_neg (fun q => by have h9 := e3.mp q; have h8 := e1.mp h2; omega)]; done)
      | (rw [if_neg (fun q => by have h9 := e3.mp q; have h8 := e2.mp h7; omega)]; done)
  · refine T.iload_n (pc' := 6) (q_d dX6_in_0 3 rfl) rfl rfl rfl ?_
    refine T.iload_n (pc' := 7) (q_d dX6_in_0 4 rfl) rfl rfl rfl ?_
    refine T.icmp_gt (tgt := 14) (pc' := 10) (q_d dX6_in_0 5 rfl) rfl (by decide)  (fun h7 => ?_) (fun h7 => ?_)
    · refine T.iconst (pc' := 15) (v := nI 0) (q_d dX6_in_0 8 rfl) rfl (by decide) ?_
      refine T.zret (q_d dX6_in_0 9 rfl) rfl (by decide) rfl rfl ?_
      refine ⟨rfl, ?_⟩
      first
        | (rw [if_pos (e3.mpr ⟨Int.not_lt.mp (fun q => h2 (e1.mpr q)), Int.not_lt.mp (fun q => h7 (e2.mpr q))⟩)]; done)
        | (rw [if_neg (fun q => by have h9 := e3.mp q; have h8 := e1.mp h2; omega)]; done)
        | (rw [if_neg (fun q => by have h9 := e3.mp q; have h8 := e2.mp h7; omega)]; done)
    · refine T.iconst (pc' := 11) (v := nI 1) (q_d dX6_in_0 6 rfl) rfl (by decide) ?_
      refine T.goto (tgt := 15) (q_d dX6_in_0 7 rfl) (by decide) ?_
      refine T.zret (q_d dX6_in_0 9 rfl) rfl (by decide) rfl rfl ?_
      refine ⟨rfl, ?_⟩
      first
        | (rw [if_pos (e3.mpr ⟨Int.not_lt.mp (fun q => h2 (e1.mpr q)), Int.not_lt.mp (fun q => h7 (e2.mpr q))⟩)]; done)
        | (rw [if_neg (fun q => by have h9 := e3.mp q; have h8 := e1.mp h2; omega)]; done)
        | (rw [if_neg (fun q => by have h9 := e3.mp q; have h8 := e2.mp h7; omega)]; done)
theorem m_isPlace (hX : RM M b s k was n t) {u : Nat} (hu : u < 4294967296) : Ct l hdM kM mX6_isPlace [.ref 0, .int (nI u)] M (RI M (if u < s 0 then 1 else 0)) := by
  refine Ct.of [some (.ref 0), some (.int (nI u))] (by decide +kernel) (fun h => absurd h (by decide)) (Nat.le_of_ble_eq_true rfl) rfl ?_
  have w7 := hX.2.2.1.1
  have e := inS_pl (pl := s 0) hu (by omega)
  refine T.iload_n (pc' := 1) (q_d dX6_isPlace_0 0 rfl) rfl rfl rfl ?_
  refine T.iconst (pc' := 2) (v := nI 0) (q_d dX6_isPlace_0 1 rfl) rfl (by decide) ?_
  refine T.aload_n (pc' := 3) (q_d dX6_isPlace_0 2 rfl) rfl rfl rfl ?_
  refine T.getR (pc' := 6) (ci := 6) (k0 := 0) (q_d dX6_isPlace_0 3 rfl) rfl rfl (by decide) rfl inX6 (by decide) rfl wF_X6_7 (rP hX.1 rfl) ?_
  refine T.iconst (pc' := 7) (v := nI 0) (q_d dX6_isPlace_0 4 rfl) rfl (by decide) ?_
  refine T.iald (pc' := 8) (q_d dX6_isPlace_0 5 rfl) rfl rfl (by decide) rfl (by omega) (by decide) (hX.2.1 0 (by decide)) ?_
  refine T.iconst (pc' := 9) (v := nI 1) (q_d dX6_isPlace_0 6 rfl) rfl (by decide) ?_
  refine T.isub (pc' := 10) (q_d dX6_isPlace_0 7 rfl) rfl pl_m1 ?_
  refine T.callS (pc' := 13) (q_d dX6_isPlace_0 8 rfl) rfl uX6_in wM_X6_43 (m_in hu (by decide) (hi := if s 0 = 0 then 4294967295 else s 0 - 1) (by split <;> omega)) rfl rfl (by decide) (Nat.le_of_ble_eq_true rfl) rfl rfl (fun _ => rfl) ?_
  rintro _ _ ⟨rfl, rfl⟩
  dsimp only [Option.toList, List.cons_append, List.nil_append, List.append_nil]
  refine T.zret (q_d dX6_isPlace_0 9 rfl) rfl (nar_if _) rfl rfl ?_
  refine ⟨rfl, ?_⟩
  by_cases h9 : u < s 0
  · rw [if_pos h9, if_pos (e.mpr h9)]
  · rw [if_neg h9, if_neg (fun q => h9 (e.mp q))]
theorem m_isSet (hX : RM M b s k was n t) {u : Nat} (hu : u < 4294967296) : Ct l hdM kM mX6_isSet [.ref 0, .int (nI u)] M (RI M (if u < 2 ^ s 0 then 1 else 0)) := by
  refine Ct.of [some (.ref 0), some (.int (nI u))] (by decide +kernel) (fun h => absurd h (by decide)) (Nat.le_of_ble_eq_true rfl) rfl ?_
  have w7 := hX.2.2.1.1
  have w0 := p2_le w7
  have e := inS_pl (pl := 2 ^ s 0) hu w0
  have hne : ¬ 2 ^ s 0 = 0 := by have := Nat.two_pow_pos (s 0); omega
  rw [if_neg hne] at e
  have hpos : 1 ≤ 2 ^ s 0 := Nat.two_pow_pos _
  refine T.iload_n (pc' := 1) (q_d dX6_isSet_0 0 rfl) rfl rfl rfl ?_
  refine T.iconst (pc' := 2) (v := nI 0) (q_d dX6_isSet_0 1 rfl) rfl (by decide) ?_
  refine T.iconst (pc' := 3) (v := nI 1) (q_d dX6_isSet_0 2 rfl) rfl (by decide) ?_
  refine T.aload_n (pc' := 4) (q_d dX6_isSet_0 3 rfl) rfl rfl rfl ?_
  refine T.getR (pc' := 7) (ci := 6) (k0 := 0) (q_d dX6_isSet_0 4 rfl) rfl rfl (by decide) rfl inX6 (by decide) rfl wF_X6_7 (rP hX.1 rfl) ?_
  refine T.iconst (pc' := 8) (v := nI 0) (q_d dX6_isSet_0 5 rfl) rfl (by decide) ?_
  refine T.iald (pc' := 9) (q_d dX6_isSet_0 6 rfl) rfl rfl (by decide) rfl (by omega) (by decide) (hX.2.1 0 (by decide)) ?_
  refine T.ishl (pc' := 10) (q_d dX6_isSet_0 7 rfl) rfl (nN_shl _ (by omega)) ?_
  refine T.iconst (pc' := 11) (v := nI 1) (q_d dX6_isSet_0 8 rfl) rfl (by decide) ?_
  refine T.isub (pc' := 12) (q_d dX6_isSet_0 9 rfl) rfl ((congrArg (fun z => nI z - nI 1) (Nat.one_shiftLeft (s 0))).trans (nN_sub hpos)) ?_
  refine T.callS (pc' := 15) (q_d dX6_isSet_0 10 rfl) rfl uX6_in wM_X6_43 (m_in hu (by decide) (hi := 2 ^ s 0 - 1) (by omega)) rfl rfl (by decide) (Nat.le_of_ble_eq_true rfl) rfl rfl (fun _ => rfl) ?_
  rintro _ _ ⟨rfl, rfl⟩
  dsimp only [Option.toList, List.cons_append, List.nil_append, List.append_nil]
  refine T.zret (q_d dX6_isSet_0 11 rfl) rfl (nar_if _) rfl rfl ?_
  refine ⟨rfl, ?_⟩
  by_cases h9 : u < 2 ^ s 0
  · rw [if_pos h9, if_pos (e.mpr h9)]
  · rw [if_neg h9, if_neg (fun q => h9 (e.mp q))]
theorem m_ones {a : Nat} (ha : a < 2 ^ 31) : Ct l hdM kM mX6_ones [.int (nI a)] M (RI M (ones a)) := by
  refine Ct.of [some (.int (nI a)), none, none] (by decide +kernel) (fun h => absurd h (by decide)) (Nat.le_of_ble_eq_true rfl) rfl ?_
  have loop : ∀ d i, i + d = 7 → T l hdM kM mX6_ones (RI M (ones a)) 0 0 4 [some (.int (nI a)), some (.int (nI (sumTo (fun k => a >>> k &&& 1) i))), some (.int (nI i))] [] M := by
    intro d
    induction d with
    | zero =>
      intro i hi
      have e : i = 7 := by omega
      subst e
      refine T.iload_n (pc' := 5) (q_d dX6_ones_0 4 rfl) rfl rfl rfl ?_
      refine T.bipush (pc' := 7) (v := nI 7) (q_d dX6_ones_0 5 rfl) rfl (by decide) ?_
      refine T.icmp_geN (tgt := 24) (pc' := 10) (q_d dX6_ones_0 6 rfl) rfl (by decide) (by omega) (by omega) (fun h7 => ?_) (fun h7 => ?_)
      · refine T.iload_n (pc' := 25) (q_d dX6_ones_0 17 rfl) rfl rfl rfl ?_
        refine T.iret (q_d dX6_ones_0 18 rfl) rfl rfl rfl ?_
        exact ⟨rfl, rfl⟩
      · exact absurd h7 (by omega)
    | succ d ih =>
      intro i hi
      refine T.iload_n (pc' := 5) (q_d dX6_ones_0 4 rfl) rfl rfl rfl ?_
      refine T.bipush (pc' := 7) (v := nI 7) (q_d dX6_ones_0 5 rfl) rfl (by decide) ?_
      refine T.icmp_geN (tgt := 24) (pc' := 10) (q_d dX6_ones_0 6 rfl) rfl (by decide) (by omega) (by omega) (fun h7 => ?_) (fun h7 => ?_)
      · exact absurd h7 (by omega)
      · refine T.iload_n (pc' := 11) (q_d dX6_ones_0 7 rfl) rfl rfl rfl ?_
        refine T.iload_n (pc' := 12) (q_d dX6_ones_0 8 rfl) rfl rfl rfl ?_
        refine T.iload_n (pc' := 13) (q_d dX6_ones_0 9 rfl) rfl rfl rfl ?_
        refine T.ishr (pc' := 14) (q_d dX6_ones_0 10 rfl) rfl (nN_shr (by omega) (by omega)) ?_
        refine T.iconst (pc' := 15) (v := nI 1) (q_d dX6_ones_0 11 rfl) rfl (by decide) ?_
        refine T.iand (pc' := 16) (q_d dX6_ones_0 12 rfl) rfl (nN_and _ _) ?_
        refine T.iadd (pc' := 17) (q_d dX6_ones_0 13 rfl) rfl (nI_add _ _) ?_
        refine T.istore_n (pc' := 18) (q_d dX6_ones_0 14 rfl) rfl rfl (by decide) rfl rfl ?_
        refine T.iinc (pc' := 21) (q_d dX6_ones_0 15 rfl) rfl rfl (nN_p _ 1) (by decide) rfl rfl ?_
        refine T.goto (tgt := 4) (q_d dX6_ones_0 16 rfl) (by decide) ?_
        exact ih (i + 1) (by omega)
  refine T.iconst (pc' := 1) (v := nI 0) (q_d dX6_ones_0 0 rfl) rfl (by decide) ?_
  refine T.istore_n (pc' := 2) (q_d dX6_ones_0 1 rfl) rfl rfl (by decide) rfl rfl ?_
  refine T.iconst (pc' := 3) (v := nI 0) (q_d dX6_ones_0 2 rfl) rfl (by decide) ?_
  refine T.istore_n (pc' := 4) (q_d dX6_ones_0 3 rfl) rfl rfl (by decide) rfl rfl ?_
  exact loop 7 0 (by omega)
theorem m_keeps (hP : M.2.2 = pM) : Ct l hdM kM mX6_keeps [.ref 0] M (fun v M' => v = none ∧ M'.2 = M.2 ∧ (∀ a, a ≠ 3 → M'.1 a = M.1 a) ∧ ∀ j, j < 52 → M'.1 3 j = M.1 1 j) := by
  refine Ct.of [some (.ref 0), none] (by decide +kernel) (fun h => absurd h (by decide)) (Nat.le_of_ble_eq_true rfl) rfl ?_
  have loop : ∀ d i (M' : qM), i + d = 52 → M'.2 = M.2 → (∀ a, a ≠ 3 → M'.1 a = M.1 a) → (∀ j, j < i → M'.1 3 j = M.1 1 j) → T l hdM kM mX6_keeps (fun v M' => v = none ∧ M'.2 = M.2 ∧ (∀ a, a ≠ 3 → M'.1 a = M.1 a) ∧ ∀ j, j < 52 → M'.1 3 j = M.1 1 j) 0 0 2 [some (.ref 0), some (.int (nI i))] [] M' := by
    intro d
    induction d with
    | zero =>
      intro i M' hi h2 ha hj
      refine T.iload_n (pc' := 3) (q_d dX6_keeps_0 2 rfl) rfl rfl rfl ?_
      refine T.bipush (pc' := 5) (v := nI 52) (q_d dX6_keeps_0 3 rfl) rfl (by decide) ?_
      refine T.icmp_geN (tgt := 26) (pc' := 8) (q_d dX6_keeps_0 4 rfl) rfl (by decide) (by omega) (by omega) (fun h5 => ?_) (fun h5 => ?_)
      · refine T.vret (q_d dX6_keeps_0 15 rfl) rfl rfl rfl ?_
        exact ⟨rfl, h2, ha, fun j h9 => hj j (by omega)⟩
      · exact absurd h5 (by omega)
    | succ d ih =>
      intro i M' hi h2 ha hj
      refine T.iload_n (pc' := 3) (q_d dX6_keeps_0 2 rfl) rfl rfl rfl ?_
      refine T.bipush (pc' := 5) (v := nI 52) (q_d dX6_keeps_0 3 rfl) rfl (by decide) ?_
      refine T.icmp_geN (tgt := 26) (pc' := 8) (q_d dX6_keeps_0 4 rfl) rfl (by decide) (by omega) (by omega) (fun h5 => ?_) (fun h5 => ?_)
      · exact absurd h5 (by omega)
      · refine T.aload_n (pc' := 9) (q_d dX6_keeps_0 5 rfl) rfl rfl rfl ?_
        refine T.getR (pc' := 12) (ci := 6) (k0 := 2) (q_d dX6_keeps_0 6 rfl) rfl rfl (by decide) rfl inX6 (by decide) rfl wF_X6_16 (rP (show M'.2.2 = pM by rw [h2]; exact hP) rfl) ?_
        refine T.iload_n (pc' := 13) (q_d dX6_keeps_0 7 rfl) rfl rfl rfl ?_
        refine T.aload_n (pc' := 14) (q_d dX6_keeps_0 8 rfl) rfl rfl rfl ?_
        refine T.getR (pc' := 17) (ci := 6) (k0 := 0) (q_d dX6_keeps_0 9 rfl) rfl rfl (by decide) rfl inX6 (by decide) rfl wF_X6_7 (rP (show M'.2.2 = pM by rw [h2]; exact hP) rfl) ?_
        refine T.iload_n (pc' := 18) (q_d dX6_keeps_0 10 rfl) rfl rfl rfl ?_
        refine T.iald (pc' := 19) (q_d dX6_keeps_0 11 rfl) rfl rfl (by decide) rfl (by omega) (by decide) rfl ?_
        refine T.iast (pc' := 20) (q_d dX6_keeps_0 12 rfl) rfl rfl (by decide) rfl (by omega) (by decide) ?_
        refine T.iinc (pc' := 23) (q_d dX6_keeps_0 13 rfl) rfl rfl (nN_p _ 1) (by decide) rfl rfl ?_
        refine T.goto (tgt := 2) (q_d dX6_keeps_0 14 rfl) (by decide) ?_
        refine ih (i + 1) _ (by omega) h2 (fun a h9 => ?_) (fun j h9 => ?_)
        · funext x; rw [qI_ne (Or.inl h9), ha a h9]
        · by_cases e : j = i
          · subst e; rw [qI_eq, ha 1 (by decide)]
          · rw [qI_ne (Or.inr e)]; exact hj j (by omega)
  refine T.iconst (pc' := 1) (v := nI 0) (q_d dX6_keeps_0 0 rfl) rfl (by decide) ?_
  refine T.istore_n (pc' := 2) (q_d dX6_keeps_0 1 rfl) rfl rfl (by decide) rfl rfl ?_
  exact loop 52 0 M (by omega) rfl (fun _ _ => rfl) (fun j hj => absurd hj (by omega))
theorem m_roads (hX : RM M b s k was n t) {o : Nat} (ho : o = 14 ∨ o = 21) : Ct l hdM kM mX6_roads [.ref 0, .int (nI o)] M (RI M (rdN s o)) := by
  refine Ct.of [some (.ref 0), some (.int (nI o)), none, none] (by decide +kernel) (fun h => absurd h (by decide)) (Nat.le_of_ble_eq_true rfl) rfl ?_
  have w7 := hX.2.2.1.1
  have w0 := p2_le w7
  have hlt : ∀ i, i < 7 → s (o + i) < 128 := fun i hi => by
    have h1 := hX.2.2.1.2.2.2.2.2.2.2.1 i hi
    have h2 := hX.2.2.1.2.2.2.2.2.2.2.2.1 i hi
    rcases ho with rfl | rfl <;> omega
  have hle := sumTo_le (f := fun i => ones (s (o + i))) (m := 7) (fun i => ones_le _)
  have loop : ∀ d i, i + d = s 0 → T l hdM kM mX6_roads (RI M (rdN s o)) 0 0 4 [some (.ref 0), some (.int (nI o)), some (.int (nI (sumTo (fun i => ones (s (o + i))) i))), some (.int (nI i))] [] M := by
    intro d
    induction d with
    | zero =>
      intro i hi
      have hle2 := hle i
      refine T.iload_n (pc' := 5) (q_d dX6_roads_0 4 rfl) rfl rfl rfl ?_
      refine T.aload_n (pc' := 6) (q_d dX6_roads_0 5 rfl) rfl rfl rfl ?_
      refine T.getR (pc' := 9) (ci := 6) (k0 := 0) (q_d dX6_roads_0 6 rfl) rfl rfl (by decide) rfl inX6 (by decide) rfl wF_X6_7 (rP hX.1 rfl) ?_
      refine T.iconst (pc' := 10) (v := nI 0) (q_d dX6_roads_0 7 rfl) rfl (by decide) ?_
      refine T.iald (pc' := 11) (q_d dX6_roads_0 8 rfl) rfl rfl (by decide) rfl (by omega) (by decide) (hX.2.1 0 (by decide)) ?_
      refine T.icmp_geN (tgt := 34) (pc' := 14) (q_d dX6_roads_0 9 rfl) rfl (by decide) (by omega) (by omega) (fun h11 => ?_) (fun h11 => ?_)
      · refine T.iload_n (pc' := 35) (q_d dX6_roads_0 22 rfl) rfl rfl rfl ?_
        refine T.iconst (pc' := 36) (v := nI 2) (q_d dX6_roads_0 23 rfl) rfl (by decide) ?_
        refine T.idiv (pc' := 37) (q_d dX6_roads_0 24 rfl) rfl (by decide) (pk_div (by omega) (by omega) (by omega)) ?_
        refine T.iret (q_d dX6_roads_0 25 rfl) rfl rfl rfl ?_
        exact ⟨rfl, by unfold rdN; rw [show i = s 0 by omega]⟩
      · exact absurd h11 (by omega)
    | succ d ih =>
      intro i hi
      have h9 := hlt i (by omega)
      refine T.iload_n (pc' := 5) (q_d dX6_roads_0 4 rfl) rfl rfl rfl ?_
      refine T.aload_n (pc' := 6) (q_d dX6_roads_0 5 rfl) rfl rfl rfl ?_
      refine T.getR (pc' := 9) (ci := 6) (k0 := 0) (q_d dX6_roads_0 6 rfl) rfl rfl (by decide) rfl inX6 (by decide) rfl wF_X6_7 (rP hX.1 rfl) ?_
      refine T.iconst (pc' := 10) (v := nI 0) (q_d dX6_roads_0 7 rfl) rfl (by decide) ?_
      refine T.iald (pc' := 11) (q_d dX6_roads_0 8 rfl) rfl rfl (by decide) rfl (by omega) (by decide) (hX.2.1 0 (by decide)) ?_
      refine T.icmp_geN (tgt := 34) (pc' := 14) (q_d dX6_roads_0 9 rfl) rfl (by decide) (by omega) (by omega) (fun h11 => ?_) (fun h11 => ?_)
      · exact absurd h11 (by omega)
      · refine T.iload_n (pc' := 15) (q_d dX6_roads_0 10 rfl) rfl rfl rfl ?_
        refine T.aload_n (pc' := 16) (q_d dX6_roads_0 11 rfl) rfl rfl rfl ?_
        refine T.getR (pc' := 19) (ci := 6) (k0 := 0) (q_d dX6_roads_0 12 rfl) rfl rfl (by decide) rfl inX6 (by decide) rfl wF_X6_7 (rP hX.1 rfl) ?_
        refine T.iload_n (pc' := 20) (q_d dX6_roads_0 13 rfl) rfl rfl rfl ?_
        refine T.iload_n (pc' := 21) (q_d dX6_roads_0 14 rfl) rfl rfl rfl ?_
        refine T.iadd (pc' := 22) (q_d dX6_roads_0 15 rfl) rfl (nI_add _ _) ?_
        refine T.iald (pc' := 23) (q_d dX6_roads_0 16 rfl) rfl rfl (by decide) rfl (by omega) (by decide) (hX.2.1 (o + i) (by omega)) ?_
        refine T.callS (pc' := 26) (q_d dX6_roads_0 17 rfl) rfl uX6_ones wM_X6_60 (m_ones (show s (o + i) < 2 ^ 31 by omega)) rfl rfl (by decide) (Nat.le_of_ble_eq_true rfl) rfl rfl (fun _ => rfl) ?_
        rintro _ _ ⟨rfl, rfl⟩
        dsimp only [Option.toList, List.cons_append, List.nil_append, List.append_nil]
        refine T.iadd (pc' := 27) (q_d dX6_roads_0 18 rfl) rfl (nI_add _ _) ?_
        refine T.istore_n (pc' := 28) (q_d dX6_roads_0 19 rfl) rfl rfl (by decide) rfl rfl ?_
        refine T.iinc (pc' := 31) (q_d dX6_roads_0 20 rfl) rfl rfl (nN_p _ 1) (by decide) rfl rfl ?_
        refine T.goto (tgt := 4) (q_d dX6_roads_0 21 rfl) (by decide) ?_
        exact ih (i + 1) (by omega)
  refine T.iconst (pc' := 1) (v := nI 0) (q_d dX6_roads_0 0 rfl) rfl (by decide) ?_
  refine T.istore_n (pc' := 2) (q_d dX6_roads_0 1 rfl) rfl rfl (by decide) rfl rfl ?_
  refine T.iconst (pc' := 3) (v := nI 0) (q_d dX6_roads_0 2 rfl) rfl (by decide) ?_
  refine T.istore_n (pc' := 4) (q_d dX6_roads_0 3 rfl) rfl rfl (by decide) rfl rfl ?_
  exact loop (s 0) 0 (by omega)
theorem m_goes (hX : RM M b s k was n t) {p c : Nat} (hp : p < s 0) : Ct l hdM kM mX6_goes [.ref 0, .int (nI p), .int (nI c)] M (RI M (goes s p c)) := by
  refine Ct.of [some (.ref 0), some (.int (nI p)), some (.int (nI c)), none, none, none] (by decide +kernel) (fun h => absurd h (by decide)) (Nat.le_of_ble_eq_true rfl) rfl ?_
  have w7 := hX.2.2.1.1
  have w0 := p2_le w7
  have w1 := hX.2.2.1.2.2.2.2.2.2.2.2.1 p (by omega)
  have w4 := hX.2.2.1.2.2.2.1
  have loop : ∀ d i far, i + d = s 0 → far = s (21 + p) ||| orTo (fun q => if s (21 + p) >>> q &&& 1 = 1 then s (21 + q) else 0) i →
      T l hdM kM mX6_goes (RI M (goes s p c)) 0 0 16 [some (.ref 0), some (.int (nI p)), some (.int (nI c)), some (.int (nI (s (21 + p)))), some (.int (nI far)), some (.int (nI i))] [] M := by
    intro d
    induction d with
    | zero =>
      intro i far hi hf
      have ei : i = s 0 := by omega
      refine T.iload (pc' := 18) (q_d dX6_goes_0 11 rfl) rfl rfl ?_
      refine T.aload_n (pc' := 19) (q_d dX6_goes_0 12 rfl) rfl rfl rfl ?_
      refine T.getR (pc' := 22) (ci := 6) (k0 := 0) (q_d dX6_goes_0 13 rfl) rfl rfl (by decide) rfl inX6 (by decide) rfl wF_X6_7 (rP hX.1 rfl) ?_
      refine T.iconst (pc' := 23) (v := nI 0) (q_d dX6_goes_0 14 rfl) rfl (by decide) ?_
      refine T.iald (pc' := 24) (q_d dX6_goes_0 15 rfl) rfl rfl (by decide) rfl (by omega) (by decide) (hX.2.1 0 (by decide)) ?_
      refine T.icmp_geN (tgt := 62) (pc' := 27) (q_d dX6_goes_0 16 rfl) rfl (by decide) (by omega) (by omega) (fun h24 => ?_) (fun h24 => ?_)
      · refine T.iconst (pc' := 63) (v := nI 1) (q_d dX6_goes_0 37 rfl) rfl (by decide) ?_
        refine T.iload_n (pc' := 64) (q_d dX6_goes_0 38 rfl) rfl rfl rfl ?_
        refine T.ishl (pc' := 65) (q_d dX6_goes_0 39 rfl) rfl (nN_shl _ (by omega)) ?_
        refine T.istore (pc' := 67) (q_d dX6_goes_1 0 rfl) rfl (by decide) rfl rfl ?_
        refine T.aload_n (pc' := 68) (q_d dX6_goes_1 1 rfl) rfl rfl rfl ?_
        refine T.getR (pc' := 71) (ci := 6) (k0 := 0) (q_d dX6_goes_1 2 rfl) rfl rfl (by decide) rfl inX6 (by decide) rfl wF_X6_7 (rP hX.1 rfl) ?_
        refine T.iconst (pc' := 72) (v := nI 4) (q_d dX6_goes_1 3 rfl) rfl (by decide) ?_
        refine T.iald (pc' := 73) (q_d dX6_goes_1 4 rfl) rfl rfl (by decide) rfl (by omega) (by decide) (hX.2.1 4 (by decide)) ?_
        rcases (by omega : s 4 = 0 ∨ s 4 = 1 ∨ s 4 = 2 ∨ s 4 = 3) with e | e | e | e
        · rw [e]
          refine T.tableIn (tgt := 100) (q_d dX6_goes_1 5 rfl) (by decide +kernel) (by decide +kernel) (off := 27) (by decide +kernel) (by decide) ?_
          refine T.iload_n (pc' := 101) (q_d dX6_goes_1 6 rfl) rfl rfl rfl ?_
          refine T.if_neN (tgt := 109) (pc' := 104) (q_d dX6_goes_1 7 rfl) rfl (by decide) (by omega) (fun h101 => ?_) (fun h101 => ?_)
          · refine T.iload_n (pc' := 110) (q_d dX6_goes_1 10 rfl) rfl rfl rfl ?_
            refine T.iret (q_d dX6_goes_1 11 rfl) rfl rfl rfl ?_
            refine ⟨rfl, ?_⟩
            unfold goes
            rw [if_pos e]
            first
              | (rw [if_pos h101]; done)
              | (rw [if_neg h101]; done)
          · refine T.iload (pc' := 106) (q_d dX6_goes_1 8 rfl) rfl rfl ?_
            refine T.goto (tgt := 110) (q_d dX6_goes_1 9 rfl) (by decide) ?_
            refine T.iret (q_d dX6_goes_1 11 rfl) rfl rfl rfl ?_
            refine ⟨rfl, ?_⟩
            unfold goes
            rw [if_pos e]
            first
              | (rw [if_pos h101]; done)
              | (rw [if_neg h101]; done)
        · rw [e]
          refine T.tableIn (tgt := 111) (q_d dX6_goes_1 5 rfl) (by decide +kernel) (by decide +kernel) (off := 38) (by decide +kernel) (by decide) ?_
          refine T.iload_n (pc' := 112) (q_d dX6_goes_1 12 rfl) rfl rfl rfl ?_
          refine T.iload (pc' := 114) (q_d dX6_goes_1 13 rfl) rfl rfl ?_
          refine T.ior (pc' := 115) (q_d dX6_goes_1 14 rfl) rfl (nN_or _ _) ?_
          refine T.iret (q_d dX6_goes_1 15 rfl) rfl rfl rfl ?_
          refine ⟨rfl, ?_⟩
          unfold goes
          rw [if_neg (by omega), if_pos e]
        · rw [e]
          refine T.tableIn (tgt := 116) (q_d dX6_goes_1 5 rfl) (by decide +kernel) (by decide +kernel) (off := 43) (by decide +kernel) (by decide) ?_
          refine T.iload_n (pc' := 117) (q_d dX6_goes_1 16 rfl) rfl rfl rfl ?_
          refine T.if_neN (tgt := 125) (pc' := 120) (q_d dX6_goes_1 17 rfl) rfl (by decide) (by omega) (fun h117 => ?_) (fun h117 => ?_)
          · refine T.iload (pc' := 127) (q_d dX6_goes_1 20 rfl) rfl rfl ?_
            refine T.iret (q_d dX6_goes_1 21 rfl) rfl rfl rfl ?_
            refine ⟨rfl, ?_⟩
            unfold goes
            rw [if_neg (by omega), if_neg (by omega), if_pos e]
            first
              | (rw [if_pos h117]; done)
              | (rw [if_neg h117, hf, ei]; done)
          · refine T.iload (pc' := 122) (q_d dX6_goes_1 18 rfl) rfl rfl ?_
            refine T.goto (tgt := 127) (q_d dX6_goes_1 19 rfl) (by decide) ?_
            refine T.iret (q_d dX6_goes_1 21 rfl) rfl rfl rfl ?_
            refine ⟨rfl, ?_⟩
            unfold goes
            rw [if_neg (by omega), if_neg (by omega), if_pos e]
            first
              | (rw [if_pos h117]; done)
              | (rw [if_neg h117, hf, ei]; done)
        · rw [e]
          refine T.tableOut (tgt := 128) (q_d dX6_goes_1 5 rfl) (Or.inr (by decide +kernel)) (by decide) ?_
          refine T.iload_n (pc' := 129) (q_d dX6_goes_1 22 rfl) rfl rfl rfl ?_
          refine T.iload_n (pc' := 130) (q_d dX6_goes_1 23 rfl) rfl rfl rfl ?_
          refine T.iconst (pc' := 131) (v := nI 4294967295) (q_d dX6_goes_1 24 rfl) rfl (by decide) ?_
          refine T.ixor (pc' := 132) (q_d dX6_goes_1 25 rfl) rfl (nN_xor _ _) ?_
          refine T.iand (pc' := 133) (q_d dX6_goes_1 26 rfl) rfl (nN_and _ _) ?_
          refine T.iload (pc' := 135) (q_d dX6_goes_1 27 rfl) rfl rfl ?_
          refine T.ior (pc' := 136) (q_d dX6_goes_1 28 rfl) rfl (nN_or _ _) ?_
          refine T.iret (q_d dX6_goes_1 29 rfl) rfl rfl rfl ?_
          refine ⟨rfl, ?_⟩
          unfold goes
          rw [if_neg (by omega), if_neg (by omega), if_neg (by omega)]
          rfl
      · exact absurd h24 (by omega)
    | succ d ih =>
      intro i far hi hf
      have g1 := and1_lt (s (21 + p) >>> i)
      refine T.iload (pc' := 18) (q_d dX6_goes_0 11 rfl) rfl rfl ?_
      refine T.aload_n (pc' := 19) (q_d dX6_goes_0 12 rfl) rfl rfl rfl ?_
      refine T.getR (pc' := 22) (ci := 6) (k0 := 0) (q_d dX6_goes_0 13 rfl) rfl rfl (by decide) rfl inX6 (by decide) rfl wF_X6_7 (rP hX.1 rfl) ?_
      refine T.iconst (pc' := 23) (v := nI 0) (q_d dX6_goes_0 14 rfl) rfl (by decide) ?_
      refine T.iald (pc' := 24) (q_d dX6_goes_0 15 rfl) rfl rfl (by decide) rfl (by omega) (by decide) (hX.2.1 0 (by decide)) ?_
      refine T.icmp_geN (tgt := 62) (pc' := 27) (q_d dX6_goes_0 16 rfl) rfl (by decide) (by omega) (by omega) (fun h24 => ?_) (fun h24 => ?_)
      · exact absurd h24 (by omega)
      · refine T.iload (pc' := 29) (q_d dX6_goes_0 17 rfl) rfl rfl ?_
        refine T.iload_n (pc' := 30) (q_d dX6_goes_0 18 rfl) rfl rfl rfl ?_
        refine T.iload (pc' := 32) (q_d dX6_goes_0 19 rfl) rfl rfl ?_
        refine T.ishr (pc' := 33) (q_d dX6_goes_0 20 rfl) rfl (nN_shr (by omega) (by omega)) ?_
        refine T.iconst (pc' := 34) (v := nI 1) (q_d dX6_goes_0 21 rfl) rfl (by decide) ?_
        refine T.iand (pc' := 35) (q_d dX6_goes_0 22 rfl) rfl (nN_and _ _) ?_
        refine T.iconst (pc' := 36) (v := nI 1) (q_d dX6_goes_0 23 rfl) rfl (by decide) ?_
        refine T.icmp_neN (tgt := 52) (pc' := 39) (q_d dX6_goes_0 24 rfl) rfl (by decide) (by omega) (by omega) (fun h36 => ?_) (fun h36 => ?_)
        · refine T.iconst (pc' := 53) (v := nI 0) (q_d dX6_goes_0 32 rfl) rfl (by decide) ?_
          refine T.ior (pc' := 54) (q_d dX6_goes_0 33 rfl) rfl (nN_or _ _) ?_
          refine T.istore (pc' := 56) (q_d dX6_goes_0 34 rfl) rfl (by decide) rfl rfl ?_
          refine T.iinc (pc' := 59) (q_d dX6_goes_0 35 rfl) rfl rfl (nN_p _ 1) (by decide) rfl rfl ?_
          refine T.goto (tgt := 16) (q_d dX6_goes_0 36 rfl) (by decide) ?_
          exact ih (i + 1) _ (by omega) (by simp only [orTo]; first | (rw [if_pos h36, hf, Nat.or_assoc]; done) | (rw [if_neg h36, Nat.or_zero, Nat.or_zero, hf]; done))
        · refine T.aload_n (pc' := 40) (q_d dX6_goes_0 25 rfl) rfl rfl rfl ?_
          refine T.getR (pc' := 43) (ci := 6) (k0 := 0) (q_d dX6_goes_0 26 rfl) rfl rfl (by decide) rfl inX6 (by decide) rfl wF_X6_7 (rP hX.1 rfl) ?_
          refine T.bipush (pc' := 45) (v := nI 21) (q_d dX6_goes_0 27 rfl) rfl (by decide) ?_
          refine T.iload (pc' := 47) (q_d dX6_goes_0 28 rfl) rfl rfl ?_
          refine T.iadd (pc' := 48) (q_d dX6_goes_0 29 rfl) rfl (nI_add _ _) ?_
          refine T.iald (pc' := 49) (q_d dX6_goes_0 30 rfl) rfl rfl (by decide) rfl (by omega) (by decide) (hX.2.1 (21 + i) (by omega)) ?_
          refine T.goto (tgt := 53) (q_d dX6_goes_0 31 rfl) (by decide) ?_
          refine T.ior (pc' := 54) (q_d dX6_goes_0 33 rfl) rfl (nN_or _ _) ?_
          refine T.istore (pc' := 56) (q_d dX6_goes_0 34 rfl) rfl (by decide) rfl rfl ?_
          refine T.iinc (pc' := 59) (q_d dX6_goes_0 35 rfl) rfl rfl (nN_p _ 1) (by decide) rfl rfl ?_
          refine T.goto (tgt := 16) (q_d dX6_goes_0 36 rfl) (by decide) ?_
          exact ih (i + 1) _ (by omega) (by simp only [orTo]; first | (rw [if_pos h36, hf, Nat.or_assoc]; done) | (rw [if_neg h36, Nat.or_zero, Nat.or_zero, hf]; done))
  refine T.aload_n (pc' := 1) (q_d dX6_goes_0 0 rfl) rfl rfl rfl ?_
  refine T.getR (pc' := 4) (ci := 6) (k0 := 0) (q_d dX6_goes_0 1 rfl) rfl rfl (by decide) rfl inX6 (by decide) rfl wF_X6_7 (rP hX.1 rfl) ?_
  refine T.bipush (pc' := 6) (v := nI 21) (q_d dX6_goes_0 2 rfl) rfl (by decide) ?_
  refine T.iload_n (pc' := 7) (q_d dX6_goes_0 3 rfl) rfl rfl rfl ?_
  refine T.iadd (pc' := 8) (q_d dX6_goes_0 4 rfl) rfl (nI_add _ _) ?_
  refine T.iald (pc' := 9) (q_d dX6_goes_0 5 rfl) rfl rfl (by decide) rfl (by omega) (by decide) (hX.2.1 (21 + p) (by omega)) ?_
  refine T.istore_n (pc' := 10) (q_d dX6_goes_0 6 rfl) rfl rfl (by decide) rfl rfl ?_
  refine T.iload_n (pc' := 11) (q_d dX6_goes_0 7 rfl) rfl rfl rfl ?_
  refine T.istore (pc' := 13) (q_d dX6_goes_0 8 rfl) rfl (by decide) rfl rfl ?_
  refine T.iconst (pc' := 14) (v := nI 0) (q_d dX6_goes_0 9 rfl) rfl (by decide) ?_
  refine T.istore (pc' := 16) (q_d dX6_goes_0 10 rfl) rfl (by decide) rfl rfl ?_
  exact loop (s 0) 0 _ (by omega) (by simp [orTo])
theorem m_hears (hX : RM M b s k was n t) {p q : Nat} (hp : p < 7) (hq : q < 7) : Ct l hdM kM mX6_hears [.ref 0, .int (nI p), .int (nI q)] M (RI M (hears s p q)) := by
  refine Ct.of [some (.ref 0), some (.int (nI p)), some (.int (nI q)), none] (by decide +kernel) (fun h => absurd h (by decide)) (Nat.le_of_ble_eq_true rfl) rfl ?_
  have w7 := hX.2.2.1.1
  have w0 := p2_le w7
  have w1 := hX.2.2.1.2.2.2.2.2.2.2.2.1 q hq
  have w5 := hX.2.2.1.2.2.2.2.1
  have g9 := ones_le (s (21 + q))
  refine T.aload_n (pc' := 1) (q_d dX6_hears_0 0 rfl) rfl rfl rfl ?_
  refine T.getR (pc' := 4) (ci := 6) (k0 := 0) (q_d dX6_hears_0 1 rfl) rfl rfl (by decide) rfl inX6 (by decide) rfl wF_X6_7 (rP hX.1 rfl) ?_
  refine T.bipush (pc' := 6) (v := nI 21) (q_d dX6_hears_0 2 rfl) rfl (by decide) ?_
  refine T.iload_n (pc' := 7) (q_d dX6_hears_0 3 rfl) rfl rfl rfl ?_
  refine T.iadd (pc' := 8) (q_d dX6_hears_0 4 rfl) rfl (nI_add _ _) ?_
  refine T.iald (pc' := 9) (q_d dX6_hears_0 5 rfl) rfl rfl (by decide) rfl (by omega) (by decide) (hX.2.1 (21 + q) (by omega)) ?_
  refine T.callS (pc' := 12) (q_d dX6_hears_0 6 rfl) rfl uX6_ones wM_X6_60 (m_ones (show s (21 + q) < 2 ^ 31 by omega)) rfl rfl (by decide) (Nat.le_of_ble_eq_true rfl) rfl rfl (fun _ => rfl) ?_
  rintro _ _ ⟨rfl, rfl⟩
  dsimp only [Option.toList, List.cons_append, List.nil_append, List.append_nil]
  refine T.istore_n (pc' := 13) (q_d dX6_hears_0 7 rfl) rfl rfl (by decide) rfl rfl ?_
  refine T.aload_n (pc' := 14) (q_d dX6_hears_0 8 rfl) rfl rfl rfl ?_
  refine T.getR (pc' := 17) (ci := 6) (k0 := 0) (q_d dX6_hears_0 9 rfl) rfl rfl (by decide) rfl inX6 (by decide) rfl wF_X6_7 (rP hX.1 rfl) ?_
  refine T.iconst (pc' := 18) (v := nI 5) (q_d dX6_hears_0 10 rfl) rfl (by decide) ?_
  refine T.iald (pc' := 19) (q_d dX6_hears_0 11 rfl) rfl rfl (by decide) rfl (by omega) (by decide) (hX.2.1 5 (by decide)) ?_
  rcases (by omega : s 5 = 0 ∨ s 5 = 1 ∨ s 5 = 2 ∨ s 5 = 3) with e | e | e | e
  · rw [e]
    refine T.tableIn (tgt := 44) (q_d dX6_hears_0 12 rfl) (by decide +kernel) (by decide +kernel) (off := 25) (by decide +kernel) (by decide) ?_
    refine T.iconst (pc' := 45) (v := nI 0) (q_d dX6_hears_0 13 rfl) rfl (by decide) ?_
    refine T.iret (q_d dX6_hears_0 14 rfl) rfl rfl rfl ?_
    exact ⟨rfl, by unfold hears; rw [if_pos e]⟩
  · rw [e]
    refine T.tableIn (tgt := 46) (q_d dX6_hears_0 12 rfl) (by decide +kernel) (by decide +kernel) (off := 27) (by decide +kernel) (by decide) ?_
    refine T.aload_n (pc' := 47) (q_d dX6_hears_0 15 rfl) rfl rfl rfl ?_
    refine T.getR (pc' := 50) (ci := 6) (k0 := 0) (q_d dX6_hears_0 16 rfl) rfl rfl (by decide) rfl inX6 (by decide) rfl wF_X6_7 (rP hX.1 rfl) ?_
    refine T.bipush (pc' := 52) (v := nI 7) (q_d dX6_hears_0 17 rfl) rfl (by decide) ?_
    refine T.iload_n (pc' := 53) (q_d dX6_hears_0 18 rfl) rfl rfl rfl ?_
    refine T.iadd (pc' := 54) (q_d dX6_hears_0 19 rfl) rfl (nI_add _ _) ?_
    refine T.iald (pc' := 55) (q_d dX6_hears_0 20 rfl) rfl rfl (by decide) rfl (by omega) (by decide) (hX.2.1 (7 + q) (by omega)) ?_
    refine T.iret (q_d dX6_hears_0 21 rfl) rfl rfl rfl ?_
    exact ⟨rfl, by unfold hears; rw [if_neg (by omega), if_pos e]⟩
  · rw [e]
    refine T.tableIn (tgt := 56) (q_d dX6_hears_0 12 rfl) (by decide +kernel) (by decide +kernel) (off := 37) (by decide +kernel) (by decide) ?_
    refine T.iload_n (pc' := 57) (q_d dX6_hears_0 22 rfl) rfl rfl rfl ?_
    refine T.iload_n (pc' := 58) (q_d dX6_hears_0 23 rfl) rfl rfl rfl ?_
    refine T.icmp_neN (tgt := 65) (pc' := 61) (q_d dX6_hears_0 24 rfl) rfl (by decide) (by omega) (by omega) (fun h58 => ?_) (fun h58 => ?_)
    · refine T.iconst (pc' := 66) (v := nI 1) (q_d dX6_hears_0 27 rfl) rfl (by decide) ?_
      refine T.iret (q_d dX6_hears_0 28 rfl) rfl rfl rfl ?_
      refine ⟨rfl, ?_⟩
      unfold hears
      rw [if_neg (by omega), if_neg (by omega), if_pos e]
      first
        | (rw [if_pos (by omega)]; done)
        | (rw [if_neg (by omega)]; done)
    · refine T.iconst (pc' := 62) (v := nI 0) (q_d dX6_hears_0 25 rfl) rfl (by decide) ?_
      refine T.goto (tgt := 66) (q_d dX6_hears_0 26 rfl) (by decide) ?_
      refine T.iret (q_d dX6_hears_0 28 rfl) rfl rfl rfl ?_
      refine ⟨rfl, ?_⟩
      unfold hears
      rw [if_neg (by omega), if_neg (by omega), if_pos e]
      first
        | (rw [if_pos (by omega)]; done)
        | (rw [if_neg (by omega)]; done)
  · rw [e]
    refine T.tableOut (tgt := 67) (q_d dX6_hears_0 12 rfl) (Or.inr (by decide +kernel)) (by decide) ?_
    refine T.iload_n (pc' := 68) (q_d dX6_hears_0 29 rfl) rfl rfl rfl ?_
    refine T.iconst (pc' := 69) (v := nI 3) (q_d dX6_hears_0 30 rfl) rfl (by decide) ?_
    refine T.icmp_leN (tgt := 76) (pc' := 72) (q_d dX6_hears_0 31 rfl) rfl (by decide) (by omega) (by omega) (fun h69 => ?_) (fun h69 => ?_)
    · refine T.iload_n (pc' := 77) (q_d dX6_hears_0 34 rfl) rfl rfl rfl ?_
      refine T.iret (q_d dX6_hears_0 35 rfl) rfl rfl rfl ?_
      refine ⟨rfl, ?_⟩
      unfold hears
      rw [if_neg (by omega), if_neg (by omega), if_neg (by omega)]
      first
        | (rw [if_pos (by omega)]; done)
        | (rw [if_neg (by omega)]; done)
    · refine T.iconst (pc' := 73) (v := nI 3) (q_d dX6_hears_0 32 rfl) rfl (by decide) ?_
      refine T.goto (tgt := 77) (q_d dX6_hears_0 33 rfl) (by decide) ?_
      refine T.iret (q_d dX6_hears_0 35 rfl) rfl rfl rfl ?_
      refine ⟨rfl, ?_⟩
      unfold hears
      rw [if_neg (by omega), if_neg (by omega), if_neg (by omega)]
      first
        | (rw [if_pos (by omega)]; done)
        | (rw [if_neg (by omega)]; done)
theorem m_then (hX : RM M b s k was n t) {x c g g' : Nat} (hx : x < 2 ^ s 0) (hg : (g' = 4294967295 ∧ g = 4) ∨ (g' = g ∧ g < 4)) : Ct l hdM kM mX6_then [.ref 0, .int (nI x), .int (nI c), .int (nI g')] M (RI M (thn s x c g)) := by
  refine Ct.of [some (.ref 0), some (.int (nI x)), some (.int (nI c)), some (.int (nI g')), none, none, none, none, none, none] (by decide +kernel) (fun h => absurd h (by decide)) (Nat.le_of_ble_eq_true rfl) rfl ?_
  have w7 := hX.2.2.1.1
  have w0 := p2_le w7
  have hd : dif x c < 2 ^ s 0 := dif_lt hx
  have ed : x &&& (c ^^^ 4294967295) = dif x c := rfl
  have loop : ∀ d p acc, p + d = s 0 → acc = orTo (fun p => orTo (fun q => if (if dif x c >>> p &&& 1 = 1 then goes s p c else 0) >>> q &&& 1 = 1 ∧ (g = 4 ∨ hears s p q = g) then 1 <<< q else 0) (s 0)) p →
      T l hdM kM mX6_then (RI M (thn s x c g)) 0 0 6 [some (.ref 0), some (.int (nI x)), some (.int (nI c)), some (.int (nI g')), some (.int (nI acc)), some (.int (nI p)), none, none, none, none] [] M := by
    intro d
    induction d with
    | zero =>
      intro p acc hp ha
      refine T.iload (pc' := 8) (q_d dX6_then_0 4 rfl) rfl rfl ?_
      refine T.aload_n (pc' := 9) (q_d dX6_then_0 5 rfl) rfl rfl rfl ?_
      refine T.getR (pc' := 12) (ci := 6) (k0 := 0) (q_d dX6_then_0 6 rfl) rfl rfl (by decide) rfl inX6 (by decide) rfl wF_X6_7 (rP hX.1 rfl) ?_
      refine T.iconst (pc' := 13) (v := nI 0) (q_d dX6_then_0 7 rfl) rfl (by decide) ?_
      refine T.iald (pc' := 14) (q_d dX6_then_0 8 rfl) rfl rfl (by decide) rfl (by omega) (by decide) (hX.2.1 0 (by decide)) ?_
      refine T.icmp_geN (tgt := 126) (pc' := 17) (q_d dX6_then_0 9 rfl) rfl (by decide) (by omega) (by omega) (fun h14 => ?_) (fun h14 => ?_)
      · refine T.iload (pc' := 128) (q_d dX6_then_1 31 rfl) rfl rfl ?_
        refine T.iret (q_d dX6_then_1 32 rfl) rfl rfl rfl ?_
        exact ⟨rfl, by rw [ha, show p = s 0 by omega]; rfl⟩
      · exact absurd h14 (by omega)
    | succ d ih =>
      intro p acc hp ha
      have hgl := goes_lt hX.2.2.1 (p := p) (c := c) (by omega)
      have gb := and1_lt (dif x c >>> p)
      have inner : ∀ e q G acc2 bit, q + e = s 0 → G = (if dif x c >>> p &&& 1 = 1 then goes s p c else 0) → acc2 = acc ||| orTo (fun q => if (if dif x c >>> p &&& 1 = 1 then goes s p c else 0) >>> q &&& 1 = 1 ∧ (g = 4 ∨ hears s p q = g) then 1 <<< q else 0) q →
          T l hdM kM mX6_then (RI M (thn s x c g)) 0 0 51 [some (.ref 0), some (.int (nI x)), some (.int (nI c)), some (.int (nI g')), some (.int (nI acc2)), some (.int (nI p)), some (.int (nI bit)), some (.int (nI G)), some (.int (nI q)), none] [] M := by
        intro e
        induction e with
        | zero =>
          intro q G acc2 bit hq hG h2
          refine T.iload (pc' := 53) (q_d dX6_then_0 32 rfl) rfl rfl ?_
          refine T.aload_n (pc' := 54) (q_d dX6_then_0 33 rfl) rfl rfl rfl ?_
          refine T.getR (pc' := 57) (ci := 6) (k0 := 0) (q_d dX6_then_0 34 rfl) rfl rfl (by decide) rfl inX6 (by decide) rfl wF_X6_7 (rP hX.1 rfl) ?_
          refine T.iconst (pc' := 58) (v := nI 0) (q_d dX6_then_0 35 rfl) rfl (by decide) ?_
          refine T.iald (pc' := 59) (q_d dX6_then_0 36 rfl) rfl rfl (by decide) rfl (by omega) (by decide) (hX.2.1 0 (by decide)) ?_
          refine T.icmp_geN (tgt := 120) (pc' := 62) (q_d dX6_then_0 37 rfl) rfl (by decide) (by omega) (by omega) (fun h59 => ?_) (fun h59 => ?_)
          · refine T.iinc (pc' := 123) (q_d dX6_then_1 29 rfl) rfl rfl (nN_p _ 1) (by decide) rfl rfl ?_
            refine T.goto (tgt := 6) (q_d dX6_then_1 30 rfl) (by decide) ?_
            refine T.drop (loc' := [some (.ref 0), some (.int (nI x)), some (.int (nI c)), some (.int (nI g')), some (.int (nI acc2)), some (.int (nI (p + 1))), none, none, none, none]) ⟨rfl, rfl, rfl, rfl, rfl, rfl, trivial⟩ ?_
            exact ih (p + 1) acc2 (by omega) (by rw [h2, ha, show q = s 0 by omega]; rfl)
          · exact absurd h59 (by omega)
        | succ e ih2 =>
          intro q G acc2 bit hq hG h2
          have g1 := and1_lt (G >>> q)
          have hGl : G < 2 ^ s 0 := by rw [hG]; split; exact hgl; exact Nat.two_pow_pos _
          have hh := hears_lt hX.2.2.1 (p := p) (q := q) (by omega)
          have nxt : ∀ v acc3, acc3 = acc2 ||| v → v = (if (if dif x c >>> p &&& 1 = 1 then goes s p c else 0) >>> q &&& 1 = 1 ∧ (g = 4 ∨ hears s p q = g) then 1 <<< q else 0) → ∀ f, T l hdM kM mX6_then (RI M (thn s x c g)) 0 0 51 [some (.ref 0), some (.int (nI x)), some (.int (nI c)), some (.int (nI g')), some (.int (nI acc3)), some (.int (nI p)), some (.int (nI bit)), some (.int (nI G)), some (.int (nI (q + 1))), some (.int (nI f))] [] M := by
            intro v acc3 h3 hv f
            refine T.drop (loc' := [some (.ref 0), some (.int (nI x)), some (.int (nI c)), some (.int (nI g')), some (.int (nI acc3)), some (.int (nI p)), some (.int (nI bit)), some (.int (nI G)), some (.int (nI (q + 1))), none]) ⟨rfl, rfl, rfl, rfl, rfl, rfl, rfl, rfl, rfl, trivial⟩ ?_
            exact ih2 (q + 1) G acc3 bit (by omega) hG (by rw [h3, h2, orTo, Nat.or_assoc, hv])
          refine T.iload (pc' := 53) (q_d dX6_then_0 32 rfl) rfl rfl ?_
          refine T.aload_n (pc' := 54) (q_d dX6_then_0 33 rfl) rfl rfl rfl ?_
          refine T.getR (pc' := 57) (ci := 6) (k0 := 0) (q_d dX6_then_0 34 rfl) rfl rfl (by decide) rfl inX6 (by decide) rfl wF_X6_7 (rP hX.1 rfl) ?_
          refine T.iconst (pc' := 58) (v := nI 0) (q_d dX6_then_0 35 rfl) rfl (by decide) ?_
          refine T.iald (pc' := 59) (q_d dX6_then_0 36 rfl) rfl rfl (by decide) rfl (by omega) (by decide) (hX.2.1 0 (by decide)) ?_
          refine T.icmp_geN (tgt := 120) (pc' := 62) (q_d dX6_then_0 37 rfl) rfl (by decide) (by omega) (by omega) (fun h59 => ?_) (fun h59 => ?_)
          · exact absurd h59 (by omega)
          · refine T.iload (pc' := 64) (q_d dX6_then_0 38 rfl) rfl rfl ?_
            refine T.iload (pc' := 66) (q_d dX6_then_0 39 rfl) rfl rfl ?_
            refine T.ishr (pc' := 67) (q_d dX6_then_1 0 rfl) rfl (nN_shr (by omega) (by omega)) ?_
            refine T.iconst (pc' := 68) (v := nI 1) (q_d dX6_then_1 1 rfl) rfl (by decide) ?_
            refine T.iand (pc' := 69) (q_d dX6_then_1 2 rfl) rfl (nN_and _ _) ?_
            refine T.iconst (pc' := 70) (v := nI 1) (q_d dX6_then_1 3 rfl) rfl (by decide) ?_
            refine T.icmp_neN (tgt := 93) (pc' := 73) (q_d dX6_then_1 4 rfl) rfl (by decide) (by omega) (by omega) (fun h70 => ?_) (fun h70 => ?_)
            · refine T.iconst (pc' := 94) (v := nI 0) (q_d dX6_then_1 15 rfl) rfl (by decide) ?_
              refine T.istore (pc' := 96) (q_d dX6_then_1 16 rfl) rfl (by decide) rfl rfl ?_
              refine T.iload (pc' := 98) (q_d dX6_then_1 17 rfl) rfl rfl ?_
              refine T.iload (pc' := 100) (q_d dX6_then_1 18 rfl) rfl rfl ?_
              refine T.if_eqN (tgt := 110) (pc' := 103) (q_d dX6_then_1 19 rfl) rfl (by decide) (by omega) (fun h100 => ?_) (fun h100 => ?_)
              · refine T.iconst (pc' := 111) (v := nI 0) (q_d dX6_then_1 24 rfl) rfl (by decide) ?_
                refine T.ior (pc' := 112) (q_d dX6_then_1 25 rfl) rfl (nN_or _ _) ?_
                refine T.istore (pc' := 114) (q_d dX6_then_1 26 rfl) rfl (by decide) rfl rfl ?_
                refine T.iinc (pc' := 117) (q_d dX6_then_1 27 rfl) rfl rfl (nN_p _ 1) (by decide) rfl rfl ?_
                refine T.goto (tgt := 51) (q_d dX6_then_1 28 rfl) (by decide) ?_
                rw [hG] at h70
                first
                  | exact absurd h100 (by decide)
                  | exact absurd rfl h100
                  | exact nxt 0 _ rfl (by rw [if_neg (fun z => h70 z.1)]) _
                  | (have hneg : g = 4 := by
                       rcases hg with ⟨z1, z2⟩ | ⟨z1, z2⟩
                       · exact z2
                       · rw [z1] at h74; exact absurd (w_pos (by omega)) (Int32.not_le.mpr h74)
                     exact nxt _ _ rfl (by rw [if_pos ⟨h70, Or.inl hneg⟩]) _)
                  | (rcases hg with ⟨z1, z2⟩ | ⟨z1, z2⟩
                     · rw [z1] at h74; exact absurd (show nI 4294967295 < (0 : Int32) by decide) h74
                     · first
                       | exact nxt _ _ rfl (by rw [if_pos ⟨h70, Or.inr (by omega)⟩]) _
                       | exact nxt 0 _ rfl (by rw [if_neg (fun z => z.2.elim (fun y => by omega) (fun y => h86 (by omega)))]) _)
              · refine T.iconst (pc' := 104) (v := nI 1) (q_d dX6_then_1 20 rfl) rfl (by decide) ?_
                refine T.iload (pc' := 106) (q_d dX6_then_1 21 rfl) rfl rfl ?_
                refine T.ishl (pc' := 107) (q_d dX6_then_1 22 rfl) rfl (nN_shl _ (by omega)) ?_
                refine T.goto (tgt := 111) (q_d dX6_then_1 23 rfl) (by decide) ?_
                refine T.ior (pc' := 112) (q_d dX6_then_1 25 rfl) rfl (nN_or _ _) ?_
                refine T.istore (pc' := 114) (q_d dX6_then_1 26 rfl) rfl (by decide) rfl rfl ?_
                refine T.iinc (pc' := 117) (q_d dX6_then_1 27 rfl) rfl rfl (nN_p _ 1) (by decide) rfl rfl ?_
                refine T.goto (tgt := 51) (q_d dX6_then_1 28 rfl) (by decide) ?_
                rw [hG] at h70
                first
                  | exact absurd h100 (by decide)
                  | exact absurd rfl h100
                  | exact nxt 0 _ rfl (by rw [if_neg (fun z => h70 z.1)]) _
                  | (have hneg : g = 4 := by
                       rcases hg with ⟨z1, z2⟩ | ⟨z1, z2⟩
                       · exact z2
                       · rw [z1] at h74; exact absurd (w_pos (by omega)) (Int32.not_le.mpr h74)
                     exact nxt _ _ rfl (by rw [if_pos ⟨h70, Or.inl hneg⟩]) _)
                  | (rcases hg with ⟨z1, z2⟩ | ⟨z1, z2⟩
                     · rw [z1] at h74; exact absurd (show nI 4294967295 < (0 : Int32) by decide) h74
                     · first
                       | exact nxt _ _ rfl (by rw [if_pos ⟨h70, Or.inr (by omega)⟩]) _
                       | exact nxt 0 _ rfl (by rw [if_neg (fun z => z.2.elim (fun y => by omega) (fun y => h86 (by omega)))]) _)
            · refine T.iload_n (pc' := 74) (q_d dX6_then_1 5 rfl) rfl rfl rfl ?_
              refine T.if_lt (tgt := 89) (pc' := 77) (q_d dX6_then_1 6 rfl) rfl (by decide)  (fun h74 => ?_) (fun h74 => ?_)
              · refine T.iconst (pc' := 90) (v := nI 1) (q_d dX6_then_1 13 rfl) rfl (by decide) ?_
                refine T.goto (tgt := 94) (q_d dX6_then_1 14 rfl) (by decide) ?_
                refine T.istore (pc' := 96) (q_d dX6_then_1 16 rfl) rfl (by decide) rfl rfl ?_
                refine T.iload (pc' := 98) (q_d dX6_then_1 17 rfl) rfl rfl ?_
                refine T.iload (pc' := 100) (q_d dX6_then_1 18 rfl) rfl rfl ?_
                refine T.if_eqN (tgt := 110) (pc' := 103) (q_d dX6_then_1 19 rfl) rfl (by decide) (by omega) (fun h100 => ?_) (fun h100 => ?_)
                · refine T.iconst (pc' := 111) (v := nI 0) (q_d dX6_then_1 24 rfl) rfl (by decide) ?_
                  refine T.ior (pc' := 112) (q_d dX6_then_1 25 rfl) rfl (nN_or _ _) ?_
                  refine T.istore (pc' := 114) (q_d dX6_then_1 26 rfl) rfl (by decide) rfl rfl ?_
                  refine T.iinc (pc' := 117) (q_d dX6_then_1 27 rfl) rfl rfl (nN_p _ 1) (by decide) rfl rfl ?_
                  refine T.goto (tgt := 51) (q_d dX6_then_1 28 rfl) (by decide) ?_
                  rw [hG] at h70
                  first
                    | exact absurd h100 (by decide)
                    | exact absurd rfl h100
                    | exact nxt 0 _ rfl (by rw [if_neg (fun z => h70 z.1)]) _
                    | (have hneg : g = 4 := by
                         rcases hg with ⟨z1, z2⟩ | ⟨z1, z2⟩
                         · exact z2
                         · rw [z1] at h74; exact absurd (w_pos (by omega)) (Int32.not_le.mpr h74)
                       exact nxt _ _ rfl (by rw [if_pos ⟨h70, Or.inl hneg⟩]) _)
                    | (rcases hg with ⟨z1, z2⟩ | ⟨z1, z2⟩
                       · rw [z1] at h74; exact absurd (show nI 4294967295 < (0 : Int32) by decide) h74
                       · first
                         | exact nxt _ _ rfl (by rw [if_pos ⟨h70, Or.inr (by omega)⟩]) _
                         | exact nxt 0 _ rfl (by rw [if_neg (fun z => z.2.elim (fun y => by omega) (fun y => h86 (by omega)))]) _)
                · refine T.iconst (pc' := 104) (v := nI 1) (q_d dX6_then_1 20 rfl) rfl (by decide) ?_
                  refine T.iload (pc' := 106) (q_d dX6_then_1 21 rfl) rfl rfl ?_
                  refine T.ishl (pc' := 107) (q_d dX6_then_1 22 rfl) rfl (nN_shl _ (by omega)) ?_
                  refine T.goto (tgt := 111) (q_d dX6_then_1 23 rfl) (by decide) ?_
                  refine T.ior (pc' := 112) (q_d dX6_then_1 25 rfl) rfl (nN_or _ _) ?_
                  refine T.istore (pc' := 114) (q_d dX6_then_1 26 rfl) rfl (by decide) rfl rfl ?_
                  refine T.iinc (pc' := 117) (q_d dX6_then_1 27 rfl) rfl rfl (nN_p _ 1) (by decide) rfl rfl ?_
                  refine T.goto (tgt := 51) (q_d dX6_then_1 28 rfl) (by decide) ?_
                  rw [hG] at h70
                  first
                    | exact absurd h100 (by decide)
                    | exact absurd rfl h100
                    | exact nxt 0 _ rfl (by rw [if_neg (fun z => h70 z.1)]) _
                    | (have hneg : g = 4 := by
                         rcases hg with ⟨z1, z2⟩ | ⟨z1, z2⟩
                         · exact z2
                         · rw [z1] at h74; exact absurd (w_pos (by omega)) (Int32.not_le.mpr h74)
                       exact nxt _ _ rfl (by rw [if_pos ⟨h70, Or.inl hneg⟩]) _)
                    | (rcases hg with ⟨z1, z2⟩ | ⟨z1, z2⟩
                       · rw [z1] at h74; exact absurd (show nI 4294967295 < (0 : Int32) by decide) h74
                       · first
                         | exact nxt _ _ rfl (by rw [if_pos ⟨h70, Or.inr (by omega)⟩]) _
                         | exact nxt 0 _ rfl (by rw [if_neg (fun z => z.2.elim (fun y => by omega) (fun y => h86 (by omega)))]) _)
              · refine T.aload_n (pc' := 78) (q_d dX6_then_1 7 rfl) rfl rfl rfl ?_
                refine T.iload (pc' := 80) (q_d dX6_then_1 8 rfl) rfl rfl ?_
                refine T.iload (pc' := 82) (q_d dX6_then_1 9 rfl) rfl rfl ?_
                refine T.callV (pc' := 85) (ci := 6) (q_d dX6_then_1 10 rfl) rfl uX6_hears wM_X6_75 (m_hears hX (show p < 7 by omega) (show q < 7 by omega)) rfl rfl (by decide) rfl rfl (by decide) (Nat.le_of_ble_eq_true rfl) rfl rfl (fun _ => rfl) ?_
                rintro _ _ ⟨rfl, rfl⟩
                dsimp only [Option.toList, List.cons_append, List.nil_append, List.append_nil]
                refine T.iload_n (pc' := 86) (q_d dX6_then_1 11 rfl) rfl rfl rfl ?_
                refine T.icmp_neN (tgt := 93) (pc' := 89) (q_d dX6_then_1 12 rfl) rfl (by decide) (by omega) (by omega) (fun h86 => ?_) (fun h86 => ?_)
                · refine T.iconst (pc' := 94) (v := nI 0) (q_d dX6_then_1 15 rfl) rfl (by decide) ?_
                  refine T.istore (pc' := 96) (q_d dX6_then_1 16 rfl) rfl (by decide) rfl rfl ?_
                  refine T.iload (pc' := 98) (q_d dX6_then_1 17 rfl) rfl rfl ?_
                  refine T.iload (pc' := 100) (q_d dX6_then_1 18 rfl) rfl rfl ?_
                  refine T.if_eqN (tgt := 110) (pc' := 103) (q_d dX6_then_1 19 rfl) rfl (by decide) (by omega) (fun h100 => ?_) (fun h100 => ?_)
                  · refine T.iconst (pc' := 111) (v := nI 0) (q_d dX6_then_1 24 rfl) rfl (by decide) ?_
                    refine T.ior (pc' := 112) (q_d dX6_then_1 25 rfl) rfl (nN_or _ _) ?_
                    refine T.istore (pc' := 114) (q_d dX6_then_1 26 rfl) rfl (by decide) rfl rfl ?_
                    refine T.iinc (pc' := 117) (q_d dX6_then_1 27 rfl) rfl rfl (nN_p _ 1) (by decide) rfl rfl ?_
                    refine T.goto (tgt := 51) (q_d dX6_then_1 28 rfl) (by decide) ?_
                    rw [hG] at h70
                    first
                      | exact absurd h100 (by decide)
                      | exact absurd rfl h100
                      | exact nxt 0 _ rfl (by rw [if_neg (fun z => h70 z.1)]) _
                      | (have hneg : g = 4 := by
                           rcases hg with ⟨z1, z2⟩ | ⟨z1, z2⟩
                           · exact z2
                           · rw [z1] at h74; exact absurd (w_pos (by omega)) (Int32.not_le.mpr h74)
                         exact nxt _ _ rfl (by rw [if_pos ⟨h70, Or.inl hneg⟩]) _)
                      | (rcases hg with ⟨z1, z2⟩ | ⟨z1, z2⟩
                         · rw [z1] at h74; exact absurd (show nI 4294967295 < (0 : Int32) by decide) h74
                         · first
                           | exact nxt _ _ rfl (by rw [if_pos ⟨h70, Or.inr (by omega)⟩]) _
                           | exact nxt 0 _ rfl (by rw [if_neg (fun z => z.2.elim (fun y => by omega) (fun y => h86 (by omega)))]) _)
                  · refine T.iconst (pc' := 104) (v := nI 1) (q_d dX6_then_1 20 rfl) rfl (by decide) ?_
                    refine T.iload (pc' := 106) (q_d dX6_then_1 21 rfl) rfl rfl ?_
                    refine T.ishl (pc' := 107) (q_d dX6_then_1 22 rfl) rfl (nN_shl _ (by omega)) ?_
                    refine T.goto (tgt := 111) (q_d dX6_then_1 23 rfl) (by decide) ?_
                    refine T.ior (pc' := 112) (q_d dX6_then_1 25 rfl) rfl (nN_or _ _) ?_
                    refine T.istore (pc' := 114) (q_d dX6_then_1 26 rfl) rfl (by decide) rfl rfl ?_
                    refine T.iinc (pc' := 117) (q_d dX6_then_1 27 rfl) rfl rfl (nN_p _ 1) (by decide) rfl rfl ?_
                    refine T.goto (tgt := 51) (q_d dX6_then_1 28 rfl) (by decide) ?_
                    rw [hG] at h70
                    first
                      | exact absurd h100 (by decide)
                      | exact absurd rfl h100
                      | exact nxt 0 _ rfl (by rw [if_neg (fun z => h70 z.1)]) _
                      | (have hneg : g = 4 := by
                           rcases hg with ⟨z1, z2⟩ | ⟨z1, z2⟩
                           · exact z2
                           · rw [z1] at h74; exact absurd (w_pos (by omega)) (Int32.not_le.mpr h74)
                         exact nxt _ _ rfl (by rw [if_pos ⟨h70, Or.inl hneg⟩]) _)
                      | (rcases hg with ⟨z1, z2⟩ | ⟨z1, z2⟩
                         · rw [z1] at h74; exact absurd (show nI 4294967295 < (0 : Int32) by decide) h74
                         · first
                           | exact nxt _ _ rfl (by rw [if_pos ⟨h70, Or.inr (by omega)⟩]) _
                           | exact nxt 0 _ rfl (by rw [if_neg (fun z => z.2.elim (fun y => by omega) (fun y => h86 (by omega)))]) _)
                · refine T.iconst (pc' := 90) (v := nI 1) (q_d dX6_then_1 13 rfl) rfl (by decide) ?_
                  refine T.goto (tgt := 94) (q_d dX6_then_1 14 rfl) (by decide) ?_
                  refine T.istore (pc' := 96) (q_d dX6_then_1 16 rfl) rfl (by decide) rfl rfl ?_
                  refine T.iload (pc' := 98) (q_d dX6_then_1 17 rfl) rfl rfl ?_
                  refine T.iload (pc' := 100) (q_d dX6_then_1 18 rfl) rfl rfl ?_
                  refine T.if_eqN (tgt := 110) (pc' := 103) (q_d dX6_then_1 19 rfl) rfl (by decide) (by omega) (fun h100 => ?_) (fun h100 => ?_)
                  · refine T.iconst (pc' := 111) (v := nI 0) (q_d dX6_then_1 24 rfl) rfl (by decide) ?_
                    refine T.ior (pc' := 112) (q_d dX6_then_1 25 rfl) rfl (nN_or _ _) ?_
                    refine T.istore (pc' := 114) (q_d dX6_then_1 26 rfl) rfl (by decide) rfl rfl ?_
                    refine T.iinc (pc' := 117) (q_d dX6_then_1 27 rfl) rfl rfl (nN_p _ 1) (by decide) rfl rfl ?_
                    refine T.goto (tgt := 51) (q_d dX6_then_1 28 rfl) (by decide) ?_
                    rw [hG] at h70
                    first
                      | exact absurd h100 (by decide)
                      | exact absurd rfl h100
                      | exact nxt 0 _ rfl (by rw [if_neg (fun z => h70 z.1)]) _
                      | (have hneg : g = 4 := by
                           rcases hg with ⟨z1, z2⟩ | ⟨z1, z2⟩
                           · exact z2
                           · rw [z1] at h74; exact absurd (w_pos (by omega)) (Int32.not_le.mpr h74)
                         exact nxt _ _ rfl (by rw [if_pos ⟨h70, Or.inl hneg⟩]) _)
                      | (rcases hg with ⟨z1, z2⟩ | ⟨z1, z2⟩
                         · rw [z1] at h74; exact absurd (show nI 4294967295 < (0 : Int32) by decide) h74
                         · first
                           | exact nxt _ _ rfl (by rw [if_pos ⟨h70, Or.inr (by omega)⟩]) _
                           | exact nxt 0 _ rfl (by rw [if_neg (fun z => z.2.elim (fun y => by omega) (fun y => h86 (by omega)))]) _)
                  · refine T.iconst (pc' := 104) (v := nI 1) (q_d dX6_then_1 20 rfl) rfl (by decide) ?_
                    refine T.iload (pc' := 106) (q_d dX6_then_1 21 rfl) rfl rfl ?_
                    refine T.ishl (pc' := 107) (q_d dX6_then_1 22 rfl) rfl (nN_shl _ (by omega)) ?_
                    refine T.goto (tgt := 111) (q_d dX6_then_1 23 rfl) (by decide) ?_
                    refine T.ior (pc' := 112) (q_d dX6_then_1 25 rfl) rfl (nN_or _ _) ?_
                    refine T.istore (pc' := 114) (q_d dX6_then_1 26 rfl) rfl (by decide) rfl rfl ?_
                    refine T.iinc (pc' := 117) (q_d dX6_then_1 27 rfl) rfl rfl (nN_p _ 1) (by decide) rfl rfl ?_
                    refine T.goto (tgt := 51) (q_d dX6_then_1 28 rfl) (by decide) ?_
                    rw [hG] at h70
                    first
                      | exact absurd h100 (by decide)
                      | exact absurd rfl h100
                      | exact nxt 0 _ rfl (by rw [if_neg (fun z => h70 z.1)]) _
                      | (have hneg : g = 4 := by
                           rcases hg with ⟨z1, z2⟩ | ⟨z1, z2⟩
                           · exact z2
                           · rw [z1] at h74; exact absurd (w_pos (by omega)) (Int32.not_le.mpr h74)
                         exact nxt _ _ rfl (by rw [if_pos ⟨h70, Or.inl hneg⟩]) _)
                      | (rcases hg with ⟨z1, z2⟩ | ⟨z1, z2⟩
                         · rw [z1] at h74; exact absurd (show nI 4294967295 < (0 : Int32) by decide) h74
                         · first
                           | exact nxt _ _ rfl (by rw [if_pos ⟨h70, Or.inr (by omega)⟩]) _
                           | exact nxt 0 _ rfl (by rw [if_neg (fun z => z.2.elim (fun y => by omega) (fun y => h86 (by omega)))]) _)
      refine T.iload (pc' := 8) (q_d dX6_then_0 4 rfl) rfl rfl ?_
      refine T.aload_n (pc' := 9) (q_d dX6_then_0 5 rfl) rfl rfl rfl ?_
      refine T.getR (pc' := 12) (ci := 6) (k0 := 0) (q_d dX6_then_0 6 rfl) rfl rfl (by decide) rfl inX6 (by decide) rfl wF_X6_7 (rP hX.1 rfl) ?_
      refine T.iconst (pc' := 13) (v := nI 0) (q_d dX6_then_0 7 rfl) rfl (by decide) ?_
      refine T.iald (pc' := 14) (q_d dX6_then_0 8 rfl) rfl rfl (by decide) rfl (by omega) (by decide) (hX.2.1 0 (by decide)) ?_
      refine T.icmp_geN (tgt := 126) (pc' := 17) (q_d dX6_then_0 9 rfl) rfl (by decide) (by omega) (by omega) (fun h14 => ?_) (fun h14 => ?_)
      · exact absurd h14 (by omega)
      · refine T.iload_n (pc' := 18) (q_d dX6_then_0 10 rfl) rfl rfl rfl ?_
        refine T.iload_n (pc' := 19) (q_d dX6_then_0 11 rfl) rfl rfl rfl ?_
        refine T.iconst (pc' := 20) (v := nI 4294967295) (q_d dX6_then_0 12 rfl) rfl (by decide) ?_
        refine T.ixor (pc' := 21) (q_d dX6_then_0 13 rfl) rfl (nN_xor _ _) ?_
        refine T.iand (pc' := 22) (q_d dX6_then_0 14 rfl) rfl ((nN_and _ _).trans (by rw [ed])) ?_
        refine T.iload (pc' := 24) (q_d dX6_then_0 15 rfl) rfl rfl ?_
        refine T.ishr (pc' := 25) (q_d dX6_then_0 16 rfl) rfl (nN_shr (by omega) (by omega)) ?_
        refine T.iconst (pc' := 26) (v := nI 1) (q_d dX6_then_0 17 rfl) rfl (by decide) ?_
        refine T.iand (pc' := 27) (q_d dX6_then_0 18 rfl) rfl (nN_and _ _) ?_
        refine T.istore (pc' := 29) (q_d dX6_then_0 19 rfl) rfl (by decide) rfl rfl ?_
        refine T.iload (pc' := 31) (q_d dX6_then_0 20 rfl) rfl rfl ?_
        refine T.iconst (pc' := 32) (v := nI 1) (q_d dX6_then_0 21 rfl) rfl (by decide) ?_
        refine T.icmp_neN (tgt := 45) (pc' := 35) (q_d dX6_then_0 22 rfl) rfl (by decide) (by omega) (by omega) (fun h32 => ?_) (fun h32 => ?_)
        · refine T.iconst (pc' := 46) (v := nI 0) (q_d dX6_then_0 28 rfl) rfl (by decide) ?_
          refine T.istore (pc' := 48) (q_d dX6_then_0 29 rfl) rfl (by decide) rfl rfl ?_
          refine T.iconst (pc' := 49) (v := nI 0) (q_d dX6_then_0 30 rfl) rfl (by decide) ?_
          refine T.istore (pc' := 51) (q_d dX6_then_0 31 rfl) rfl (by decide) rfl rfl ?_
          refine T.drop (loc' := [some (.ref 0), some (.int (nI x)), some (.int (nI c)), some (.int (nI g')), some (.int (nI acc)), some (.int (nI p)), some (.int (nI (dif x c >>> p &&& 1))), some (.int (nI _)), some (.int (nI 0)), none]) ⟨rfl, rfl, rfl, rfl, rfl, rfl, rfl, rfl, rfl, trivial⟩ ?_
          first
            | exact inner (s 0) 0 _ acc _ (by omega) (by rw [if_pos h32]) (by simp [orTo])
            | exact inner (s 0) 0 _ acc _ (by omega) (by rw [if_neg h32]) (by simp [orTo])
        · refine T.aload_n (pc' := 36) (q_d dX6_then_0 23 rfl) rfl rfl rfl ?_
          refine T.iload (pc' := 38) (q_d dX6_then_0 24 rfl) rfl rfl ?_
          refine T.iload_n (pc' := 39) (q_d dX6_then_0 25 rfl) rfl rfl rfl ?_
          refine T.callV (pc' := 42) (ci := 6) (q_d dX6_then_0 26 rfl) rfl uX6_goes wM_X6_71 (m_goes hX (show p < s 0 by omega)) rfl rfl (by decide) rfl rfl (by decide) (Nat.le_of_ble_eq_true rfl) rfl rfl (fun _ => rfl) ?_
          rintro _ _ ⟨rfl, rfl⟩
          dsimp only [Option.toList, List.cons_append, List.nil_append, List.append_nil]
          refine T.goto (tgt := 46) (q_d dX6_then_0 27 rfl) (by decide) ?_
          refine T.istore (pc' := 48) (q_d dX6_then_0 29 rfl) rfl (by decide) rfl rfl ?_
          refine T.iconst (pc' := 49) (v := nI 0) (q_d dX6_then_0 30 rfl) rfl (by decide) ?_
          refine T.istore (pc' := 51) (q_d dX6_then_0 31 rfl) rfl (by decide) rfl rfl ?_
          refine T.drop (loc' := [some (.ref 0), some (.int (nI x)), some (.int (nI c)), some (.int (nI g')), some (.int (nI acc)), some (.int (nI p)), some (.int (nI (dif x c >>> p &&& 1))), some (.int (nI _)), some (.int (nI 0)), none]) ⟨rfl, rfl, rfl, rfl, rfl, rfl, rfl, rfl, rfl, trivial⟩ ?_
          first
            | exact inner (s 0) 0 _ acc _ (by omega) (by rw [if_pos h32]) (by simp [orTo])
            | exact inner (s 0) 0 _ acc _ (by omega) (by rw [if_neg h32]) (by simp [orTo])
  refine T.iconst (pc' := 1) (v := nI 0) (q_d dX6_then_0 0 rfl) rfl (by decide) ?_
  refine T.istore (pc' := 3) (q_d dX6_then_0 1 rfl) rfl (by decide) rfl rfl ?_
  refine T.iconst (pc' := 4) (v := nI 0) (q_d dX6_then_0 2 rfl) rfl (by decide) ?_
  refine T.istore (pc' := 6) (q_d dX6_then_0 3 rfl) rfl (by decide) rfl rfl ?_
  exact loop (s 0) 0 _ (by omega) rfl
end CM1
