/-! the reference: what is told of beliefs -/
theorem mostTo_ge {nd : Nat → Nat} : ∀ k x, 1 ≤ x → x ≤ k → nd x ≠ 1000 → nd x ≤ mostTo nd k
  | 0, x, h1, h2, _ => by omega
  | k + 1, x, h1, h2, h3 => by
    unfold mostTo
    by_cases e : x = k + 1
    · subst e
      split
      · exact Nat.le_refl _
      · next h => exact Nat.not_lt.mp (fun q => h ⟨h3, q⟩)
    · have := mostTo_ge k x h1 (by omega) h3
      split <;> omega
theorem mostTo_at {nd : Nat → Nat} : ∀ k, mostTo nd k = 0 ∨ ∃ x, 1 ≤ x ∧ x ≤ k ∧ nd x = mostTo nd k
  | 0 => Or.inl rfl
  | k + 1 => by
    unfold mostTo
    split
    · exact Or.inr ⟨k + 1, by omega, Nat.le_refl _, rfl⟩
    · rcases mostTo_at (nd := nd) k with h | ⟨x, h1, h2, h3⟩
      · exact Or.inl h
      · exact Or.inr ⟨x, h1, by omega, h3⟩
theorem hard_step (nd : Nat → Nat) (m n : Nat) : hardN nd m (n + 1) = (hardN nd m n).or (if 0 < n ∧ nd n = m then some n else none) := by
  unfold hardN
  rw [List.range_succ, List.find?_append]
  congr 1
  by_cases h : 0 < n ∧ nd n = m
  · rw [if_pos h]; simp [h.1, h.2]
  · rw [if_neg h]
    rw [List.find?_eq_none]
    intro x hx
    have : x = n := by simpa using hx
    subst this
    simpa using h
theorem hard_none {nd : Nat → Nat} {m n : Nat} (h : ∀ x, 1 ≤ x → x < n → nd x ≠ m) : hardN nd m n = none := by
  unfold hardN
  rw [List.find?_eq_none]
  intro x hx
  have := List.mem_range.mp hx
  by_cases h0 : 1 ≤ x
  · have := h x h0 (by omega)
    simp [this]
  · simp; omega
theorem hard_some {nd : Nat → Nat} {m n : Nat} {x : Nat} (h1 : 1 ≤ x) (h2 : x < n) (h3 : nd x = m) : ∃ y, hardN nd m n = some y := by
  cases h : hardN nd m n with
  | some y => exact ⟨y, rfl⟩
  | none =>
    unfold hardN at h
    rw [List.find?_eq_none] at h
    have := h x (List.mem_range.mpr h2)
    simp [h3] at this
    omega
theorem hard_go {nd : Nat → Nat} (hp : ∀ x, 1 ≤ x → 0 < nd x) (hv : ∀ y, nd y = 1000 ∨ nd y ≤ 127) (k : Nat) : hardN nd (mostTo nd (k + 1)) (k + 2) = if nd (k + 1) ≠ 1000 ∧ mostTo nd k < nd (k + 1) then some (k + 1) else hardN nd (mostTo nd k) (k + 1) := by
  have hm := mostTo_le hv k
  by_cases h : nd (k + 1) ≠ 1000 ∧ mostTo nd k < nd (k + 1)
  · rw [if_pos h, mostTo, if_pos h, hard_step, hard_none (fun x h1 h2 h3 => ?_), if_pos ⟨by omega, rfl⟩]; rfl
    by_cases e : nd x = 1000
    · exact h.1 (h3.symm.trans e)
    · have := mostTo_ge k x h1 (by omega) e
      omega
  · rw [if_neg h, mostTo, if_neg h, hard_step]
    by_cases e : 0 < k + 1 ∧ nd (k + 1) = mostTo nd k
    · rcases mostTo_at (nd := nd) k with h0 | ⟨x, h1, h2, h3⟩
      · have := hp (k + 1) (by omega); omega
      · obtain ⟨y, hy⟩ := hard_some (nd := nd) (m := mostTo nd k) (n := k + 1) h1 (by omega) h3
        rw [hy]; rfl
    · rw [if_neg e, Option.or_none]
section CM6
variable {l : Launch} {M M' : qM} {b b' : Nat} {s s' : Nat → Nat} {k : Nat} {was : Nat → Nat → Nat} {n : Nat} {t : Nat → Nat}
theorem RM.sol {M' : qM} (q : RM M b s k was n t) (h2 : M'.2 = M.2) (ha : ∀ a, a ≠ 6 → a ≠ 7 → M'.1 a = M.1 a) : RM M' b s k was n t :=
  q.sc ⟨by rw [h2], ha 1 (by decide) (by decide), ha 2 (by decide) (by decide), ha 5 (by decide) (by decide), by rw [ha 0 (by decide) (by decide)], by rw [ha 0 (by decide) (by decide)]⟩
theorem RM.seen {M' : qM} (q : RM M b s k was n t) (h2 : M'.2 = M.2) (ha : ∀ a, a ≠ 8 → M'.1 a = M.1 a) : RM M' b s k was n t :=
  q.sc ⟨by rw [h2], ha 1 (by decide), ha 2 (by decide), ha 5 (by decide), by rw [ha 0 (by decide)], by rw [ha 0 (by decide)]⟩
theorem m_sure (hX : RM M b s k was n t) {u v : Nat} (hu : u < 4294967296) (hv : v < 4294967296) : Ct l hdM kM mX6_sure [.ref 0, .int (nI u), .int (nI v)] M (OM b (qSure s u v, (s, k, was, n, t))) := by
  refine Ct.of [some (.ref 0), some (.int (nI u)), some (.int (nI v))] (by decide +kernel) (fun h => absurd h (by decide)) (Nat.le_of_ble_eq_true rfl) rfl ?_
  have e := inS_iff (lo := 0) (hi := 1) hv (by decide) (by decide)
  have nv := sol_vals (s := s) (g0 := 0) (g1 := 3) u
  by_cases a1 : u < 2 ^ s 0
  · have w0 := p2_le hX.2.2.1.1
    by_cases a2 : v ≤ 1
    · have e1 : inS v 0 1 = true := e.mpr ⟨Nat.zero_le _, a2⟩
      refine T.aload_n (pc' := 1) (q_d dX6_sure_0 0 rfl) rfl rfl rfl ?_
      refine T.iload_n (pc' := 2) (q_d dX6_sure_0 1 rfl) rfl rfl rfl ?_
      refine T.callV (pc' := 5) (ci := 6) (q_d dX6_sure_0 2 rfl) rfl uX6_isSet wM_X6_78 (m_isSet hX hu) rfl rfl (by decide) rfl rfl (by decide) (Nat.le_of_ble_eq_true rfl) rfl rfl (fun _ => rfl) ?_
      rintro _ _ ⟨rfl, rfl⟩
      dsimp only [Option.toList, List.cons_append, List.nil_append, List.append_nil]
      refine T.if_eqN (tgt := 17) (pc' := 8) (q_d dX6_sure_0 3 rfl) rfl (by decide) (by split <;> decide) (fun h5 => ?_) (fun h5 => ?_)
      · exact absurd h5 (by rw [if_pos a1]; decide)
      · refine T.iload_n (pc' := 9) (q_d dX6_sure_0 4 rfl) rfl rfl rfl ?_
        refine T.iconst (pc' := 10) (v := nI 0) (q_d dX6_sure_0 5 rfl) rfl (by decide) ?_
        refine T.iconst (pc' := 11) (v := nI 1) (q_d dX6_sure_0 6 rfl) rfl (by decide) ?_
        refine T.callS (pc' := 14) (q_d dX6_sure_0 7 rfl) rfl uX6_in wM_X6_43 (m_in hv (by decide) (hi := 1) (by decide)) rfl rfl (by decide) (Nat.le_of_ble_eq_true rfl) rfl rfl (fun _ => rfl) ?_
        rintro _ _ ⟨rfl, rfl⟩
        dsimp only [Option.toList, List.cons_append, List.nil_append, List.append_nil]
        refine T.if_neN (tgt := 20) (pc' := 17) (q_d dX6_sure_0 8 rfl) rfl (by decide) (by split <;> decide) (fun h14 => ?_) (fun h14 => ?_)
        · refine T.aload_n (pc' := 21) (q_d dX6_sure_0 11 rfl) rfl rfl rfl ?_
          refine T.iconst (pc' := 22) (v := nI 1) (q_d dX6_sure_0 12 rfl) rfl (by decide) ?_
          refine T.callV (pc' := 25) (ci := 6) (q_d dX6_sure_0 13 rfl) rfl uX6_solves wM_X6_96 (m_solves hX (z := 1) (Or.inl ⟨rfl, rfl, rfl⟩)) rfl rfl (by decide) rfl rfl (by decide) (Nat.le_of_ble_eq_true rfl) rfl rfl (fun _ => rfl) ?_
          rintro _ M2 ⟨rfl, f2, fa, f1⟩
          have hX2 := hX.sol f2 fa
          have hn := f1 u a1
          dsimp only [Option.toList, List.cons_append, List.nil_append, List.append_nil]
          refine T.aload_n (pc' := 26) (q_d dX6_sure_0 14 rfl) rfl rfl rfl ?_
          refine T.getR (pc' := 29) (ci := 6) (k0 := 10) (q_d dX6_sure_0 15 rfl) rfl rfl (by decide) rfl inX6 (by decide) rfl wF_X6_26 (rP (P := pM) (by first | exact hX2.1 | exact hX.1) rfl) ?_
          refine T.iload_n (pc' := 30) (q_d dX6_sure_0 16 rfl) rfl rfl rfl ?_
          refine T.iald (pc' := 31) (q_d dX6_sure_0 17 rfl) rfl rfl (by decide) rfl (by omega) (by decide) hn.1 ?_
          refine T.sipush (pc' := 34) (v := nI 1000) (q_d dX6_sure_0 18 rfl) rfl (by decide) ?_
          refine T.icmp_neN (tgt := 42) (pc' := 37) (q_d dX6_sure_0 19 rfl) rfl (by decide) (by omega) (by omega) (fun h34 => ?_) (fun h34 => ?_)
          · refine T.iload_n (pc' := 43) (q_d dX6_sure_0 22 rfl) rfl rfl rfl ?_
            refine T.if_neN (tgt := 55) (pc' := 46) (q_d dX6_sure_0 23 rfl) rfl (by decide) (by omega) (fun h43 => ?_) (fun h43 => ?_)
            · refine T.aload_n (pc' := 56) (q_d dX6_sure_0 29 rfl) rfl rfl rfl ?_
              refine T.getR (pc' := 59) (ci := 6) (k0 := 11) (q_d dX6_sure_0 30 rfl) rfl rfl (by decide) rfl inX6 (by decide) rfl wF_X6_29 (rP (P := pM) (by first | exact hX2.1 | exact hX.1) rfl) ?_
              refine T.iload_n (pc' := 60) (q_d dX6_sure_0 31 rfl) rfl rfl rfl ?_
              refine T.iald (pc' := 61) (q_d dX6_sure_0 32 rfl) rfl rfl (by decide) rfl (by omega) (by decide) hn.2 ?_
              refine T.iret (q_d dX6_sure_0 33 rfl) rfl rfl rfl ?_
              refine ⟨?_, hX2⟩
              unfold qSure
              rw [if_pos ⟨a1, a2⟩]
              first
                | (rw [if_pos h34]; done)
                | (rw [if_neg h34, if_pos h43]; done)
                | (rw [if_neg h34, if_neg h43]; done)
            · refine T.aload_n (pc' := 47) (q_d dX6_sure_0 24 rfl) rfl rfl rfl ?_
              refine T.getR (pc' := 50) (ci := 6) (k0 := 10) (q_d dX6_sure_0 25 rfl) rfl rfl (by decide) rfl inX6 (by decide) rfl wF_X6_26 (rP (P := pM) (by first | exact hX2.1 | exact hX.1) rfl) ?_
              refine T.iload_n (pc' := 51) (q_d dX6_sure_0 26 rfl) rfl rfl rfl ?_
              refine T.iald (pc' := 52) (q_d dX6_sure_0 27 rfl) rfl rfl (by decide) rfl (by omega) (by decide) hn.1 ?_
              refine T.goto (tgt := 61) (q_d dX6_sure_0 28 rfl) (by decide) ?_
              refine T.iret (q_d dX6_sure_0 33 rfl) rfl rfl rfl ?_
              refine ⟨?_, hX2⟩
              unfold qSure
              rw [if_pos ⟨a1, a2⟩]
              first
                | (rw [if_pos h34]; done)
                | (rw [if_neg h34, if_pos h43]; done)
                | (rw [if_neg h34, if_neg h43]; done)
          · refine T.ldc (pc' := 39) (v := nI 4293967292) (q_d dX6_sure_0 20 rfl) rfl wN_X6_91 ?_
            refine T.goto (tgt := 61) (q_d dX6_sure_0 21 rfl) (by decide) ?_
            refine T.iret (q_d dX6_sure_0 33 rfl) rfl rfl rfl ?_
            refine ⟨?_, hX2⟩
            unfold qSure
            rw [if_pos ⟨a1, a2⟩]
            first
              | (rw [if_pos h34]; done)
              | (rw [if_neg h34, if_pos h43]; done)
              | (rw [if_neg h34, if_neg h43]; done)
        · exact absurd h14 (by rw [if_pos e1]; decide)
    · have e1 : ¬ inS v 0 1 = true := fun q => a2 (e.mp q).2
      refine T.aload_n (pc' := 1) (q_d dX6_sure_0 0 rfl) rfl rfl rfl ?_
      refine T.iload_n (pc' := 2) (q_d dX6_sure_0 1 rfl) rfl rfl rfl ?_
      refine T.callV (pc' := 5) (ci := 6) (q_d dX6_sure_0 2 rfl) rfl uX6_isSet wM_X6_78 (m_isSet hX hu) rfl rfl (by decide) rfl rfl (by decide) (Nat.le_of_ble_eq_true rfl) rfl rfl (fun _ => rfl) ?_
      rintro _ _ ⟨rfl, rfl⟩
      dsimp only [Option.toList, List.cons_append, List.nil_append, List.append_nil]
      refine T.if_eqN (tgt := 17) (pc' := 8) (q_d dX6_sure_0 3 rfl) rfl (by decide) (by split <;> decide) (fun h5 => ?_) (fun h5 => ?_)
      · exact absurd h5 (by rw [if_pos a1]; decide)
      · refine T.iload_n (pc' := 9) (q_d dX6_sure_0 4 rfl) rfl rfl rfl ?_
        refine T.iconst (pc' := 10) (v := nI 0) (q_d dX6_sure_0 5 rfl) rfl (by decide) ?_
        refine T.iconst (pc' := 11) (v := nI 1) (q_d dX6_sure_0 6 rfl) rfl (by decide) ?_
        refine T.callS (pc' := 14) (q_d dX6_sure_0 7 rfl) rfl uX6_in wM_X6_43 (m_in hv (by decide) (hi := 1) (by decide)) rfl rfl (by decide) (Nat.le_of_ble_eq_true rfl) rfl rfl (fun _ => rfl) ?_
        rintro _ _ ⟨rfl, rfl⟩
        dsimp only [Option.toList, List.cons_append, List.nil_append, List.append_nil]
        refine T.if_neN (tgt := 20) (pc' := 17) (q_d dX6_sure_0 8 rfl) rfl (by decide) (by split <;> decide) (fun h14 => ?_) (fun h14 => ?_)
        · exact absurd (if_neg e1) h14
        · refine T.ldc (pc' := 19) (v := nI 4293967295) (q_d dX6_sure_0 9 rfl) rfl wN_X6_47 ?_
          refine T.iret (q_d dX6_sure_0 10 rfl) rfl rfl rfl ?_
          exact ⟨by unfold qSure; rw [if_neg (fun q => a2 q.2)], hX⟩
  · refine T.aload_n (pc' := 1) (q_d dX6_sure_0 0 rfl) rfl rfl rfl ?_
    refine T.iload_n (pc' := 2) (q_d dX6_sure_0 1 rfl) rfl rfl rfl ?_
    refine T.callV (pc' := 5) (ci := 6) (q_d dX6_sure_0 2 rfl) rfl uX6_isSet wM_X6_78 (m_isSet hX hu) rfl rfl (by decide) rfl rfl (by decide) (Nat.le_of_ble_eq_true rfl) rfl rfl (fun _ => rfl) ?_
    rintro _ _ ⟨rfl, rfl⟩
    dsimp only [Option.toList, List.cons_append, List.nil_append, List.append_nil]
    refine T.if_eqN (tgt := 17) (pc' := 8) (q_d dX6_sure_0 3 rfl) rfl (by decide) (by split <;> decide) (fun h5 => ?_) (fun h5 => ?_)
    · refine T.ldc (pc' := 19) (v := nI 4293967295) (q_d dX6_sure_0 9 rfl) rfl wN_X6_47 ?_
      refine T.iret (q_d dX6_sure_0 10 rfl) rfl rfl rfl ?_
      exact ⟨by unfold qSure; rw [if_neg (fun q => a1 q.1)], hX⟩
    · exact absurd (if_neg a1) h5
theorem m_deaf (hX : RM M b s k was n t) {u : Nat} (hu : u < 4294967296) : Ct l hdM kM mX6_deaf [.ref 0, .int (nI u)] M (OM b (qDeaf s u, (s, k, was, n, t))) := by
  refine Ct.of [some (.ref 0), some (.int (nI u))] (by decide +kernel) (fun h => absurd h (by decide)) (Nat.le_of_ble_eq_true rfl) rfl ?_
  have nv := sol_vals (s := s) (g0 := 4) (g1 := 4) u
  by_cases a1 : u < 2 ^ s 0
  · have w0 := p2_le hX.2.2.1.1
    refine T.aload_n (pc' := 1) (q_d dX6_deaf_0 0 rfl) rfl rfl rfl ?_
    refine T.iload_n (pc' := 2) (q_d dX6_deaf_0 1 rfl) rfl rfl rfl ?_
    refine T.callV (pc' := 5) (ci := 6) (q_d dX6_deaf_0 2 rfl) rfl uX6_isSet wM_X6_78 (m_isSet hX hu) rfl rfl (by decide) rfl rfl (by decide) (Nat.le_of_ble_eq_true rfl) rfl rfl (fun _ => rfl) ?_
    rintro _ _ ⟨rfl, rfl⟩
    dsimp only [Option.toList, List.cons_append, List.nil_append, List.append_nil]
    refine T.if_neN (tgt := 11) (pc' := 8) (q_d dX6_deaf_0 3 rfl) rfl (by decide) (by split <;> decide) (fun h5 => ?_) (fun h5 => ?_)
    · refine T.aload_n (pc' := 12) (q_d dX6_deaf_0 6 rfl) rfl rfl rfl ?_
      refine T.iconst (pc' := 13) (v := nI 0) (q_d dX6_deaf_0 7 rfl) rfl (by decide) ?_
      refine T.callV (pc' := 16) (ci := 6) (q_d dX6_deaf_0 8 rfl) rfl uX6_solves wM_X6_96 (m_solves hX (z := 0) (Or.inr ⟨rfl, rfl, rfl⟩)) rfl rfl (by decide) rfl rfl (by decide) (Nat.le_of_ble_eq_true rfl) rfl rfl (fun _ => rfl) ?_
      rintro _ M2 ⟨rfl, f2, fa, f1⟩
      have hX2 := hX.sol f2 fa
      have hn := f1 u a1
      dsimp only [Option.toList, List.cons_append, List.nil_append, List.append_nil]
      refine T.aload_n (pc' := 17) (q_d dX6_deaf_0 9 rfl) rfl rfl rfl ?_
      refine T.getR (pc' := 20) (ci := 6) (k0 := 10) (q_d dX6_deaf_0 10 rfl) rfl rfl (by decide) rfl inX6 (by decide) rfl wF_X6_26 (rP (P := pM) (by first | exact hX2.1 | exact hX.1) rfl) ?_
      refine T.iload_n (pc' := 21) (q_d dX6_deaf_0 11 rfl) rfl rfl rfl ?_
      refine T.iald (pc' := 22) (q_d dX6_deaf_0 12 rfl) rfl rfl (by decide) rfl (by omega) (by decide) hn.1 ?_
      refine T.sipush (pc' := 25) (v := nI 1000) (q_d dX6_deaf_0 13 rfl) rfl (by decide) ?_
      refine T.icmp_neN (tgt := 33) (pc' := 28) (q_d dX6_deaf_0 14 rfl) rfl (by decide) (by omega) (by omega) (fun h25 => ?_) (fun h25 => ?_)
      · refine T.aload_n (pc' := 34) (q_d dX6_deaf_0 17 rfl) rfl rfl rfl ?_
        refine T.getR (pc' := 37) (ci := 6) (k0 := 10) (q_d dX6_deaf_0 18 rfl) rfl rfl (by decide) rfl inX6 (by decide) rfl wF_X6_26 (rP (P := pM) (by first | exact hX2.1 | exact hX.1) rfl) ?_
        refine T.iload_n (pc' := 38) (q_d dX6_deaf_0 19 rfl) rfl rfl rfl ?_
        refine T.iald (pc' := 39) (q_d dX6_deaf_0 20 rfl) rfl rfl (by decide) rfl (by omega) (by decide) hn.1 ?_
        refine T.iret (q_d dX6_deaf_0 21 rfl) rfl rfl rfl ?_
        refine ⟨?_, hX2⟩
        unfold qDeaf
        rw [if_pos a1]
        first
          | (rw [if_pos h25]; done)
          | (rw [if_neg h25]; done)
      · refine T.ldc (pc' := 30) (v := nI 4293967292) (q_d dX6_deaf_0 15 rfl) rfl wN_X6_91 ?_
        refine T.goto (tgt := 39) (q_d dX6_deaf_0 16 rfl) (by decide) ?_
        refine T.iret (q_d dX6_deaf_0 21 rfl) rfl rfl rfl ?_
        refine ⟨?_, hX2⟩
        unfold qDeaf
        rw [if_pos a1]
        first
          | (rw [if_pos h25]; done)
          | (rw [if_neg h25]; done)
    · exact absurd h5 (by rw [if_pos a1]; decide)
  · refine T.aload_n (pc' := 1) (q_d dX6_deaf_0 0 rfl) rfl rfl rfl ?_
    refine T.iload_n (pc' := 2) (q_d dX6_deaf_0 1 rfl) rfl rfl rfl ?_
    refine T.callV (pc' := 5) (ci := 6) (q_d dX6_deaf_0 2 rfl) rfl uX6_isSet wM_X6_78 (m_isSet hX hu) rfl rfl (by decide) rfl rfl (by decide) (Nat.le_of_ble_eq_true rfl) rfl rfl (fun _ => rfl) ?_
    rintro _ _ ⟨rfl, rfl⟩
    dsimp only [Option.toList, List.cons_append, List.nil_append, List.append_nil]
    refine T.if_neN (tgt := 11) (pc' := 8) (q_d dX6_deaf_0 3 rfl) rfl (by decide) (by split <;> decide) (fun h5 => ?_) (fun h5 => ?_)
    · exact absurd (if_neg a1) h5
    · refine T.ldc (pc' := 10) (v := nI 4293967295) (q_d dX6_deaf_0 4 rfl) rfl wN_X6_47 ?_
      refine T.iret (q_d dX6_deaf_0 5 rfl) rfl rfl rfl ?_
      exact ⟨by unfold qDeaf; rw [if_neg a1], hX⟩
theorem m_dangers (hX : RM M b s k was n t) {u : Nat} (hu : u < 4294967296) : Ct l hdM kM mX6_dangers [.ref 0, .int (nI u)] M (OM b (qDangers s u, (s, k, was, n, t))) := by
  refine Ct.of [some (.ref 0), some (.int (nI u)), none, none] (by decide +kernel) (fun h => absurd h (by decide)) (Nat.le_of_ble_eq_true rfl) rfl ?_
  have nv := sol_vals (s := s) (g0 := 0) (g1 := 3)
  have nv1 := nv u
  have w7 := hX.2.2.1.1
  have w0 := p2_le w7
  by_cases a1 : u < 2 ^ s 0
  · have loop : ∀ d i (M' : qM), i + d = s 0 → RM M' b s k was n t → (∀ x, x < 2 ^ s 0 → M'.1 6 x = (solN s 0 3 127).1 x ∧ M'.1 7 x = (solN s 0 3 127).2 x) → (solN s 0 3 127).1 u ≠ 1000 → T l hdM kM mX6_dangers (OM b (qDangers s u, (s, k, was, n, t))) 0 0 35 [some (.ref 0), some (.int (nI u)), some (.int (nI (orTo (fun p => if (solN s 0 3 127).1 (u ||| 1 <<< p) = 1000 then 1 <<< p else 0) i))), some (.int (nI i))] [] M' := by
      intro d
      induction d with
      | zero =>
        intro i M' hi hX2 hR hne
        have ei : i = s 0 := by omega
        refine T.iload_n (pc' := 36) (q_d dX6_dangers_0 21 rfl) rfl rfl rfl ?_
        refine T.aload_n (pc' := 37) (q_d dX6_dangers_0 22 rfl) rfl rfl rfl ?_
        refine T.getR (pc' := 40) (ci := 6) (k0 := 0) (q_d dX6_dangers_0 23 rfl) rfl rfl (by decide) rfl inX6 (by decide) rfl wF_X6_7 (rP hX2.1 rfl) ?_
        refine T.iconst (pc' := 41) (v := nI 0) (q_d dX6_dangers_0 24 rfl) rfl (by decide) ?_
        refine T.iald (pc' := 42) (q_d dX6_dangers_0 25 rfl) rfl rfl (by decide) rfl (by omega) (by decide) (hX2.2.1 0 (by decide)) ?_
        refine T.icmp_geN (tgt := 77) (pc' := 45) (q_d dX6_dangers_0 26 rfl) rfl (by decide) (by omega) (by omega) (fun h42 => ?_) (fun h42 => ?_)
        · refine T.iload_n (pc' := 78) (q_d dX6_dangers_1 7 rfl) rfl rfl rfl ?_
          refine T.iret (q_d dX6_dangers_1 8 rfl) rfl rfl rfl ?_
          exact ⟨by unfold qDangers; rw [if_pos a1, if_neg hne, ei], hX2⟩
        · exact absurd h42 (by omega)
      | succ d ih =>
        intro i M' hi hX2 hR hne
        have hor : u ||| 1 <<< i < 2 ^ s 0 := Nat.or_lt_two_pow a1 (by rw [Nat.one_shiftLeft]; exact Nat.pow_lt_pow_right (by decide) (by omega))
        have nv2 := nv (u ||| 1 <<< i)
        have hn := (hR (u ||| 1 <<< i) hor).1
        refine T.iload_n (pc' := 36) (q_d dX6_dangers_0 21 rfl) rfl rfl rfl ?_
        refine T.aload_n (pc' := 37) (q_d dX6_dangers_0 22 rfl) rfl rfl rfl ?_
        refine T.getR (pc' := 40) (ci := 6) (k0 := 0) (q_d dX6_dangers_0 23 rfl) rfl rfl (by decide) rfl inX6 (by decide) rfl wF_X6_7 (rP hX2.1 rfl) ?_
        refine T.iconst (pc' := 41) (v := nI 0) (q_d dX6_dangers_0 24 rfl) rfl (by decide) ?_
        refine T.iald (pc' := 42) (q_d dX6_dangers_0 25 rfl) rfl rfl (by decide) rfl (by omega) (by decide) (hX2.2.1 0 (by decide)) ?_
        refine T.icmp_geN (tgt := 77) (pc' := 45) (q_d dX6_dangers_0 26 rfl) rfl (by decide) (by omega) (by omega) (fun h42 => ?_) (fun h42 => ?_)
        · exact absurd h42 (by omega)
        · refine T.iload_n (pc' := 46) (q_d dX6_dangers_0 27 rfl) rfl rfl rfl ?_
          refine T.aload_n (pc' := 47) (q_d dX6_dangers_0 28 rfl) rfl rfl rfl ?_
          refine T.getR (pc' := 50) (ci := 6) (k0 := 10) (q_d dX6_dangers_0 29 rfl) rfl rfl (by decide) rfl inX6 (by decide) rfl wF_X6_26 (rP hX2.1 rfl) ?_
          refine T.iload_n (pc' := 51) (q_d dX6_dangers_0 30 rfl) rfl rfl rfl ?_
          refine T.iconst (pc' := 52) (v := nI 1) (q_d dX6_dangers_0 31 rfl) rfl (by decide) ?_
          refine T.iload_n (pc' := 53) (q_d dX6_dangers_0 32 rfl) rfl rfl rfl ?_
          refine T.ishl (pc' := 54) (q_d dX6_dangers_0 33 rfl) rfl (nN_shl _ (by omega)) ?_
          refine T.ior (pc' := 55) (q_d dX6_dangers_0 34 rfl) rfl (nN_or _ _) ?_
          refine T.iald (pc' := 56) (q_d dX6_dangers_0 35 rfl) rfl rfl (by decide) rfl (by omega) (by decide) hn ?_
          refine T.sipush (pc' := 59) (v := nI 1000) (q_d dX6_dangers_0 36 rfl) rfl (by decide) ?_
          refine T.icmp_neN (tgt := 68) (pc' := 62) (q_d dX6_dangers_0 37 rfl) rfl (by decide) (by omega) (by omega) (fun h59 => ?_) (fun h59 => ?_)
          · refine T.iconst (pc' := 69) (v := nI 0) (q_d dX6_dangers_1 2 rfl) rfl (by decide) ?_
            refine T.ior (pc' := 70) (q_d dX6_dangers_1 3 rfl) rfl (nN_or _ _) ?_
            refine T.istore_n (pc' := 71) (q_d dX6_dangers_1 4 rfl) rfl rfl (by decide) rfl rfl ?_
            refine T.iinc (pc' := 74) (q_d dX6_dangers_1 5 rfl) rfl rfl (nN_p _ 1) (by decide) rfl rfl ?_
            refine T.goto (tgt := 35) (q_d dX6_dangers_1 6 rfl) (by decide) ?_
            have h := ih (i + 1) M' (by omega) hX2 hR hne
            first
              | (rw [orTo, if_pos h59] at h; exact h)
              | (rw [orTo, if_neg h59] at h; exact h)
          · refine T.iconst (pc' := 63) (v := nI 1) (q_d dX6_dangers_0 38 rfl) rfl (by decide) ?_
            refine T.iload_n (pc' := 64) (q_d dX6_dangers_0 39 rfl) rfl rfl rfl ?_
            refine T.ishl (pc' := 65) (q_d dX6_dangers_1 0 rfl) rfl (nN_shl _ (by omega)) ?_
            refine T.goto (tgt := 69) (q_d dX6_dangers_1 1 rfl) (by decide) ?_
            refine T.ior (pc' := 70) (q_d dX6_dangers_1 3 rfl) rfl (nN_or _ _) ?_
            refine T.istore_n (pc' := 71) (q_d dX6_dangers_1 4 rfl) rfl rfl (by decide) rfl rfl ?_
            refine T.iinc (pc' := 74) (q_d dX6_dangers_1 5 rfl) rfl rfl (nN_p _ 1) (by decide) rfl rfl ?_
            refine T.goto (tgt := 35) (q_d dX6_dangers_1 6 rfl) (by decide) ?_
            have h := ih (i + 1) M' (by omega) hX2 hR hne
            first
              | (rw [orTo, if_pos h59] at h; exact h)
              | (rw [orTo, if_neg h59] at h; exact h)
    refine T.aload_n (pc' := 1) (q_d dX6_dangers_0 0 rfl) rfl rfl rfl ?_
    refine T.iload_n (pc' := 2) (q_d dX6_dangers_0 1 rfl) rfl rfl rfl ?_
    refine T.callV (pc' := 5) (ci := 6) (q_d dX6_dangers_0 2 rfl) rfl uX6_isSet wM_X6_78 (m_isSet hX hu) rfl rfl (by decide) rfl rfl (by decide) (Nat.le_of_ble_eq_true rfl) rfl rfl (fun _ => rfl) ?_
    rintro _ _ ⟨rfl, rfl⟩
    dsimp only [Option.toList, List.cons_append, List.nil_append, List.append_nil]
    refine T.if_neN (tgt := 11) (pc' := 8) (q_d dX6_dangers_0 3 rfl) rfl (by decide) (by split <;> decide) (fun h5 => ?_) (fun h5 => ?_)
    · refine T.aload_n (pc' := 12) (q_d dX6_dangers_0 6 rfl) rfl rfl rfl ?_
      refine T.iconst (pc' := 13) (v := nI 1) (q_d dX6_dangers_0 7 rfl) rfl (by decide) ?_
      refine T.callV (pc' := 16) (ci := 6) (q_d dX6_dangers_0 8 rfl) rfl uX6_solves wM_X6_96 (m_solves hX (z := 1) (Or.inl ⟨rfl, rfl, rfl⟩)) rfl rfl (by decide) rfl rfl (by decide) (Nat.le_of_ble_eq_true rfl) rfl rfl (fun _ => rfl) ?_
      rintro _ M2 ⟨rfl, f2, fa, f1⟩
      have hX2 := hX.sol f2 fa
      have hn := f1 u a1
      dsimp only [Option.toList, List.cons_append, List.nil_append, List.append_nil]
      refine T.aload_n (pc' := 17) (q_d dX6_dangers_0 9 rfl) rfl rfl rfl ?_
      refine T.getR (pc' := 20) (ci := 6) (k0 := 10) (q_d dX6_dangers_0 10 rfl) rfl rfl (by decide) rfl inX6 (by decide) rfl wF_X6_26 (rP (P := pM) (by first | exact hX2.1 | exact hX.1) rfl) ?_
      refine T.iload_n (pc' := 21) (q_d dX6_dangers_0 11 rfl) rfl rfl rfl ?_
      refine T.iald (pc' := 22) (q_d dX6_dangers_0 12 rfl) rfl rfl (by decide) rfl (by omega) (by decide) hn.1 ?_
      refine T.sipush (pc' := 25) (v := nI 1000) (q_d dX6_dangers_0 13 rfl) rfl (by decide) ?_
      refine T.icmp_neN (tgt := 31) (pc' := 28) (q_d dX6_dangers_0 14 rfl) rfl (by decide) (by omega) (by omega) (fun h25 => ?_) (fun h25 => ?_)
      · refine T.iconst (pc' := 32) (v := nI 0) (q_d dX6_dangers_0 17 rfl) rfl (by decide) ?_
        refine T.istore_n (pc' := 33) (q_d dX6_dangers_0 18 rfl) rfl rfl (by decide) rfl rfl ?_
        refine T.iconst (pc' := 34) (v := nI 0) (q_d dX6_dangers_0 19 rfl) rfl (by decide) ?_
        refine T.istore_n (pc' := 35) (q_d dX6_dangers_0 20 rfl) rfl rfl (by decide) rfl rfl ?_
        exact loop (s 0) 0 M2 (by omega) hX2 f1 h25
      · refine T.ldc (pc' := 30) (v := nI 4293967294) (q_d dX6_dangers_0 15 rfl) rfl wN_X6_67 ?_
        refine T.iret (q_d dX6_dangers_0 16 rfl) rfl rfl rfl ?_
        exact ⟨by unfold qDangers; rw [if_pos a1, if_pos h25], hX2⟩
    · exact absurd h5 (by rw [if_pos a1]; decide)
  · refine T.aload_n (pc' := 1) (q_d dX6_dangers_0 0 rfl) rfl rfl rfl ?_
    refine T.iload_n (pc' := 2) (q_d dX6_dangers_0 1 rfl) rfl rfl rfl ?_
    refine T.callV (pc' := 5) (ci := 6) (q_d dX6_dangers_0 2 rfl) rfl uX6_isSet wM_X6_78 (m_isSet hX hu) rfl rfl (by decide) rfl rfl (by decide) (Nat.le_of_ble_eq_true rfl) rfl rfl (fun _ => rfl) ?_
    rintro _ _ ⟨rfl, rfl⟩
    dsimp only [Option.toList, List.cons_append, List.nil_append, List.append_nil]
    refine T.if_neN (tgt := 11) (pc' := 8) (q_d dX6_dangers_0 3 rfl) rfl (by decide) (by split <;> decide) (fun h5 => ?_) (fun h5 => ?_)
    · exact absurd (if_neg a1) h5
    · refine T.ldc (pc' := 10) (v := nI 4293967295) (q_d dX6_dangers_0 4 rfl) rfl wN_X6_47 ?_
      refine T.iret (q_d dX6_dangers_0 5 rfl) rfl rfl rfl ?_
      exact ⟨by unfold qDangers; rw [if_neg a1], hX⟩
theorem m_surely (hX : RM M b s k was n t) {nd : Nat → Nat} (hn : ∀ x, x < 2 ^ s 0 → M.1 6 x = nd x) (hv : ∀ y, nd y = 1000 ∨ nd y ≤ 127) : Ct l hdM kM mX6_surely [.ref 0] M (RI M (nset nd (2 ^ s 0 - 1))) := by
  refine Ct.of [some (.ref 0), none, none] (by decide +kernel) (fun h => absurd h (by decide)) (Nat.le_of_ble_eq_true rfl) rfl ?_
  have w7 := hX.2.2.1.1
  have w0 := p2_le w7
  have hpos : 1 ≤ 2 ^ s 0 := Nat.two_pow_pos _
  have e2 : nI 1 <<< (nI (s 0) &&& 31) = nI (2 ^ s 0) := (nN_shl _ (by omega)).trans (by rw [Nat.one_shiftLeft])
  have loop : ∀ d i, i + d + 1 = 2 ^ s 0 → T l hdM kM mX6_surely (RI M (nset nd (2 ^ s 0 - 1))) 0 0 4 [some (.ref 0), some (.int (nI (nset nd i))), some (.int (nI (i + 1)))] [] M := by
    intro d
    induction d with
    | zero =>
      intro i hi
      refine T.iload_n (pc' := 5) (q_d dX6_surely_0 4 rfl) rfl rfl rfl ?_
      refine T.iconst (pc' := 6) (v := nI 1) (q_d dX6_surely_0 5 rfl) rfl (by decide) ?_
      refine T.aload_n (pc' := 7) (q_d dX6_surely_0 6 rfl) rfl rfl rfl ?_
      refine T.getR (pc' := 10) (ci := 6) (k0 := 0) (q_d dX6_surely_0 7 rfl) rfl rfl (by decide) rfl inX6 (by decide) rfl wF_X6_7 (rP hX.1 rfl) ?_
      refine T.iconst (pc' := 11) (v := nI 0) (q_d dX6_surely_0 8 rfl) rfl (by decide) ?_
      refine T.iald (pc' := 12) (q_d dX6_surely_0 9 rfl) rfl rfl (by decide) rfl (by omega) (by decide) (hX.2.1 0 (by decide)) ?_
      refine T.ishl (pc' := 13) (q_d dX6_surely_0 10 rfl) rfl e2 ?_
      refine T.icmp_geN (tgt := 42) (pc' := 16) (q_d dX6_surely_0 11 rfl) rfl (by decide) (by omega) (by omega) (fun h13 => ?_) (fun h13 => ?_)
      · refine T.iload_n (pc' := 43) (q_d dX6_surely_0 26 rfl) rfl rfl rfl ?_
        refine T.iret (q_d dX6_surely_0 27 rfl) rfl rfl rfl ?_
        exact ⟨rfl, by rw [show 2 ^ s 0 - 1 = i by omega]⟩
      · exact absurd h13 (by omega)
    | succ d ih =>
      intro i hi
      have nv := hv (i + 1)
      refine T.iload_n (pc' := 5) (q_d dX6_surely_0 4 rfl) rfl rfl rfl ?_
      refine T.iconst (pc' := 6) (v := nI 1) (q_d dX6_surely_0 5 rfl) rfl (by decide) ?_
      refine T.aload_n (pc' := 7) (q_d dX6_surely_0 6 rfl) rfl rfl rfl ?_
      refine T.getR (pc' := 10) (ci := 6) (k0 := 0) (q_d dX6_surely_0 7 rfl) rfl rfl (by decide) rfl inX6 (by decide) rfl wF_X6_7 (rP hX.1 rfl) ?_
      refine T.iconst (pc' := 11) (v := nI 0) (q_d dX6_surely_0 8 rfl) rfl (by decide) ?_
      refine T.iald (pc' := 12) (q_d dX6_surely_0 9 rfl) rfl rfl (by decide) rfl (by omega) (by decide) (hX.2.1 0 (by decide)) ?_
      refine T.ishl (pc' := 13) (q_d dX6_surely_0 10 rfl) rfl e2 ?_
      refine T.icmp_geN (tgt := 42) (pc' := 16) (q_d dX6_surely_0 11 rfl) rfl (by decide) (by omega) (by omega) (fun h13 => ?_) (fun h13 => ?_)
      · exact absurd h13 (by omega)
      · refine T.iload_n (pc' := 17) (q_d dX6_surely_0 12 rfl) rfl rfl rfl ?_
        refine T.aload_n (pc' := 18) (q_d dX6_surely_0 13 rfl) rfl rfl rfl ?_
        refine T.getR (pc' := 21) (ci := 6) (k0 := 10) (q_d dX6_surely_0 14 rfl) rfl rfl (by decide) rfl inX6 (by decide) rfl wF_X6_26 (rP hX.1 rfl) ?_
        refine T.iload_n (pc' := 22) (q_d dX6_surely_0 15 rfl) rfl rfl rfl ?_
        refine T.iald (pc' := 23) (q_d dX6_surely_0 16 rfl) rfl rfl (by decide) rfl (by omega) (by decide) (hn (i + 1) (by omega)) ?_
        refine T.sipush (pc' := 26) (v := nI 1000) (q_d dX6_surely_0 17 rfl) rfl (by decide) ?_
        refine T.icmp_geN (tgt := 33) (pc' := 29) (q_d dX6_surely_0 18 rfl) rfl (by decide) (by omega) (by omega) (fun h26 => ?_) (fun h26 => ?_)
        · refine T.iconst (pc' := 34) (v := nI 0) (q_d dX6_surely_0 21 rfl) rfl (by decide) ?_
          refine T.iadd (pc' := 35) (q_d dX6_surely_0 22 rfl) rfl (nI_add _ _) ?_
          refine T.istore_n (pc' := 36) (q_d dX6_surely_0 23 rfl) rfl rfl (by decide) rfl rfl ?_
          refine T.iinc (pc' := 39) (q_d dX6_surely_0 24 rfl) rfl rfl (nN_p _ 1) (by decide) rfl rfl ?_
          refine T.goto (tgt := 4) (q_d dX6_surely_0 25 rfl) (by decide) ?_
          have h := ih (i + 1) (by omega)
          unfold nset at h ⊢
          first
            | (rw [sumTo, if_pos (by omega)] at h; exact h)
            | (rw [sumTo, if_neg (by omega)] at h; exact h)
        · refine T.iconst (pc' := 30) (v := nI 1) (q_d dX6_surely_0 19 rfl) rfl (by decide) ?_
          refine T.goto (tgt := 34) (q_d dX6_surely_0 20 rfl) (by decide) ?_
          refine T.iadd (pc' := 35) (q_d dX6_surely_0 22 rfl) rfl (nI_add _ _) ?_
          refine T.istore_n (pc' := 36) (q_d dX6_surely_0 23 rfl) rfl rfl (by decide) rfl rfl ?_
          refine T.iinc (pc' := 39) (q_d dX6_surely_0 24 rfl) rfl rfl (nN_p _ 1) (by decide) rfl rfl ?_
          refine T.goto (tgt := 4) (q_d dX6_surely_0 25 rfl) (by decide) ?_
          have h := ih (i + 1) (by omega)
          unfold nset at h ⊢
          first
            | (rw [sumTo, if_pos (by omega)] at h; exact h)
            | (rw [sumTo, if_neg (by omega)] at h; exact h)
  refine T.iconst (pc' := 1) (v := nI 0) (q_d dX6_surely_0 0 rfl) rfl (by decide) ?_
  refine T.istore_n (pc' := 2) (q_d dX6_surely_0 1 rfl) rfl rfl (by decide) rfl rfl ?_
  refine T.iconst (pc' := 3) (v := nI 1) (q_d dX6_surely_0 2 rfl) rfl (by decide) ?_
  refine T.istore_n (pc' := 4) (q_d dX6_surely_0 3 rfl) rfl rfl (by decide) rfl rfl ?_
  exact loop (2 ^ s 0 - 1) 0 (by omega)
theorem m_beliefs (hX : RM M b s k was n t) {u : Nat} (hu : u < 4294967296) : Ct l hdM kM mX6_beliefs [.ref 0, .int (nI u)] M (OM b (qBeliefs s u, (s, k, was, n, t))) := by
  refine Ct.of [some (.ref 0), some (.int (nI u)), none, none, none, none] (by decide +kernel) (fun h => absurd h (by decide)) (Nat.le_of_ble_eq_true rfl) rfl ?_
  have e := inS_iff (lo := 0) (hi := 4) hu (by decide) (by decide)
  have w7 := hX.2.2.1.1
  have w0 := p2_le w7
  have hpos : 1 ≤ 2 ^ s 0 := Nat.two_pow_pos _
  have e2 : nI 1 <<< (nI (s 0) &&& 31) = nI (2 ^ s 0) := (nN_shl _ (by omega)).trans (by rw [Nat.one_shiftLeft])
  by_cases a1 : u ≤ 4
  · have e1 : inS u 0 4 = true := e.mpr ⟨Nat.zero_le _, a1⟩
    have loop : ∀ g0 g1 (nd : Nat → Nat), nd = (solN s g0 g1 127).1 → (∀ r, r = (if u = 0 then 2 ^ s 0 - 1 else if u = 2 then mostTo nd (2 ^ s 0 - 1) else if u = 3 then (hardN nd (mostTo nd (2 ^ s 0 - 1)) (2 ^ s 0)).getD 4293967292 else nset nd (2 ^ s 0 - 1)) → qBeliefs s u = r) → ∀ d i (M' : qM), i + d + 1 = 2 ^ s 0 → RM M' b s k was n t → (∀ x, x < 2 ^ s 0 → M'.1 6 x = nd x) →
        T l hdM kM mX6_beliefs (OM b (qBeliefs s u, (s, k, was, n, t))) 0 0 34 [some (.ref 0), some (.int (nI u)), some (.int (nI (mostTo nd i))), some (.int (nI ((hardN nd (mostTo nd i) (i + 1)).getD 4293967292))), some (.int (nI (i + 1))), none] [] M' := by
      intro g0 g1 nd hnd hq d
      have hv : ∀ y, nd y = 1000 ∨ nd y ≤ 127 := by rw [hnd]; exact sol_vals
      have hp : ∀ x, 1 ≤ x → 0 < nd x := by rw [hnd]; exact fun x hx => sol_pos hx _
      induction d with
      | zero =>
        intro i M' hi hX2 hn
        have ei : 2 ^ s 0 - 1 = i := by omega
        have ei2 : 2 ^ s 0 = i + 1 := by omega
        refine T.iload (pc' := 36) (q_d dX6_beliefs_0 21 rfl) rfl rfl ?_
        refine T.iconst (pc' := 37) (v := nI 1) (q_d dX6_beliefs_0 22 rfl) rfl (by decide) ?_
        refine T.aload_n (pc' := 38) (q_d dX6_beliefs_0 23 rfl) rfl rfl rfl ?_
        refine T.getR (pc' := 41) (ci := 6) (k0 := 0) (q_d dX6_beliefs_0 24 rfl) rfl rfl (by decide) rfl inX6 (by decide) rfl wF_X6_7 (rP hX2.1 rfl) ?_
        refine T.iconst (pc' := 42) (v := nI 0) (q_d dX6_beliefs_0 25 rfl) rfl (by decide) ?_
        refine T.iald (pc' := 43) (q_d dX6_beliefs_0 26 rfl) rfl rfl (by decide) rfl (by omega) (by decide) (hX2.2.1 0 (by decide)) ?_
        refine T.ishl (pc' := 44) (q_d dX6_beliefs_0 27 rfl) rfl e2 ?_
        refine T.icmp_geN (tgt := 113) (pc' := 47) (q_d dX6_beliefs_0 28 rfl) rfl (by decide) (by omega) (by omega) (fun h44 => ?_) (fun h44 => ?_)
        · refine T.iload_n (pc' := 114) (q_d dX6_beliefs_1 22 rfl) rfl rfl rfl ?_
          refine T.if_neN (tgt := 130) (pc' := 117) (q_d dX6_beliefs_1 23 rfl) rfl (by decide) (by omega) (fun h114 => ?_) (fun h114 => ?_)
          · refine T.iload_n (pc' := 131) (q_d dX6_beliefs_1 33 rfl) rfl rfl rfl ?_
            refine T.iconst (pc' := 132) (v := nI 2) (q_d dX6_beliefs_1 34 rfl) rfl (by decide) ?_
            refine T.icmp_neN (tgt := 139) (pc' := 135) (q_d dX6_beliefs_1 35 rfl) rfl (by decide) (by omega) (by omega) (fun h132 => ?_) (fun h132 => ?_)
            · refine T.iload_n (pc' := 140) (q_d dX6_beliefs_1 38 rfl) rfl rfl rfl ?_
              refine T.iconst (pc' := 141) (v := nI 3) (q_d dX6_beliefs_1 39 rfl) rfl (by decide) ?_
              refine T.icmp_neN (tgt := 148) (pc' := 144) (q_d dX6_beliefs_2 0 rfl) rfl (by decide) (by omega) (by omega) (fun h141 => ?_) (fun h141 => ?_)
              · refine T.aload_n (pc' := 149) (q_d dX6_beliefs_2 3 rfl) rfl rfl rfl ?_
                refine T.callV (pc' := 152) (ci := 6) (q_d dX6_beliefs_2 4 rfl) rfl uX6_surely wM_X6_100 (m_surely hX2 hn hv) rfl rfl (by decide) rfl rfl (by decide) (Nat.le_of_ble_eq_true rfl) rfl rfl (fun _ => rfl) ?_
                rintro _ _ ⟨rfl, rfl⟩
                dsimp only [Option.toList, List.cons_append, List.nil_append, List.append_nil]
                refine T.iret (q_d dX6_beliefs_2 5 rfl) rfl rfl rfl ?_
                refine ⟨?_, hX2⟩
                first
                  | (rw [hq _ rfl, if_pos h114]; done)
                  | (rw [hq _ rfl, if_neg h114, if_pos h132, ei]; done)
                  | (rw [hq _ rfl, if_neg h114, if_neg h132, if_pos h141, ei, ei2]; done)
                  | (rw [hq _ rfl, if_neg h114, if_neg h132, if_neg h141]; done)
              · refine T.iload_n (pc' := 145) (q_d dX6_beliefs_2 1 rfl) rfl rfl rfl ?_
                refine T.goto (tgt := 152) (q_d dX6_beliefs_2 2 rfl) (by decide) ?_
                refine T.iret (q_d dX6_beliefs_2 5 rfl) rfl rfl rfl ?_
                refine ⟨?_, hX2⟩
                first
                  | (rw [hq _ rfl, if_pos h114]; done)
                  | (rw [hq _ rfl, if_neg h114, if_pos h132, ei]; done)
                  | (rw [hq _ rfl, if_neg h114, if_neg h132, if_pos h141, ei, ei2]; done)
                  | (rw [hq _ rfl, if_neg h114, if_neg h132, if_neg h141]; done)
            · refine T.iload_n (pc' := 136) (q_d dX6_beliefs_1 36 rfl) rfl rfl rfl ?_
              refine T.goto (tgt := 152) (q_d dX6_beliefs_1 37 rfl) (by decide) ?_
              refine T.iret (q_d dX6_beliefs_2 5 rfl) rfl rfl rfl ?_
              refine ⟨?_, hX2⟩
              first
                | (rw [hq _ rfl, if_pos h114]; done)
                | (rw [hq _ rfl, if_neg h114, if_pos h132, ei]; done)
                | (rw [hq _ rfl, if_neg h114, if_neg h132, if_pos h141, ei, ei2]; done)
                | (rw [hq _ rfl, if_neg h114, if_neg h132, if_neg h141]; done)
          · refine T.iconst (pc' := 118) (v := nI 1) (q_d dX6_beliefs_1 24 rfl) rfl (by decide) ?_
            refine T.aload_n (pc' := 119) (q_d dX6_beliefs_1 25 rfl) rfl rfl rfl ?_
            refine T.getR (pc' := 122) (ci := 6) (k0 := 0) (q_d dX6_beliefs_1 26 rfl) rfl rfl (by decide) rfl inX6 (by decide) rfl wF_X6_7 (rP hX2.1 rfl) ?_
            refine T.iconst (pc' := 123) (v := nI 0) (q_d dX6_beliefs_1 27 rfl) rfl (by decide) ?_
            refine T.iald (pc' := 124) (q_d dX6_beliefs_1 28 rfl) rfl rfl (by decide) rfl (by omega) (by decide) (hX2.2.1 0 (by decide)) ?_
            refine T.ishl (pc' := 125) (q_d dX6_beliefs_1 29 rfl) rfl e2 ?_
            refine T.iconst (pc' := 126) (v := nI 1) (q_d dX6_beliefs_1 30 rfl) rfl (by decide) ?_
            refine T.isub (pc' := 127) (q_d dX6_beliefs_1 31 rfl) rfl (nN_sub (by omega)) ?_
            refine T.goto (tgt := 152) (q_d dX6_beliefs_1 32 rfl) (by decide) ?_
            refine T.iret (q_d dX6_beliefs_2 5 rfl) rfl rfl rfl ?_
            refine ⟨?_, hX2⟩
            first
              | (rw [hq _ rfl, if_pos h114]; done)
              | (rw [hq _ rfl, if_neg h114, if_pos h132, ei]; done)
              | (rw [hq _ rfl, if_neg h114, if_neg h132, if_pos h141, ei, ei2]; done)
              | (rw [hq _ rfl, if_neg h114, if_neg h132, if_neg h141]; done)
        · exact absurd h44 (by omega)
      | succ d ih =>
        intro i M' hi hX2 hn
        have nv := hv (i + 1)
        have hm := mostTo_le hv i
        have hg := hard_go hp hv i
        refine T.iload (pc' := 36) (q_d dX6_beliefs_0 21 rfl) rfl rfl ?_
        refine T.iconst (pc' := 37) (v := nI 1) (q_d dX6_beliefs_0 22 rfl) rfl (by decide) ?_
        refine T.aload_n (pc' := 38) (q_d dX6_beliefs_0 23 rfl) rfl rfl rfl ?_
        refine T.getR (pc' := 41) (ci := 6) (k0 := 0) (q_d dX6_beliefs_0 24 rfl) rfl rfl (by decide) rfl inX6 (by decide) rfl wF_X6_7 (rP hX2.1 rfl) ?_
        refine T.iconst (pc' := 42) (v := nI 0) (q_d dX6_beliefs_0 25 rfl) rfl (by decide) ?_
        refine T.iald (pc' := 43) (q_d dX6_beliefs_0 26 rfl) rfl rfl (by decide) rfl (by omega) (by decide) (hX2.2.1 0 (by decide)) ?_
        refine T.ishl (pc' := 44) (q_d dX6_beliefs_0 27 rfl) rfl e2 ?_
        refine T.icmp_geN (tgt := 113) (pc' := 47) (q_d dX6_beliefs_0 28 rfl) rfl (by decide) (by omega) (by omega) (fun h44 => ?_) (fun h44 => ?_)
        · exact absurd h44 (by omega)
        · refine T.aload_n (pc' := 48) (q_d dX6_beliefs_0 29 rfl) rfl rfl rfl ?_
          refine T.getR (pc' := 51) (ci := 6) (k0 := 10) (q_d dX6_beliefs_0 30 rfl) rfl rfl (by decide) rfl inX6 (by decide) rfl wF_X6_26 (rP hX2.1 rfl) ?_
          refine T.iload (pc' := 53) (q_d dX6_beliefs_0 31 rfl) rfl rfl ?_
          refine T.iald (pc' := 54) (q_d dX6_beliefs_0 32 rfl) rfl rfl (by decide) rfl (by omega) (by decide) (hn (i + 1) (by omega)) ?_
          refine T.sipush (pc' := 57) (v := nI 1000) (q_d dX6_beliefs_0 33 rfl) rfl (by decide) ?_
          refine T.icmp_geN (tgt := 75) (pc' := 60) (q_d dX6_beliefs_0 34 rfl) rfl (by decide) (by omega) (by omega) (fun h57 => ?_) (fun h57 => ?_)
          · refine T.iconst (pc' := 76) (v := nI 0) (q_d dX6_beliefs_1 3 rfl) rfl (by decide) ?_
            refine T.istore (pc' := 78) (q_d dX6_beliefs_1 4 rfl) rfl (by decide) rfl rfl ?_
            refine T.iload (pc' := 80) (q_d dX6_beliefs_1 5 rfl) rfl rfl ?_
            refine T.if_eqN (tgt := 93) (pc' := 83) (q_d dX6_beliefs_1 6 rfl) rfl (by decide) (by decide) (fun h80 => ?_) (fun h80 => ?_)
            · refine T.iload_n (pc' := 94) (q_d dX6_beliefs_1 12 rfl) rfl rfl rfl ?_
              refine T.istore_n (pc' := 95) (q_d dX6_beliefs_1 13 rfl) rfl rfl (by decide) rfl rfl ?_
              refine T.iload (pc' := 97) (q_d dX6_beliefs_1 14 rfl) rfl rfl ?_
              refine T.if_eqN (tgt := 105) (pc' := 100) (q_d dX6_beliefs_1 15 rfl) rfl (by decide) (by decide) (fun h97 => ?_) (fun h97 => ?_)
              · refine T.iload_n (pc' := 106) (q_d dX6_beliefs_1 18 rfl) rfl rfl rfl ?_
                refine T.istore_n (pc' := 107) (q_d dX6_beliefs_1 19 rfl) rfl rfl (by decide) rfl rfl ?_
                refine T.iinc (pc' := 110) (q_d dX6_beliefs_1 20 rfl) rfl rfl (nN_p _ 1) (by decide) rfl rfl ?_
                refine T.goto (tgt := 34) (q_d dX6_beliefs_1 21 rfl) (by decide) ?_
                first
                  | exact absurd h80 (by decide)
                  | exact absurd rfl h80
                  | exact absurd h97 (by decide)
                  | exact absurd rfl h97
                  | (have h := ih (i + 1) M' (by omega) hX2 hn
                     rw [hg, mostTo] at h
                     refine T.drop (loc' := _) ?_ h
                     first
                       | (have hc : nd (i + 1) ≠ 1000 ∧ mostTo nd i < nd (i + 1) := ⟨by omega, by omega⟩
                          rw [if_pos hc, if_pos hc]
                          exact ⟨rfl, rfl, rfl, rfl, rfl, trivial⟩)
                       | (have hc : ¬ (nd (i + 1) ≠ 1000 ∧ mostTo nd i < nd (i + 1)) := fun q => by omega
                          rw [if_neg hc, if_neg hc]
                          exact ⟨rfl, rfl, rfl, rfl, rfl, trivial⟩))
              · refine T.iload (pc' := 102) (q_d dX6_beliefs_1 16 rfl) rfl rfl ?_
                refine T.goto (tgt := 106) (q_d dX6_beliefs_1 17 rfl) (by decide) ?_
                refine T.istore_n (pc' := 107) (q_d dX6_beliefs_1 19 rfl) rfl rfl (by decide) rfl rfl ?_
                refine T.iinc (pc' := 110) (q_d dX6_beliefs_1 20 rfl) rfl rfl (nN_p _ 1) (by decide) rfl rfl ?_
                refine T.goto (tgt := 34) (q_d dX6_beliefs_1 21 rfl) (by decide) ?_
                first
                  | exact absurd h80 (by decide)
                  | exact absurd rfl h80
                  | exact absurd h97 (by decide)
                  | exact absurd rfl h97
                  | (have h := ih (i + 1) M' (by omega) hX2 hn
                     rw [hg, mostTo] at h
                     refine T.drop (loc' := _) ?_ h
                     first
                       | (have hc : nd (i + 1) ≠ 1000 ∧ mostTo nd i < nd (i + 1) := ⟨by omega, by omega⟩
                          rw [if_pos hc, if_pos hc]
                          exact ⟨rfl, rfl, rfl, rfl, rfl, trivial⟩)
                       | (have hc : ¬ (nd (i + 1) ≠ 1000 ∧ mostTo nd i < nd (i + 1)) := fun q => by omega
                          rw [if_neg hc, if_neg hc]
                          exact ⟨rfl, rfl, rfl, rfl, rfl, trivial⟩))
            · refine T.aload_n (pc' := 84) (q_d dX6_beliefs_1 7 rfl) rfl rfl rfl ?_
              refine T.getR (pc' := 87) (ci := 6) (k0 := 10) (q_d dX6_beliefs_1 8 rfl) rfl rfl (by decide) rfl inX6 (by decide) rfl wF_X6_26 (rP hX2.1 rfl) ?_
              refine T.iload (pc' := 89) (q_d dX6_beliefs_1 9 rfl) rfl rfl ?_
              refine T.iald (pc' := 90) (q_d dX6_beliefs_1 10 rfl) rfl rfl (by decide) rfl (by omega) (by decide) (hn (i + 1) (by omega)) ?_
              refine T.goto (tgt := 94) (q_d dX6_beliefs_1 11 rfl) (by decide) ?_
              refine T.istore_n (pc' := 95) (q_d dX6_beliefs_1 13 rfl) rfl rfl (by decide) rfl rfl ?_
              refine T.iload (pc' := 97) (q_d dX6_beliefs_1 14 rfl) rfl rfl ?_
              refine T.if_eqN (tgt := 105) (pc' := 100) (q_d dX6_beliefs_1 15 rfl) rfl (by decide) (by decide) (fun h97 => ?_) (fun h97 => ?_)
              · refine T.iload_n (pc' := 106) (q_d dX6_beliefs_1 18 rfl) rfl rfl rfl ?_
                refine T.istore_n (pc' := 107) (q_d dX6_beliefs_1 19 rfl) rfl rfl (by decide) rfl rfl ?_
                refine T.iinc (pc' := 110) (q_d dX6_beliefs_1 20 rfl) rfl rfl (nN_p _ 1) (by decide) rfl rfl ?_
                refine T.goto (tgt := 34) (q_d dX6_beliefs_1 21 rfl) (by decide) ?_
                first
                  | exact absurd h80 (by decide)
                  | exact absurd rfl h80
                  | exact absurd h97 (by decide)
                  | exact absurd rfl h97
                  | (have h := ih (i + 1) M' (by omega) hX2 hn
                     rw [hg, mostTo] at h
                     refine T.drop (loc' := _) ?_ h
                     first
                       | (have hc : nd (i + 1) ≠ 1000 ∧ mostTo nd i < nd (i + 1) := ⟨by omega, by omega⟩
                          rw [if_pos hc, if_pos hc]
                          exact ⟨rfl, rfl, rfl, rfl, rfl, trivial⟩)
                       | (have hc : ¬ (nd (i + 1) ≠ 1000 ∧ mostTo nd i < nd (i + 1)) := fun q => by omega
                          rw [if_neg hc, if_neg hc]
                          exact ⟨rfl, rfl, rfl, rfl, rfl, trivial⟩))
              · refine T.iload (pc' := 102) (q_d dX6_beliefs_1 16 rfl) rfl rfl ?_
                refine T.goto (tgt := 106) (q_d dX6_beliefs_1 17 rfl) (by decide) ?_
                refine T.istore_n (pc' := 107) (q_d dX6_beliefs_1 19 rfl) rfl rfl (by decide) rfl rfl ?_
                refine T.iinc (pc' := 110) (q_d dX6_beliefs_1 20 rfl) rfl rfl (nN_p _ 1) (by decide) rfl rfl ?_
                refine T.goto (tgt := 34) (q_d dX6_beliefs_1 21 rfl) (by decide) ?_
                first
                  | exact absurd h80 (by decide)
                  | exact absurd rfl h80
                  | exact absurd h97 (by decide)
                  | exact absurd rfl h97
                  | (have h := ih (i + 1) M' (by omega) hX2 hn
                     rw [hg, mostTo] at h
                     refine T.drop (loc' := _) ?_ h
                     first
                       | (have hc : nd (i + 1) ≠ 1000 ∧ mostTo nd i < nd (i + 1) := ⟨by omega, by omega⟩
                          rw [if_pos hc, if_pos hc]
                          exact ⟨rfl, rfl, rfl, rfl, rfl, trivial⟩)
                       | (have hc : ¬ (nd (i + 1) ≠ 1000 ∧ mostTo nd i < nd (i + 1)) := fun q => by omega
                          rw [if_neg hc, if_neg hc]
                          exact ⟨rfl, rfl, rfl, rfl, rfl, trivial⟩))
          · refine T.aload_n (pc' := 61) (q_d dX6_beliefs_0 35 rfl) rfl rfl rfl ?_
            refine T.getR (pc' := 64) (ci := 6) (k0 := 10) (q_d dX6_beliefs_0 36 rfl) rfl rfl (by decide) rfl inX6 (by decide) rfl wF_X6_26 (rP hX2.1 rfl) ?_
            refine T.iload (pc' := 66) (q_d dX6_beliefs_0 37 rfl) rfl rfl ?_
            refine T.iald (pc' := 67) (q_d dX6_beliefs_0 38 rfl) rfl rfl (by decide) rfl (by omega) (by decide) (hn (i + 1) (by omega)) ?_
            refine T.iload_n (pc' := 68) (q_d dX6_beliefs_0 39 rfl) rfl rfl rfl ?_
            refine T.icmp_leN (tgt := 75) (pc' := 71) (q_d dX6_beliefs_1 0 rfl) rfl (by decide) (by omega) (by omega) (fun h68 => ?_) (fun h68 => ?_)
            · refine T.iconst (pc' := 76) (v := nI 0) (q_d dX6_beliefs_1 3 rfl) rfl (by decide) ?_
              refine T.istore (pc' := 78) (q_d dX6_beliefs_1 4 rfl) rfl (by decide) rfl rfl ?_
              refine T.iload (pc' := 80) (q_d dX6_beliefs_1 5 rfl) rfl rfl ?_
              refine T.if_eqN (tgt := 93) (pc' := 83) (q_d dX6_beliefs_1 6 rfl) rfl (by decide) (by decide) (fun h80 => ?_) (fun h80 => ?_)
              · refine T.iload_n (pc' := 94) (q_d dX6_beliefs_1 12 rfl) rfl rfl rfl ?_
                refine T.istore_n (pc' := 95) (q_d dX6_beliefs_1 13 rfl) rfl rfl (by decide) rfl rfl ?_
                refine T.iload (pc' := 97) (q_d dX6_beliefs_1 14 rfl) rfl rfl ?_
                refine T.if_eqN (tgt := 105) (pc' := 100) (q_d dX6_beliefs_1 15 rfl) rfl (by decide) (by decide) (fun h97 => ?_) (fun h97 => ?_)
                · refine T.iload_n (pc' := 106) (q_d dX6_beliefs_1 18 rfl) rfl rfl rfl ?_
                  refine T.istore_n (pc' := 107) (q_d dX6_beliefs_1 19 rfl) rfl rfl (by decide) rfl rfl ?_
                  refine T.iinc (pc' := 110) (q_d dX6_beliefs_1 20 rfl) rfl rfl (nN_p _ 1) (by decide) rfl rfl ?_
                  refine T.goto (tgt := 34) (q_d dX6_beliefs_1 21 rfl) (by decide) ?_
                  first
                    | exact absurd h80 (by decide)
                    | exact absurd rfl h80
                    | exact absurd h97 (by decide)
                    | exact absurd rfl h97
                    | (have h := ih (i + 1) M' (by omega) hX2 hn
                       rw [hg, mostTo] at h
                       refine T.drop (loc' := _) ?_ h
                       first
                         | (have hc : nd (i + 1) ≠ 1000 ∧ mostTo nd i < nd (i + 1) := ⟨by omega, by omega⟩
                            rw [if_pos hc, if_pos hc]
                            exact ⟨rfl, rfl, rfl, rfl, rfl, trivial⟩)
                         | (have hc : ¬ (nd (i + 1) ≠ 1000 ∧ mostTo nd i < nd (i + 1)) := fun q => by omega
                            rw [if_neg hc, if_neg hc]
                            exact ⟨rfl, rfl, rfl, rfl, rfl, trivial⟩))
                · refine T.iload (pc' := 102) (q_d dX6_beliefs_1 16 rfl) rfl rfl ?_
                  refine T.goto (tgt := 106) (q_d dX6_beliefs_1 17 rfl) (by decide) ?_
                  refine T.istore_n (pc' := 107) (q_d dX6_beliefs_1 19 rfl) rfl rfl (by decide) rfl rfl ?_
                  refine T.iinc (pc' := 110) (q_d dX6_beliefs_1 20 rfl) rfl rfl (nN_p _ 1) (by decide) rfl rfl ?_
                  refine T.goto (tgt := 34) (q_d dX6_beliefs_1 21 rfl) (by decide) ?_
                  first
                    | exact absurd h80 (by decide)
                    | exact absurd rfl h80
                    | exact absurd h97 (by decide)
                    | exact absurd rfl h97
                    | (have h := ih (i + 1) M' (by omega) hX2 hn
                       rw [hg, mostTo] at h
                       refine T.drop (loc' := _) ?_ h
                       first
                         | (have hc : nd (i + 1) ≠ 1000 ∧ mostTo nd i < nd (i + 1) := ⟨by omega, by omega⟩
                            rw [if_pos hc, if_pos hc]
                            exact ⟨rfl, rfl, rfl, rfl, rfl, trivial⟩)
                         | (have hc : ¬ (nd (i + 1) ≠ 1000 ∧ mostTo nd i < nd (i + 1)) := fun q => by omega
                            rw [if_neg hc, if_neg hc]
                            exact ⟨rfl, rfl, rfl, rfl, rfl, trivial⟩))
              · refine T.aload_n (pc' := 84) (q_d dX6_beliefs_1 7 rfl) rfl rfl rfl ?_
                refine T.getR (pc' := 87) (ci := 6) (k0 := 10) (q_d dX6_beliefs_1 8 rfl) rfl rfl (by decide) rfl inX6 (by decide) rfl wF_X6_26 (rP hX2.1 rfl) ?_
                refine T.iload (pc' := 89) (q_d dX6_beliefs_1 9 rfl) rfl rfl ?_
                refine T.iald (pc' := 90) (q_d dX6_beliefs_1 10 rfl) rfl rfl (by decide) rfl (by omega) (by decide) (hn (i + 1) (by omega)) ?_
                refine T.goto (tgt := 94) (q_d dX6_beliefs_1 11 rfl) (by decide) ?_
                refine T.istore_n (pc' := 95) (q_d dX6_beliefs_1 13 rfl) rfl rfl (by decide) rfl rfl ?_
                refine T.iload (pc' := 97) (q_d dX6_beliefs_1 14 rfl) rfl rfl ?_
                refine T.if_eqN (tgt := 105) (pc' := 100) (q_d dX6_beliefs_1 15 rfl) rfl (by decide) (by decide) (fun h97 => ?_) (fun h97 => ?_)
                · refine T.iload_n (pc' := 106) (q_d dX6_beliefs_1 18 rfl) rfl rfl rfl ?_
                  refine T.istore_n (pc' := 107) (q_d dX6_beliefs_1 19 rfl) rfl rfl (by decide) rfl rfl ?_
                  refine T.iinc (pc' := 110) (q_d dX6_beliefs_1 20 rfl) rfl rfl (nN_p _ 1) (by decide) rfl rfl ?_
                  refine T.goto (tgt := 34) (q_d dX6_beliefs_1 21 rfl) (by decide) ?_
                  first
                    | exact absurd h80 (by decide)
                    | exact absurd rfl h80
                    | exact absurd h97 (by decide)
                    | exact absurd rfl h97
                    | (have h := ih (i + 1) M' (by omega) hX2 hn
                       rw [hg, mostTo] at h
                       refine T.drop (loc' := _) ?_ h
                       first
                         | (have hc : nd (i + 1) ≠ 1000 ∧ mostTo nd i < nd (i + 1) := ⟨by omega, by omega⟩
                            rw [if_pos hc, if_pos hc]
                            exact ⟨rfl, rfl, rfl, rfl, rfl, trivial⟩)
                         | (have hc : ¬ (nd (i + 1) ≠ 1000 ∧ mostTo nd i < nd (i + 1)) := fun q => by omega
                            rw [if_neg hc, if_neg hc]
                            exact ⟨rfl, rfl, rfl, rfl, rfl, trivial⟩))
                · refine T.iload (pc' := 102) (q_d dX6_beliefs_1 16 rfl) rfl rfl ?_
                  refine T.goto (tgt := 106) (q_d dX6_beliefs_1 17 rfl) (by decide) ?_
                  refine T.istore_n (pc' := 107) (q_d dX6_beliefs_1 19 rfl) rfl rfl (by decide) rfl rfl ?_
                  refine T.iinc (pc' := 110) (q_d dX6_beliefs_1 20 rfl) rfl rfl (nN_p _ 1) (by decide) rfl rfl ?_
                  refine T.goto (tgt := 34) (q_d dX6_beliefs_1 21 rfl) (by decide) ?_
                  first
                    | exact absurd h80 (by decide)
                    | exact absurd rfl h80
                    | exact absurd h97 (by decide)
                    | exact absurd rfl h97
                    | (have h := ih (i + 1) M' (by omega) hX2 hn
                       rw [hg, mostTo] at h
                       refine T.drop (loc' := _) ?_ h
                       first
                         | (have hc : nd (i + 1) ≠ 1000 ∧ mostTo nd i < nd (i + 1) := ⟨by omega, by omega⟩
                            rw [if_pos hc, if_pos hc]
                            exact ⟨rfl, rfl, rfl, rfl, rfl, trivial⟩)
                         | (have hc : ¬ (nd (i + 1) ≠ 1000 ∧ mostTo nd i < nd (i + 1)) := fun q => by omega
                            rw [if_neg hc, if_neg hc]
                            exact ⟨rfl, rfl, rfl, rfl, rfl, trivial⟩))
            · refine T.iconst (pc' := 72) (v := nI 1) (q_d dX6_beliefs_1 1 rfl) rfl (by decide) ?_
              refine T.goto (tgt := 76) (q_d dX6_beliefs_1 2 rfl) (by decide) ?_
              refine T.istore (pc' := 78) (q_d dX6_beliefs_1 4 rfl) rfl (by decide) rfl rfl ?_
              refine T.iload (pc' := 80) (q_d dX6_beliefs_1 5 rfl) rfl rfl ?_
              refine T.if_eqN (tgt := 93) (pc' := 83) (q_d dX6_beliefs_1 6 rfl) rfl (by decide) (by decide) (fun h80 => ?_) (fun h80 => ?_)
              · refine T.iload_n (pc' := 94) (q_d dX6_beliefs_1 12 rfl) rfl rfl rfl ?_
                refine T.istore_n (pc' := 95) (q_d dX6_beliefs_1 13 rfl) rfl rfl (by decide) rfl rfl ?_
                refine T.iload (pc' := 97) (q_d dX6_beliefs_1 14 rfl) rfl rfl ?_
                refine T.if_eqN (tgt := 105) (pc' := 100) (q_d dX6_beliefs_1 15 rfl) rfl (by decide) (by decide) (fun h97 => ?_) (fun h97 => ?_)
                · refine T.iload_n (pc' := 106) (q_d dX6_beliefs_1 18 rfl) rfl rfl rfl ?_
                  refine T.istore_n (pc' := 107) (q_d dX6_beliefs_1 19 rfl) rfl rfl (by decide) rfl rfl ?_
                  refine T.iinc (pc' := 110) (q_d dX6_beliefs_1 20 rfl) rfl rfl (nN_p _ 1) (by decide) rfl rfl ?_
                  refine T.goto (tgt := 34) (q_d dX6_beliefs_1 21 rfl) (by decide) ?_
                  first
                    | exact absurd h80 (by decide)
                    | exact absurd rfl h80
                    | exact absurd h97 (by decide)
                    | exact absurd rfl h97
                    | (have h := ih (i + 1) M' (by omega) hX2 hn
                       rw [hg, mostTo] at h
                       refine T.drop (loc' := _) ?_ h
                       first
                         | (have hc : nd (i + 1) ≠ 1000 ∧ mostTo nd i < nd (i + 1) := ⟨by omega, by omega⟩
                            rw [if_pos hc, if_pos hc]
                            exact ⟨rfl, rfl, rfl, rfl, rfl, trivial⟩)
                         | (have hc : ¬ (nd (i + 1) ≠ 1000 ∧ mostTo nd i < nd (i + 1)) := fun q => by omega
                            rw [if_neg hc, if_neg hc]
                            exact ⟨rfl, rfl, rfl, rfl, rfl, trivial⟩))
                · refine T.iload (pc' := 102) (q_d dX6_beliefs_1 16 rfl) rfl rfl ?_
                  refine T.goto (tgt := 106) (q_d dX6_beliefs_1 17 rfl) (by decide) ?_
                  refine T.istore_n (pc' := 107) (q_d dX6_beliefs_1 19 rfl) rfl rfl (by decide) rfl rfl ?_
                  refine T.iinc (pc' := 110) (q_d dX6_beliefs_1 20 rfl) rfl rfl (nN_p _ 1) (by decide) rfl rfl ?_
                  refine T.goto (tgt := 34) (q_d dX6_beliefs_1 21 rfl) (by decide) ?_
                  first
                    | exact absurd h80 (by decide)
                    | exact absurd rfl h80
                    | exact absurd h97 (by decide)
                    | exact absurd rfl h97
                    | (have h := ih (i + 1) M' (by omega) hX2 hn
                       rw [hg, mostTo] at h
                       refine T.drop (loc' := _) ?_ h
                       first
                         | (have hc : nd (i + 1) ≠ 1000 ∧ mostTo nd i < nd (i + 1) := ⟨by omega, by omega⟩
                            rw [if_pos hc, if_pos hc]
                            exact ⟨rfl, rfl, rfl, rfl, rfl, trivial⟩)
                         | (have hc : ¬ (nd (i + 1) ≠ 1000 ∧ mostTo nd i < nd (i + 1)) := fun q => by omega
                            rw [if_neg hc, if_neg hc]
                            exact ⟨rfl, rfl, rfl, rfl, rfl, trivial⟩))
              · refine T.aload_n (pc' := 84) (q_d dX6_beliefs_1 7 rfl) rfl rfl rfl ?_
                refine T.getR (pc' := 87) (ci := 6) (k0 := 10) (q_d dX6_beliefs_1 8 rfl) rfl rfl (by decide) rfl inX6 (by decide) rfl wF_X6_26 (rP hX2.1 rfl) ?_
                refine T.iload (pc' := 89) (q_d dX6_beliefs_1 9 rfl) rfl rfl ?_
                refine T.iald (pc' := 90) (q_d dX6_beliefs_1 10 rfl) rfl rfl (by decide) rfl (by omega) (by decide) (hn (i + 1) (by omega)) ?_
                refine T.goto (tgt := 94) (q_d dX6_beliefs_1 11 rfl) (by decide) ?_
                refine T.istore_n (pc' := 95) (q_d dX6_beliefs_1 13 rfl) rfl rfl (by decide) rfl rfl ?_
                refine T.iload (pc' := 97) (q_d dX6_beliefs_1 14 rfl) rfl rfl ?_
                refine T.if_eqN (tgt := 105) (pc' := 100) (q_d dX6_beliefs_1 15 rfl) rfl (by decide) (by decide) (fun h97 => ?_) (fun h97 => ?_)
                · refine T.iload_n (pc' := 106) (q_d dX6_beliefs_1 18 rfl) rfl rfl rfl ?_
                  refine T.istore_n (pc' := 107) (q_d dX6_beliefs_1 19 rfl) rfl rfl (by decide) rfl rfl ?_
                  refine T.iinc (pc' := 110) (q_d dX6_beliefs_1 20 rfl) rfl rfl (nN_p _ 1) (by decide) rfl rfl ?_
                  refine T.goto (tgt := 34) (q_d dX6_beliefs_1 21 rfl) (by decide) ?_
                  first
                    | exact absurd h80 (by decide)
                    | exact absurd rfl h80
                    | exact absurd h97 (by decide)
                    | exact absurd rfl h97
                    | (have h := ih (i + 1) M' (by omega) hX2 hn
                       rw [hg, mostTo] at h
                       refine T.drop (loc' := _) ?_ h
                       first
                         | (have hc : nd (i + 1) ≠ 1000 ∧ mostTo nd i < nd (i + 1) := ⟨by omega, by omega⟩
                            rw [if_pos hc, if_pos hc]
                            exact ⟨rfl, rfl, rfl, rfl, rfl, trivial⟩)
                         | (have hc : ¬ (nd (i + 1) ≠ 1000 ∧ mostTo nd i < nd (i + 1)) := fun q => by omega
                            rw [if_neg hc, if_neg hc]
                            exact ⟨rfl, rfl, rfl, rfl, rfl, trivial⟩))
                · refine T.iload (pc' := 102) (q_d dX6_beliefs_1 16 rfl) rfl rfl ?_
                  refine T.goto (tgt := 106) (q_d dX6_beliefs_1 17 rfl) (by decide) ?_
                  refine T.istore_n (pc' := 107) (q_d dX6_beliefs_1 19 rfl) rfl rfl (by decide) rfl rfl ?_
                  refine T.iinc (pc' := 110) (q_d dX6_beliefs_1 20 rfl) rfl rfl (nN_p _ 1) (by decide) rfl rfl ?_
                  refine T.goto (tgt := 34) (q_d dX6_beliefs_1 21 rfl) (by decide) ?_
                  first
                    | exact absurd h80 (by decide)
                    | exact absurd rfl h80
                    | exact absurd h97 (by decide)
                    | exact absurd rfl h97
                    | (have h := ih (i + 1) M' (by omega) hX2 hn
                       rw [hg, mostTo] at h
                       refine T.drop (loc' := _) ?_ h
                       first
                         | (have hc : nd (i + 1) ≠ 1000 ∧ mostTo nd i < nd (i + 1) := ⟨by omega, by omega⟩
                            rw [if_pos hc, if_pos hc]
                            exact ⟨rfl, rfl, rfl, rfl, rfl, trivial⟩)
                         | (have hc : ¬ (nd (i + 1) ≠ 1000 ∧ mostTo nd i < nd (i + 1)) := fun q => by omega
                            rw [if_neg hc, if_neg hc]
                            exact ⟨rfl, rfl, rfl, rfl, rfl, trivial⟩))
    by_cases a4 : u < 4
    · refine T.iload_n (pc' := 1) (q_d dX6_beliefs_0 0 rfl) rfl rfl rfl ?_
      refine T.iconst (pc' := 2) (v := nI 0) (q_d dX6_beliefs_0 1 rfl) rfl (by decide) ?_
      refine T.iconst (pc' := 3) (v := nI 4) (q_d dX6_beliefs_0 2 rfl) rfl (by decide) ?_
      refine T.callS (pc' := 6) (q_d dX6_beliefs_0 3 rfl) rfl uX6_in wM_X6_43 (m_in hu (by decide) (hi := 4) (by decide)) rfl rfl (by decide) (Nat.le_of_ble_eq_true rfl) rfl rfl (fun _ => rfl) ?_
      rintro _ _ ⟨rfl, rfl⟩
      dsimp only [Option.toList, List.cons_append, List.nil_append, List.append_nil]
      refine T.if_neN (tgt := 12) (pc' := 9) (q_d dX6_beliefs_0 4 rfl) rfl (by decide) (by split <;> decide) (fun h6 => ?_) (fun h6 => ?_)
      · refine T.aload_n (pc' := 13) (q_d dX6_beliefs_0 7 rfl) rfl rfl rfl ?_
        refine T.iload_n (pc' := 14) (q_d dX6_beliefs_0 8 rfl) rfl rfl rfl ?_
        refine T.iconst (pc' := 15) (v := nI 4) (q_d dX6_beliefs_0 9 rfl) rfl (by decide) ?_
        refine T.icmp_geN (tgt := 22) (pc' := 18) (q_d dX6_beliefs_0 10 rfl) rfl (by decide) (by omega) (by omega) (fun h15 => ?_) (fun h15 => ?_)
        · exact absurd a4 (by omega)
        · refine T.iconst (pc' := 19) (v := nI 1) (q_d dX6_beliefs_0 11 rfl) rfl (by decide) ?_
          refine T.goto (tgt := 23) (q_d dX6_beliefs_0 12 rfl) (by decide) ?_
          refine T.callV (pc' := 26) (ci := 6) (q_d dX6_beliefs_0 14 rfl) rfl uX6_solves wM_X6_96 (m_solves hX (z := 1) (Or.inl ⟨rfl, rfl, rfl⟩)) rfl rfl (by decide) rfl rfl (by decide) (Nat.le_of_ble_eq_true rfl) rfl rfl (fun _ => rfl) ?_
          rintro _ M2 ⟨rfl, f2, fa, f1⟩
          have hX2 := hX.sol f2 fa
          dsimp only [Option.toList, List.cons_append, List.nil_append, List.append_nil]
          refine T.iconst (pc' := 27) (v := nI 0) (q_d dX6_beliefs_0 15 rfl) rfl (by decide) ?_
          refine T.istore_n (pc' := 28) (q_d dX6_beliefs_0 16 rfl) rfl rfl (by decide) rfl rfl ?_
          refine T.ldc (pc' := 30) (v := nI 4293967292) (q_d dX6_beliefs_0 17 rfl) rfl wN_X6_91 ?_
          refine T.istore_n (pc' := 31) (q_d dX6_beliefs_0 18 rfl) rfl rfl (by decide) rfl rfl ?_
          refine T.iconst (pc' := 32) (v := nI 1) (q_d dX6_beliefs_0 19 rfl) rfl (by decide) ?_
          refine T.istore (pc' := 34) (q_d dX6_beliefs_0 20 rfl) rfl (by decide) rfl rfl ?_
          refine loop 0 3 _ rfl (fun r hr => ?_) (2 ^ s 0 - 1) 0 M2 (by omega) hX2 (fun x hx => (f1 x hx).1)
          rw [hr]
          rcases (by omega : u = 0 ∨ u = 1 ∨ u = 2 ∨ u = 3) with rfl | rfl | rfl | rfl <;> simp [qBeliefs]
      · exact absurd h6 (by rw [if_pos e1]; decide)
    · have e4 : u = 4 := by omega
      refine T.iload_n (pc' := 1) (q_d dX6_beliefs_0 0 rfl) rfl rfl rfl ?_
      refine T.iconst (pc' := 2) (v := nI 0) (q_d dX6_beliefs_0 1 rfl) rfl (by decide) ?_
      refine T.iconst (pc' := 3) (v := nI 4) (q_d dX6_beliefs_0 2 rfl) rfl (by decide) ?_
      refine T.callS (pc' := 6) (q_d dX6_beliefs_0 3 rfl) rfl uX6_in wM_X6_43 (m_in hu (by decide) (hi := 4) (by decide)) rfl rfl (by decide) (Nat.le_of_ble_eq_true rfl) rfl rfl (fun _ => rfl) ?_
      rintro _ _ ⟨rfl, rfl⟩
      dsimp only [Option.toList, List.cons_append, List.nil_append, List.append_nil]
      refine T.if_neN (tgt := 12) (pc' := 9) (q_d dX6_beliefs_0 4 rfl) rfl (by decide) (by split <;> decide) (fun h6 => ?_) (fun h6 => ?_)
      · refine T.aload_n (pc' := 13) (q_d dX6_beliefs_0 7 rfl) rfl rfl rfl ?_
        refine T.iload_n (pc' := 14) (q_d dX6_beliefs_0 8 rfl) rfl rfl rfl ?_
        refine T.iconst (pc' := 15) (v := nI 4) (q_d dX6_beliefs_0 9 rfl) rfl (by decide) ?_
        refine T.icmp_geN (tgt := 22) (pc' := 18) (q_d dX6_beliefs_0 10 rfl) rfl (by decide) (by omega) (by omega) (fun h15 => ?_) (fun h15 => ?_)
        · refine T.iconst (pc' := 23) (v := nI 0) (q_d dX6_beliefs_0 13 rfl) rfl (by decide) ?_
          refine T.callV (pc' := 26) (ci := 6) (q_d dX6_beliefs_0 14 rfl) rfl uX6_solves wM_X6_96 (m_solves hX (z := 0) (Or.inr ⟨rfl, rfl, rfl⟩)) rfl rfl (by decide) rfl rfl (by decide) (Nat.le_of_ble_eq_true rfl) rfl rfl (fun _ => rfl) ?_
          rintro _ M2 ⟨rfl, f2, fa, f1⟩
          have hX2 := hX.sol f2 fa
          dsimp only [Option.toList, List.cons_append, List.nil_append, List.append_nil]
          refine T.iconst (pc' := 27) (v := nI 0) (q_d dX6_beliefs_0 15 rfl) rfl (by decide) ?_
          refine T.istore_n (pc' := 28) (q_d dX6_beliefs_0 16 rfl) rfl rfl (by decide) rfl rfl ?_
          refine T.ldc (pc' := 30) (v := nI 4293967292) (q_d dX6_beliefs_0 17 rfl) rfl wN_X6_91 ?_
          refine T.istore_n (pc' := 31) (q_d dX6_beliefs_0 18 rfl) rfl rfl (by decide) rfl rfl ?_
          refine T.iconst (pc' := 32) (v := nI 1) (q_d dX6_beliefs_0 19 rfl) rfl (by decide) ?_
          refine T.istore (pc' := 34) (q_d dX6_beliefs_0 20 rfl) rfl (by decide) rfl rfl ?_
          refine loop 4 4 _ rfl (fun r hr => ?_) (2 ^ s 0 - 1) 0 M2 (by omega) hX2 (fun x hx => (f1 x hx).1)
          rw [hr]
          subst e4
          simp [qBeliefs]
        · exact absurd h15 (by omega)
      · exact absurd h6 (by rw [if_pos e1]; decide)
  · have e1 : ¬ inS u 0 4 = true := fun q => a1 (e.mp q).2
    refine T.iload_n (pc' := 1) (q_d dX6_beliefs_0 0 rfl) rfl rfl rfl ?_
    refine T.iconst (pc' := 2) (v := nI 0) (q_d dX6_beliefs_0 1 rfl) rfl (by decide) ?_
    refine T.iconst (pc' := 3) (v := nI 4) (q_d dX6_beliefs_0 2 rfl) rfl (by decide) ?_
    refine T.callS (pc' := 6) (q_d dX6_beliefs_0 3 rfl) rfl uX6_in wM_X6_43 (m_in hu (by decide) (hi := 4) (by decide)) rfl rfl (by decide) (Nat.le_of_ble_eq_true rfl) rfl rfl (fun _ => rfl) ?_
    rintro _ _ ⟨rfl, rfl⟩
    dsimp only [Option.toList, List.cons_append, List.nil_append, List.append_nil]
    refine T.if_neN (tgt := 12) (pc' := 9) (q_d dX6_beliefs_0 4 rfl) rfl (by decide) (by split <;> decide) (fun h6 => ?_) (fun h6 => ?_)
    · exact absurd (if_neg e1) h6
    · refine T.ldc (pc' := 11) (v := nI 4293967295) (q_d dX6_beliefs_0 5 rfl) rfl wN_X6_47 ?_
      refine T.iret (q_d dX6_beliefs_0 6 rfl) rfl rfl rfl ?_
      exact ⟨by unfold qBeliefs; rw [if_neg (by omega), if_neg (by omega), if_neg (by omega), if_neg (by omega), if_neg (by omega)], hX⟩
end CM6
