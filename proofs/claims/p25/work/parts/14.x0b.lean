/-! BlindHunts$Hunt: the levels, and what is told of them -/
def mostTo (nd : Nat → Nat) : Nat → Nat
  | 0 => 0
  | k + 1 => if nd (k + 1) ≠ 1000 ∧ mostTo nd k < nd (k + 1) then nd (k + 1) else mostTo nd k
theorem mostTo_le {nd : Nat → Nat} (hv : ∀ y, nd y = 1000 ∨ nd y ≤ 127) : ∀ k, mostTo nd k ≤ 127
  | 0 => by simp [mostTo]
  | k + 1 => by
    have := mostTo_le hv k
    have := hv (k + 1)
    unfold mostTo
    split <;> omega
/-- the first belief of those below n that needs m rounds -/
def hardN (nd : Nat → Nat) (m n : Nat) : Option Nat := (List.range n).find? (fun x => decide (0 < x) && decide (nd x = m))
section CX0B
variable {l : Launch} {M : qM} {h g0 g1 b : Nat} {s : Nat → Nat} {pa : Nat → Nat} {sw : Bool}
theorem c_solveLevel (hh : HO h g0 g1) (hP : M.2.2 = pX pa sw) (hw : WF b s) (hT : RT M s) (h2 : M.1 h 2 = g0) (h3 : M.1 h 3 = g1) {k : Nat} (hk : k < 127) (hR : RHs M h (solN s g0 g1 k)) :
    Ct l hdX kX mX0_solveLevel [.ref h, .ref 20, .int (nI (k + 1))] M (fun v M' => ((v = some (.int (nI 1)) ∧ ∃ x, newly s (solN s g0 g1 k).1 g0 g1 (k + 1) x = true) ∨ (v = some (.int (nI 0)) ∧ ∀ x, newly s (solN s g0 g1 k).1 g0 g1 (k + 1) x = false)) ∧ RHs M' h (solN s g0 g1 (k + 1)) ∧ M'.2 = M.2 ∧ ∀ a, a ≠ h + 1 → a ≠ h + 2 → M'.1 a = M.1 a) := by
  refine Ct.of [some (.ref h), some (.ref 20), some (.int (nI (k + 1))), none, none] (by decide +kernel) (fun h => absurd h (by decide)) (Nat.le_of_ble_eq_true rfl) rfl ?_
  have hle := hh.le
  have hge := hh.ge
  have w0 := p2_le hw.1
  have hA : ∀ x, newly s (solN s g0 g1 k).1 g0 g1 (k + 1) x = true → (solN s g0 g1 (k + 1)).1 x = k + 1 ∧ (solN s g0 g1 (k + 1)).2 x = (fstC s (solN s g0 g1 k).1 g0 g1 (k + 1) x).getD 0 := fun x n1 => by simp only [solN]; rw [if_pos n1, if_pos n1]; exact ⟨rfl, rfl⟩
  have hB : ∀ x, newly s (solN s g0 g1 k).1 g0 g1 (k + 1) x = false → (solN s g0 g1 (k + 1)).1 x = (solN s g0 g1 k).1 x ∧ (solN s g0 g1 (k + 1)).2 x = (solN s g0 g1 k).2 x := fun x n1 => by simp only [solN]; rw [n1]; simp
  have loop : ∀ d j any (M' : qM), j + d = 2 ^ s 0 → 0 < j → M'.2 = M.2 → (∀ a, a ≠ h + 1 → a ≠ h + 2 → M'.1 a = M.1 a) →
      (∀ x, x < 128 → M'.1 (h + 1) x = nc (if x < j then (solN s g0 g1 (k + 1)).1 x else (solN s g0 g1 k).1 x) ∧ M'.1 (h + 2) x = if x < j then (solN s g0 g1 (k + 1)).2 x else (solN s g0 g1 k).2 x) →
      ((any = 1 ∧ ∃ x, newly s (solN s g0 g1 k).1 g0 g1 (k + 1) x = true) ∨ (any = 0 ∧ ∀ x, x < j → newly s (solN s g0 g1 k).1 g0 g1 (k + 1) x = false)) →
      T l hdX kX mX0_solveLevel (fun v M' => ((v = some (.int (nI 1)) ∧ ∃ x, newly s (solN s g0 g1 k).1 g0 g1 (k + 1) x = true) ∨ (v = some (.int (nI 0)) ∧ ∀ x, newly s (solN s g0 g1 k).1 g0 g1 (k + 1) x = false)) ∧ RHs M' h (solN s g0 g1 (k + 1)) ∧ M'.2 = M.2 ∧ ∀ a, a ≠ h + 1 → a ≠ h + 2 → M'.1 a = M.1 a) 0 0 5 [some (.ref h), some (.ref 20), some (.int (nI (k + 1))), some (.int (nI any)), some (.int (nI j))] [] M' := by
    intro d
    induction d with
    | zero =>
      intro j any M' hj hj0 hF ha hc hy
      have h4 : M'.1 20 4 = 2 ^ s 0 := by rw [ha 20 (by omega) (by omega)]; exact hT.2.2.1
      have hout : ∀ x, ¬ x < j → newly s (solN s g0 g1 k).1 g0 g1 (k + 1) x = false := fun x hx => by
        cases hn : newly s (solN s g0 g1 k).1 g0 g1 (k + 1) x with
        | false => rfl
        | true => exact absurd (newly_pos hn).2.1 (by omega)
      refine T.iload (pc' := 7) (q_d dX0_solveLevel_0 4 rfl) rfl rfl ?_
      refine T.aload_n (pc' := 8) (q_d dX0_solveLevel_0 5 rfl) rfl rfl rfl ?_
      refine T.getI (pc' := 11) (ci := 1) (k0 := 4) (q_d dX0_solveLevel_0 6 rfl) rfl rfl (by decide) rfl inX1 (by decide) rfl wF_X0_29 h4 ?_
      refine T.icmp_geN (tgt := 53) (pc' := 14) (q_d dX0_solveLevel_0 7 rfl) rfl (by decide) (by omega) (by omega) (fun h11 => ?_) (fun h11 => ?_)
      · refine T.iload_n (pc' := 54) (q_d dX0_solveLevel_0 28 rfl) rfl rfl rfl ?_
        refine T.zret (q_d dX0_solveLevel_0 29 rfl) rfl (by rcases hy with ⟨e, -⟩ | ⟨e, -⟩ <;> subst e <;> decide) rfl rfl ?_
        refine ⟨?_, fun x hx => ?_, hF, ha⟩
        · rcases hy with ⟨e, h9⟩ | ⟨e, h9⟩
          · subst e; exact Or.inl ⟨rfl, h9⟩
          · subst e; exact Or.inr ⟨rfl, fun x => by
              by_cases hx : x < j
              · exact h9 x hx
              · exact hout x hx⟩
        · have h9 := hc x hx
          by_cases hxj : x < j
          · rw [if_pos hxj, if_pos hxj] at h9; exact h9
          · have h8 := hB x (hout x hxj)
            rw [if_neg hxj, if_neg hxj, ← h8.1, ← h8.2] at h9; exact h9
      · exact absurd h11 (by omega)
    | succ d ih =>
      intro j any M' hj hj0 hF ha hc hy
      have hP' : M'.2.2 = pX pa sw := by rw [hF]; exact hP
      have h4 : M'.1 20 4 = 2 ^ s 0 := by rw [ha 20 (by omega) (by omega)]; exact hT.2.2.1
      have hT' : RT M' s := hT.mono (fun a a1 a2 => ha a (by omega) (by omega))
      have h2' : M'.1 h 2 = g0 := by rw [ha h (by omega) (by omega)]; exact h2
      have h3' : M'.1 h 3 = g1 := by rw [ha h (by omega) (by omega)]; exact h3
      have hj2 : j < 2 ^ s 0 := by omega
      have hcv : ∀ y, (if y < j then (solN s g0 g1 (k + 1)).1 y else (solN s g0 g1 k).1 y) = 1000 ∨ (if y < j then (solN s g0 g1 (k + 1)).1 y else (solN s g0 g1 k).1 y) ≤ 127 := fun y => by
        split
        · rcases sol_val (s := s) (g0 := g0) (g1 := g1) (k + 1) y with v | v <;> omega
        · rcases sol_val (s := s) (g0 := g0) (g1 := g1) k y with v | v <;> omega
      have hvk : (solN s g0 g1 k).1 j = 1000 ∨ (solN s g0 g1 k).1 j ≤ 127 := by rcases sol_val (s := s) (g0 := g0) (g1 := g1) k j with v | v <;> omega
      have hnl := nc_lt hvk
      have hm := nc_m1 hvk
      have hcj : M'.1 (h + 1) j = nc ((solN s g0 g1 k).1 j) := by rw [(hc j (by omega)).1, if_neg (Nat.lt_irrefl _)]
      have hlt : ∀ y, (if y < j then (solN s g0 g1 (k + 1)).1 y else (solN s g0 g1 k).1 y) < k + 1 ↔ (solN s g0 g1 k).1 y < k + 1 := fun y => by
        split
        · cases hn : newly s (solN s g0 g1 k).1 g0 g1 (k + 1) y with
          | false => rw [(hB y hn).1]
          | true =>
            rw [(hA y hn).1, (newly_pos hn).2.2.1]
            omega
        · exact Iff.rfl
      have hfc : fstC s (fun y => if y < j then (solN s g0 g1 (k + 1)).1 y else (solN s g0 g1 k).1 y) g0 g1 (k + 1) j = fstC s (solN s g0 g1 k).1 g0 g1 (k + 1) j := by
        rw [fstC_ck, fstC_ck, enough_congr hle.2 hlt]
      have hstep : newly s (solN s g0 g1 k).1 g0 g1 (k + 1) j = false → T l hdX kX mX0_solveLevel (fun v M' => ((v = some (.int (nI 1)) ∧ ∃ x, newly s (solN s g0 g1 k).1 g0 g1 (k + 1) x = true) ∨ (v = some (.int (nI 0)) ∧ ∀ x, newly s (solN s g0 g1 k).1 g0 g1 (k + 1) x = false)) ∧ RHs M' h (solN s g0 g1 (k + 1)) ∧ M'.2 = M.2 ∧ ∀ a, a ≠ h + 1 → a ≠ h + 2 → M'.1 a = M.1 a) 0 0 5 [some (.ref h), some (.ref 20), some (.int (nI (k + 1))), some (.int (nI any)), some (.int (nI (j + 1)))] [] M' := by
        intro hnew
        refine ih (j + 1) any M' (by omega) (by omega) hF ha (fun x hx => ?_) ?_
        · have h9 := hc x hx
          have h8 := hB j hnew
          by_cases e : x = j
          · subst e
            rw [if_neg (Nat.lt_irrefl _), if_neg (Nat.lt_irrefl _), ← h8.1, ← h8.2] at h9
            rw [if_pos (Nat.lt_succ_self _), if_pos (Nat.lt_succ_self _)]
            exact h9
          · by_cases e2 : x < j
            · rw [if_pos e2, if_pos e2] at h9
              rw [if_pos (by omega), if_pos (by omega)]
              exact h9
            · rw [if_neg e2, if_neg e2] at h9
              rw [if_neg (by omega), if_neg (by omega)]
              exact h9
        · rcases hy with ⟨e, h9⟩ | ⟨e, h9⟩
          · exact Or.inl ⟨e, h9⟩
          · refine Or.inr ⟨e, fun x hx => ?_⟩
            by_cases e2 : x = j
            · subst e2; exact hnew
            · exact h9 x (by omega)
      refine T.iload (pc' := 7) (q_d dX0_solveLevel_0 4 rfl) rfl rfl ?_
      refine T.aload_n (pc' := 8) (q_d dX0_solveLevel_0 5 rfl) rfl rfl rfl ?_
      refine T.getI (pc' := 11) (ci := 1) (k0 := 4) (q_d dX0_solveLevel_0 6 rfl) rfl rfl (by decide) rfl inX1 (by decide) rfl wF_X0_29 h4 ?_
      refine T.icmp_geN (tgt := 53) (pc' := 14) (q_d dX0_solveLevel_0 7 rfl) rfl (by decide) (by omega) (by omega) (fun h11 => ?_) (fun h11 => ?_)
      · exact absurd h11 (by omega)
      · refine T.aload_n (pc' := 15) (q_d dX0_solveLevel_0 8 rfl) rfl rfl rfl ?_
        refine T.getR (pc' := 18) (ci := 0) (k0 := 0) (q_d dX0_solveLevel_0 9 rfl) rfl (HO.o hh) (Nat.lt_of_le_of_lt (Nat.le_add_right _ _) (HO.lt hh)) rfl inX0 (by decide) rfl wF_X0_9 (rP hP' (HO.p0 hh)) ?_
        refine T.iload (pc' := 20) (q_d dX0_solveLevel_0 10 rfl) rfl rfl ?_
        refine T.iald (pc' := 21) (q_d dX0_solveLevel_0 11 rfl) rfl (HO.a1 hh) (Nat.lt_of_le_of_lt (by omega) (HO.lt hh)) rfl (by omega) (by decide) hcj ?_
        refine T.iconst (pc' := 22) (v := nI 4294967295) (q_d dX0_solveLevel_0 12 rfl) rfl (by decide) ?_
        refine T.icmp_neN (tgt := 47) (pc' := 25) (q_d dX0_solveLevel_0 13 rfl) rfl (by decide) (by omega) (by omega) (fun h22 => ?_) (fun h22 => ?_)
        · refine T.iinc (pc' := 50) (q_d dX0_solveLevel_0 26 rfl) rfl rfl (nN_p _ 1) (by decide) rfl rfl ?_
          refine T.goto (tgt := 5) (q_d dX0_solveLevel_0 27 rfl) (by decide) ?_
          exact hstep (by
            cases hn : newly s (solN s g0 g1 k).1 g0 g1 (k + 1) j with
            | false => rfl
            | true => exact absurd (hm.mpr (newly_pos hn).2.2.1) h22)
        · refine T.aload_n (pc' := 26) (q_d dX0_solveLevel_0 14 rfl) rfl rfl rfl ?_
          refine T.iload (pc' := 28) (q_d dX0_solveLevel_0 15 rfl) rfl rfl ?_
          refine T.callV (pc' := 31) (ci := 0) (q_d dX0_solveLevel_0 16 rfl) rfl uX0_partsAreSure wM_X0_34 (c_partsAreSure hh hP' (nd := fun y => if y < j then (solN s g0 g1 (k + 1)).1 y else (solN s g0 g1 k).1 y) (fun y hy9 => (hc y hy9).1) hcv (show j < 128 by omega)) rfl rfl (Nat.lt_of_le_of_lt (Nat.le_add_right _ _) (HO.lt hh)) (HO.o hh) rfl (by decide) (Nat.le_of_ble_eq_true rfl) rfl rfl (fun _ => rfl) ?_
          rintro v9 _ ⟨rfl, hps⟩
          obtain ⟨pv, rfl, pl, hps⟩ := or_num hps
          dsimp only [Option.toList, List.cons_append, List.nil_append, List.append_nil]
          refine T.if_eqN (tgt := 47) (pc' := 34) (q_d dX0_solveLevel_0 17 rfl) rfl (by decide) (by omega) (fun h31 => ?_) (fun h31 => ?_)
          · obtain ⟨p, p1, p2, p3⟩ : ∃ p, p < 7 ∧ j.testBit p = true ∧ (if dif j (1 <<< p) < j then (solN s g0 g1 (k + 1)).1 (dif j (1 <<< p)) else (solN s g0 g1 k).1 (dif j (1 <<< p))) = 1000 := by
              rcases hps with ⟨e, -⟩ | ⟨-, e⟩
              · exact absurd h31 (by omega)
              · exact e
            rw [if_pos (dif_less (by omega) p2)] at p3
            refine T.iinc (pc' := 50) (q_d dX0_solveLevel_0 26 rfl) rfl rfl (nN_p _ 1) (by decide) rfl rfl ?_
            refine T.goto (tgt := 5) (q_d dX0_solveLevel_0 27 rfl) (by decide) ?_
            exact hstep (part_no hw.1 hle.2 (by omega) hj2 p1 p3)
          · refine T.aload_n (pc' := 35) (q_d dX0_solveLevel_0 18 rfl) rfl rfl rfl ?_
            refine T.aload_n (pc' := 36) (q_d dX0_solveLevel_0 19 rfl) rfl rfl rfl ?_
            refine T.iload (pc' := 38) (q_d dX0_solveLevel_0 20 rfl) rfl rfl ?_
            refine T.iload_n (pc' := 39) (q_d dX0_solveLevel_0 21 rfl) rfl rfl rfl ?_
            refine T.callV (pc' := 42) (ci := 0) (q_d dX0_solveLevel_0 22 rfl) rfl uX0_settle wM_X0_38 (c_settle hh hP' hw hT' h2' h3' (nd := fun y => if y < j then (solN s g0 g1 (k + 1)).1 y else (solN s g0 g1 k).1 y) (fun y hy9 => (hc y hy9).1) hcv (lv := k + 1) hj2 (by omega)) rfl rfl (Nat.lt_of_le_of_lt (Nat.le_add_right _ _) (HO.lt hh)) (HO.o hh) rfl (by decide) (Nat.le_of_ble_eq_true rfl) rfl rfl (fun _ => rfl) ?_
            rintro v8 M2 hse
            obtain ⟨sv, rfl, sl9, hse⟩ := or_num hse
            dsimp only [Option.toList, List.cons_append, List.nil_append, List.append_nil]
            refine T.if_eqN (tgt := 47) (pc' := 45) (q_d dX0_solveLevel_0 23 rfl) rfl (by decide) (by omega) (fun h42 => ?_) (fun h42 => ?_)
            · rcases hse with ⟨e, -⟩ | ⟨-, e, rfl⟩
              · exact absurd h42 (by omega)
              refine T.iinc (pc' := 50) (q_d dX0_solveLevel_0 26 rfl) rfl rfl (nN_p _ 1) (by decide) rfl rfl ?_
              refine T.goto (tgt := 5) (q_d dX0_solveLevel_0 27 rfl) (by decide) ?_
              exact hstep (by
                cases hn : newly s (solN s g0 g1 k).1 g0 g1 (k + 1) j with
                | false => rfl
                | true =>
                  have h9 := (newly_pos hn).2.2.2
                  rw [← hfc, e] at h9
                  cases h9)
            · refine T.iconst (pc' := 46) (v := nI 1) (q_d dX0_solveLevel_0 24 rfl) rfl (by decide) ?_
              refine T.istore_n (pc' := 47) (q_d dX0_solveLevel_0 25 rfl) rfl rfl (by decide) rfl rfl ?_
              refine T.iinc (pc' := 50) (q_d dX0_solveLevel_0 26 rfl) rfl rfl (nN_p _ 1) (by decide) rfl rfl ?_
              refine T.goto (tgt := 5) (q_d dX0_solveLevel_0 27 rfl) (by decide) ?_
              rcases hse with ⟨-, c, hcc, rfl⟩ | ⟨e, -, -⟩
              · have hnew : newly s (solN s g0 g1 k).1 g0 g1 (k + 1) j = true := by
                  rw [hfc] at hcc
                  simp only [newly, Bool.and_eq_true, decide_eq_true_eq]
                  exact ⟨⟨⟨hj0, hj2⟩, hm.mp h22⟩, by rw [hcc]; rfl⟩
                have h8 := hA j hnew
                rw [hfc] at hcc
                rw [hcc] at h8
                refine ih (j + 1) 1 _ (by omega) (by omega) hF (fun a a1 a2 => ?_) (fun x hx => ?_) (Or.inl ⟨rfl, j, hnew⟩)
                · funext y; rw [qI_ne (Or.inl a2), qI_ne (Or.inl a1), ha a a1 a2]
                · have h9 := hc x hx
                  by_cases e : x = j
                  · subst e
                    rw [if_pos (Nat.lt_succ_self _), if_pos (Nat.lt_succ_self _), qI_ne (Or.inl (by omega)), qI_eq, qI_eq, h8.1, h8.2, nc_id (by omega)]
                    exact ⟨rfl, rfl⟩
                  · rw [qI_ne (Or.inl (by omega)), qI_ne (Or.inr e), qI_ne (Or.inr e), qI_ne (Or.inr e)]
                    by_cases e2 : x < j
                    · rw [if_pos e2, if_pos e2] at h9
                      rw [if_pos (by omega), if_pos (by omega)]
                      exact h9
                    · rw [if_neg e2, if_neg e2] at h9
                      rw [if_neg (by omega), if_neg (by omega)]
                      exact h9
              · exact absurd e h42
  refine T.iconst (pc' := 1) (v := nI 0) (q_d dX0_solveLevel_0 0 rfl) rfl (by decide) ?_
  refine T.istore_n (pc' := 2) (q_d dX0_solveLevel_0 1 rfl) rfl rfl (by decide) rfl rfl ?_
  refine T.iconst (pc' := 3) (v := nI 1) (q_d dX0_solveLevel_0 2 rfl) rfl (by decide) ?_
  refine T.istore (pc' := 5) (q_d dX0_solveLevel_0 3 rfl) rfl (by decide) rfl rfl ?_
  have h1 : 0 < 2 ^ s 0 := Nat.two_pow_pos _
  refine loop (2 ^ s 0 - 1) 1 0 M (by omega) (by decide) rfl (fun _ _ _ => rfl) (fun x hx => ?_) (Or.inr ⟨rfl, fun x hx => ?_⟩)
  · have h9 := hR x hx
    by_cases e : x < 1
    · have e0 : x = 0 := by omega
      subst e0
      have h8 := hB 0 (by
        cases hn : newly s (solN s g0 g1 k).1 g0 g1 (k + 1) 0 with
        | false => rfl
        | true => exact absurd (newly_pos hn).1 (Nat.lt_irrefl 0))
      rw [if_pos e, if_pos e, h8.1, h8.2]; exact h9
    · rw [if_neg e, if_neg e]; exact h9
  · have e0 : x = 0 := by omega
    subst e0
    cases hn : newly s (solN s g0 g1 k).1 g0 g1 (k + 1) 0 with
    | false => rfl
    | true => exact absurd (newly_pos hn).1 (Nat.lt_irrefl 0)
theorem c_solve (hh : HO h g0 g1) (hP : M.2.2 = pX pa sw) (hw : WF b s) (hT : RT M s) (h2 : M.1 h 2 = g0) (h3 : M.1 h 3 = g1) :
    Ct l hdX kX mX0_solve [.ref h, .ref 20] M (fun v M' => v = none ∧ RHs M' h (solN s g0 g1 127) ∧ M'.2 = M.2 ∧ ∀ a, a ≠ h + 1 → a ≠ h + 2 → M'.1 a = M.1 a) := by
  refine Ct.of [some (.ref h), some (.ref 20), none, none] (by decide +kernel) (fun h => absurd h (by decide)) (Nat.le_of_ble_eq_true rfl) rfl ?_
  have hle := hh.le
  have hge := hh.ge
  have loop2 : ∀ d k m (M' : qM), k + d = 127 → M'.2 = M.2 → (∀ a, a ≠ h + 1 → a ≠ h + 2 → M'.1 a = M.1 a) → RHs M' h (solN s g0 g1 k) → (m = 1 ∨ (m = 0 ∧ solN s g0 g1 127 = solN s g0 g1 k)) →
      T l hdX kX mX0_solve (fun v M' => v = none ∧ RHs M' h (solN s g0 g1 127) ∧ M'.2 = M.2 ∧ ∀ a, a ≠ h + 1 → a ≠ h + 2 → M'.1 a = M.1 a) 0 0 40 [some (.ref h), some (.ref 20), some (.int (nI m)), some (.int (nI (k + 1)))] [] M' := by
    intro d
    induction d with
    | zero =>
      intro k m M' hk hF ha hR hm
      have e : k = 127 := by omega
      subst e
      refine T.iload_n (pc' := 41) (q_d dX0_solve_0 26 rfl) rfl rfl rfl ?_
      refine T.sipush (pc' := 44) (v := nI 128) (q_d dX0_solve_0 27 rfl) rfl (by decide) ?_
      refine T.icmp_geN (tgt := 64) (pc' := 47) (q_d dX0_solve_0 28 rfl) rfl (by decide) (by omega) (by omega) (fun h44 => ?_) (fun h44 => ?_)
      · refine T.vret (q_d dX0_solve_0 38 rfl) rfl rfl rfl ?_
        exact ⟨rfl, hR, hF, ha⟩
      · exact absurd h44 (by omega)
    | succ d ih =>
      intro k m M' hk hF ha hR hm
      have hP' : M'.2.2 = pX pa sw := by rw [hF]; exact hP
      have hT' : RT M' s := hT.mono (fun a a1 a2 => ha a (by omega) (by omega))
      have h2' : M'.1 h 2 = g0 := by rw [ha h (by omega) (by omega)]; exact h2
      have h3' : M'.1 h 3 = g1 := by rw [ha h (by omega) (by omega)]; exact h3
      refine T.iload_n (pc' := 41) (q_d dX0_solve_0 26 rfl) rfl rfl rfl ?_
      refine T.sipush (pc' := 44) (v := nI 128) (q_d dX0_solve_0 27 rfl) rfl (by decide) ?_
      refine T.icmp_geN (tgt := 64) (pc' := 47) (q_d dX0_solve_0 28 rfl) rfl (by decide) (by omega) (by omega) (fun h44 => ?_) (fun h44 => ?_)
      · exact absurd h44 (by omega)
      · refine T.iload_n (pc' := 48) (q_d dX0_solve_0 29 rfl) rfl rfl rfl ?_
        refine T.if_eqN (tgt := 64) (pc' := 51) (q_d dX0_solve_0 30 rfl) rfl (by decide) (by omega) (fun h48 => ?_) (fun h48 => ?_)
        · refine T.vret (q_d dX0_solve_0 38 rfl) rfl rfl rfl ?_
          rcases hm with e | ⟨-, e⟩
          · exact absurd h48 (by omega)
          · exact ⟨rfl, by rw [e]; exact hR, hF, ha⟩
        · refine T.aload_n (pc' := 52) (q_d dX0_solve_0 31 rfl) rfl rfl rfl ?_
          refine T.aload_n (pc' := 53) (q_d dX0_solve_0 32 rfl) rfl rfl rfl ?_
          refine T.iload_n (pc' := 54) (q_d dX0_solve_0 33 rfl) rfl rfl rfl ?_
          refine T.callV (pc' := 57) (ci := 0) (q_d dX0_solve_0 34 rfl) rfl uX0_solveLevel wM_X0_25 (c_solveLevel hh hP' hw hT' h2' h3' (k := k) (by omega) hR) rfl rfl (Nat.lt_of_le_of_lt (Nat.le_add_right _ _) (HO.lt hh)) (HO.o hh) rfl (by decide) (Nat.le_of_ble_eq_true rfl) rfl rfl (fun _ => rfl) ?_
          rintro v8 M2 ⟨hse, q1, q2, q3⟩
          obtain ⟨sv, rfl, sl9, hse⟩ := or_num hse
          dsimp only [Option.toList, List.cons_append, List.nil_append, List.append_nil]
          refine T.istore_n (pc' := 58) (q_d dX0_solve_0 35 rfl) rfl rfl (by decide) rfl rfl ?_
          refine T.iinc (pc' := 61) (q_d dX0_solve_0 36 rfl) rfl rfl (nN_p _ 1) (by decide) rfl rfl ?_
          refine T.goto (tgt := 40) (q_d dX0_solve_0 37 rfl) (by decide) ?_
          refine ih (k + 1) sv M2 (by omega) (q2.trans hF) (fun a a1 a2 => (q3 a a1 a2).trans (ha a a1 a2)) q1 ?_
          rcases hse with ⟨e, -⟩ | ⟨e, h9⟩
          · exact Or.inl e
          · refine Or.inr ⟨e, ?_⟩
            rw [sol_end hle.2 h9 (show k ≤ 127 by omega) (by decide), sol_end hle.2 h9 (Nat.le_succ k) (by omega)]
  have loop1 : ∀ d k (M' : qM), k + d = 128 → M'.2 = M.2 → (∀ a, a ≠ h + 1 → a ≠ h + 2 → M'.1 a = M.1 a) → (∀ x, x < k → M'.1 (h + 1) x = 4294967295 ∧ M'.1 (h + 2) x = 0) →
      T l hdX kX mX0_solve (fun v M' => v = none ∧ RHs M' h (solN s g0 g1 127) ∧ M'.2 = M.2 ∧ ∀ a, a ≠ h + 1 → a ≠ h + 2 → M'.1 a = M.1 a) 0 0 2 [some (.ref h), some (.ref 20), some (.int (nI k)), none] [] M' := by
    intro d
    induction d with
    | zero =>
      intro k M' hk hF ha hx
      have hP' : M'.2.2 = pX pa sw := by rw [hF]; exact hP
      refine T.iload_n (pc' := 3) (q_d dX0_solve_0 2 rfl) rfl rfl rfl ?_
      refine T.sipush (pc' := 6) (v := nI 128) (q_d dX0_solve_0 3 rfl) rfl (by decide) ?_
      refine T.icmp_geN (tgt := 29) (pc' := 9) (q_d dX0_solve_0 4 rfl) rfl (by decide) (by omega) (by omega) (fun h6 => ?_) (fun h6 => ?_)
      · refine T.aload_n (pc' := 30) (q_d dX0_solve_0 17 rfl) rfl rfl rfl ?_
        refine T.getR (pc' := 33) (ci := 0) (k0 := 0) (q_d dX0_solve_0 18 rfl) rfl (HO.o hh) (Nat.lt_of_le_of_lt (Nat.le_add_right _ _) (HO.lt hh)) rfl inX0 (by decide) rfl wF_X0_9 (rP hP' (HO.p0 hh)) ?_
        refine T.iconst (pc' := 34) (v := nI 0) (q_d dX0_solve_0 19 rfl) rfl (by decide) ?_
        refine T.iconst (pc' := 35) (v := nI 0) (q_d dX0_solve_0 20 rfl) rfl (by decide) ?_
        refine T.iast (pc' := 36) (q_d dX0_solve_0 21 rfl) rfl (HO.a1 hh) (Nat.lt_of_le_of_lt (by omega) (HO.lt hh)) rfl (by omega) (by decide) ?_
        refine T.iconst (pc' := 37) (v := nI 1) (q_d dX0_solve_0 22 rfl) rfl (by decide) ?_
        refine T.istore_n (pc' := 38) (q_d dX0_solve_0 23 rfl) rfl rfl (by decide) rfl rfl ?_
        refine T.iconst (pc' := 39) (v := nI 1) (q_d dX0_solve_0 24 rfl) rfl (by decide) ?_
        refine T.istore_n (pc' := 40) (q_d dX0_solve_0 25 rfl) rfl rfl (by decide) rfl rfl ?_
        refine loop2 127 0 1 _ (by omega) hF (fun a a1 a2 => ?_) (fun x hx9 => ?_) (Or.inl rfl)
        · funext y; rw [qI_ne (Or.inl a1), ha a a1 a2]
        · by_cases e : x = 0
          · subst e
            rw [qI_eq, qI_ne (Or.inl (by omega))]
            exact ⟨rfl, (hx 0 (by omega)).2⟩
          · rw [qI_ne (Or.inr e), qI_ne (Or.inr e)]
            have h9 := hx x (by omega)
            rw [h9.1, h9.2]
            refine ⟨?_, rfl⟩
            simp only [solN]
            rw [if_neg e]; rfl
      · exact absurd h6 (by omega)
    | succ d ih =>
      intro k M' hk hF ha hx
      have hP' : M'.2.2 = pX pa sw := by rw [hF]; exact hP
      refine T.iload_n (pc' := 3) (q_d dX0_solve_0 2 rfl) rfl rfl rfl ?_
      refine T.sipush (pc' := 6) (v := nI 128) (q_d dX0_solve_0 3 rfl) rfl (by decide) ?_
      refine T.icmp_geN (tgt := 29) (pc' := 9) (q_d dX0_solve_0 4 rfl) rfl (by decide) (by omega) (by omega) (fun h6 => ?_) (fun h6 => ?_)
      · exact absurd h6 (by omega)
      · refine T.aload_n (pc' := 10) (q_d dX0_solve_0 5 rfl) rfl rfl rfl ?_
        refine T.getR (pc' := 13) (ci := 0) (k0 := 0) (q_d dX0_solve_0 6 rfl) rfl (HO.o hh) (Nat.lt_of_le_of_lt (Nat.le_add_right _ _) (HO.lt hh)) rfl inX0 (by decide) rfl wF_X0_9 (rP hP' (HO.p0 hh)) ?_
        refine T.iload_n (pc' := 14) (q_d dX0_solve_0 7 rfl) rfl rfl rfl ?_
        refine T.iconst (pc' := 15) (v := nI 4294967295) (q_d dX0_solve_0 8 rfl) rfl (by decide) ?_
        refine T.iast (pc' := 16) (q_d dX0_solve_0 9 rfl) rfl (HO.a1 hh) (Nat.lt_of_le_of_lt (by omega) (HO.lt hh)) rfl (by omega) (by decide) ?_
        refine T.aload_n (pc' := 17) (q_d dX0_solve_0 10 rfl) rfl rfl rfl ?_
        refine T.getR (pc' := 20) (ci := 0) (k0 := 1) (q_d dX0_solve_0 11 rfl) rfl (HO.o hh) (Nat.lt_of_le_of_lt (Nat.le_add_right _ _) (HO.lt hh)) rfl inX0 (by decide) rfl wF_X0_15 (rP hP' (HO.p1 hh)) ?_
        refine T.iload_n (pc' := 21) (q_d dX0_solve_0 12 rfl) rfl rfl rfl ?_
        refine T.iconst (pc' := 22) (v := nI 0) (q_d dX0_solve_0 13 rfl) rfl (by decide) ?_
        refine T.iast (pc' := 23) (q_d dX0_solve_0 14 rfl) rfl (HO.a2 hh) (Nat.lt_of_le_of_lt (by omega) (HO.lt hh)) rfl (by omega) (by decide) ?_
        refine T.iinc (pc' := 26) (q_d dX0_solve_0 15 rfl) rfl rfl (nN_p _ 1) (by decide) rfl rfl ?_
        refine T.goto (tgt := 2) (q_d dX0_solve_0 16 rfl) (by decide) ?_
        refine ih (k + 1) _ (by omega) hF (fun a a1 a2 => ?_) (fun x hx9 => ?_)
        · funext y; rw [qI_ne (Or.inl a2), qI_ne (Or.inl a1), ha a a1 a2]
        · by_cases e : x = k
          · subst e
            rw [qI_ne (Or.inl (by omega)), qI_eq, qI_eq]
            exact ⟨rfl, rfl⟩
          · rw [qI_ne (Or.inr e), qI_ne (Or.inr e), qI_ne (Or.inr e), qI_ne (Or.inr e)]
            exact hx x (by omega)
  refine T.iconst (pc' := 1) (v := nI 0) (q_d dX0_solve_0 0 rfl) rfl (by decide) ?_
  refine T.istore_n (pc' := 2) (q_d dX0_solve_0 1 rfl) rfl rfl (by decide) rfl rfl ?_
  exact loop1 128 0 M (by omega) rfl (fun _ _ _ => rfl) (fun x hx => absurd hx (by omega))
theorem c_countSure (hh : HO h g0 g1) (hP : M.2.2 = pX pa sw) {nd : Nat → Nat} (hn : ∀ y, y < 128 → M.1 (h + 1) y = nc (nd y)) (hv : ∀ y, nd y = 1000 ∨ nd y ≤ 127) {n : Nat} (h1 : 1 ≤ n) (hn9 : n ≤ 128) :
    Ct l hdX kX mX0_countSure [.ref h, .int (nI n)] M (RI M (nset nd (n - 1))) := by
  refine Ct.of [some (.ref h), some (.int (nI n)), none, none] (by decide +kernel) (fun h => absurd h (by decide)) (Nat.le_of_ble_eq_true rfl) rfl ?_
  have loop : ∀ d k, k + d + 1 = n → T l hdX kX mX0_countSure (RI M (nset nd (n - 1))) 0 0 4 [some (.ref h), some (.int (nI n)), some (.int (nI (nset nd k))), some (.int (nI (k + 1)))] [] M := by
    intro d
    induction d with
    | zero =>
      intro k hk
      refine T.iload_n (pc' := 5) (q_d dX0_countSure_0 4 rfl) rfl rfl rfl ?_
      refine T.iload_n (pc' := 6) (q_d dX0_countSure_0 5 rfl) rfl rfl rfl ?_
      refine T.icmp_geN (tgt := 28) (pc' := 9) (q_d dX0_countSure_0 6 rfl) rfl (by decide) (by omega) (by omega) (fun h6 => ?_) (fun h6 => ?_)
      · refine T.iload_n (pc' := 29) (q_d dX0_countSure_0 16 rfl) rfl rfl rfl ?_
        refine T.iret (q_d dX0_countSure_0 17 rfl) rfl rfl rfl ?_
        exact ⟨rfl, by rw [show k = n - 1 by omega]⟩
      · exact absurd h6 (by omega)
    | succ d ih =>
      intro k hk
      have hv1 := hv (k + 1)
      have hnl := nc_lt hv1
      have hm := nc_m1 hv1
      have hs9 : nset nd (k + 1) = nset nd k + (if nd (k + 1) = 1000 then 0 else 1) := rfl
      refine T.iload_n (pc' := 5) (q_d dX0_countSure_0 4 rfl) rfl rfl rfl ?_
      refine T.iload_n (pc' := 6) (q_d dX0_countSure_0 5 rfl) rfl rfl rfl ?_
      refine T.icmp_geN (tgt := 28) (pc' := 9) (q_d dX0_countSure_0 6 rfl) rfl (by decide) (by omega) (by omega) (fun h6 => ?_) (fun h6 => ?_)
      · exact absurd h6 (by omega)
      · refine T.aload_n (pc' := 10) (q_d dX0_countSure_0 7 rfl) rfl rfl rfl ?_
        refine T.getR (pc' := 13) (ci := 0) (k0 := 0) (q_d dX0_countSure_0 8 rfl) rfl (HO.o hh) (Nat.lt_of_le_of_lt (Nat.le_add_right _ _) (HO.lt hh)) rfl inX0 (by decide) rfl wF_X0_9 (rP hP (HO.p0 hh)) ?_
        refine T.iload_n (pc' := 14) (q_d dX0_countSure_0 9 rfl) rfl rfl rfl ?_
        refine T.iald (pc' := 15) (q_d dX0_countSure_0 10 rfl) rfl (HO.a1 hh) (Nat.lt_of_le_of_lt (by omega) (HO.lt hh)) rfl (by omega) (by decide) (hn _ (by omega)) ?_
        refine T.iconst (pc' := 16) (v := nI 4294967295) (q_d dX0_countSure_0 11 rfl) rfl (by decide) ?_
        refine T.icmp_eqN (tgt := 22) (pc' := 19) (q_d dX0_countSure_0 12 rfl) rfl (by decide) (by omega) (by omega) (fun h16 => ?_) (fun h16 => ?_)
        · refine T.iinc (pc' := 25) (q_d dX0_countSure_0 14 rfl) rfl rfl (nN_p _ 1) (by decide) rfl rfl ?_
          refine T.goto (tgt := 4) (q_d dX0_countSure_0 15 rfl) (by decide) ?_
          first
            | (have e9 := hm.mp h16
               rw [if_pos e9] at hs9
               have h9 := ih (k + 1) (by omega)
               rw [hs9] at h9
               exact h9)
            | (rw [if_neg (fun e => h16 (hm.mpr e))] at hs9
               have h9 := ih (k + 1) (by omega)
               rw [hs9] at h9
               exact h9)
        · refine T.iinc (pc' := 22) (q_d dX0_countSure_0 13 rfl) rfl rfl (nN_p _ 1) (by decide) rfl rfl ?_
          refine T.iinc (pc' := 25) (q_d dX0_countSure_0 14 rfl) rfl rfl (nN_p _ 1) (by decide) rfl rfl ?_
          refine T.goto (tgt := 4) (q_d dX0_countSure_0 15 rfl) (by decide) ?_
          first
            | (have e9 := hm.mp h16
               rw [if_pos e9] at hs9
               have h9 := ih (k + 1) (by omega)
               rw [hs9] at h9
               exact h9)
            | (rw [if_neg (fun e => h16 (hm.mpr e))] at hs9
               have h9 := ih (k + 1) (by omega)
               rw [hs9] at h9
               exact h9)
  refine T.iconst (pc' := 1) (v := nI 0) (q_d dX0_countSure_0 0 rfl) rfl (by decide) ?_
  refine T.istore_n (pc' := 2) (q_d dX0_countSure_0 1 rfl) rfl rfl (by decide) rfl rfl ?_
  refine T.iconst (pc' := 3) (v := nI 1) (q_d dX0_countSure_0 2 rfl) rfl (by decide) ?_
  refine T.istore_n (pc' := 4) (q_d dX0_countSure_0 3 rfl) rfl rfl (by decide) rfl rfl ?_
  exact loop (n - 1) 0 (by omega)
theorem c_mostNeeded (hh : HO h g0 g1) (hP : M.2.2 = pX pa sw) {nd : Nat → Nat} (hn : ∀ y, y < 128 → M.1 (h + 1) y = nc (nd y)) (hv : ∀ y, nd y = 1000 ∨ nd y ≤ 127) {n : Nat} (h1 : 1 ≤ n) (hn9 : n ≤ 128) :
    Ct l hdX kX mX0_mostNeeded [.ref h, .int (nI n)] M (RI M (mostTo nd (n - 1))) := by
  refine Ct.of [some (.ref h), some (.int (nI n)), none, none] (by decide +kernel) (fun h => absurd h (by decide)) (Nat.le_of_ble_eq_true rfl) rfl ?_
  have loop : ∀ d k, k + d + 1 = n → T l hdX kX mX0_mostNeeded (RI M (mostTo nd (n - 1))) 0 0 4 [some (.ref h), some (.int (nI n)), some (.int (nI (mostTo nd k))), some (.int (nI (k + 1)))] [] M := by
    intro d
    induction d with
    | zero =>
      intro k hk
      refine T.iload_n (pc' := 5) (q_d dX0_mostNeeded_0 4 rfl) rfl rfl rfl ?_
      refine T.iload_n (pc' := 6) (q_d dX0_mostNeeded_0 5 rfl) rfl rfl rfl ?_
      refine T.icmp_geN (tgt := 26) (pc' := 9) (q_d dX0_mostNeeded_0 6 rfl) rfl (by decide) (by omega) (by omega) (fun h6 => ?_) (fun h6 => ?_)
      · refine T.iload_n (pc' := 27) (q_d dX0_mostNeeded_0 16 rfl) rfl rfl rfl ?_
        refine T.iret (q_d dX0_mostNeeded_0 17 rfl) rfl rfl rfl ?_
        exact ⟨rfl, by rw [show k = n - 1 by omega]⟩
      · exact absurd h6 (by omega)
    | succ d ih =>
      intro k hk
      have hv1 := hv (k + 1)
      have hml := mostTo_le hv k
      have hmx : (if nI (mostTo nd k) < nI (nc (nd (k + 1))) then nI (nc (nd (k + 1))) else nI (mostTo nd k)) = nI (mostTo nd (k + 1)) := by
        by_cases e : nd (k + 1) = 1000
        · rw [e, show nc 1000 = 4294967295 from rfl, if_neg, show mostTo nd (k + 1) = mostTo nd k by simp only [mostTo]; rw [if_neg (fun q => q.1 e)]]
          rw [Int32.lt_iff_toInt_lt, nI_toInt (by omega), nN_neg (by decide) (by decide)]
          omega
        · rw [nc_id e]
          by_cases e2 : mostTo nd k < nd (k + 1)
          · rw [if_pos ((nN_lt (by omega) (by omega)).mpr e2)]
            simp only [mostTo]; rw [if_pos ⟨e, e2⟩]
          · rw [if_neg (fun q => e2 ((nN_lt (by omega) (by omega)).mp q))]
            simp only [mostTo]; rw [if_neg (fun q => e2 q.2)]
      refine T.iload_n (pc' := 5) (q_d dX0_mostNeeded_0 4 rfl) rfl rfl rfl ?_
      refine T.iload_n (pc' := 6) (q_d dX0_mostNeeded_0 5 rfl) rfl rfl rfl ?_
      refine T.icmp_geN (tgt := 26) (pc' := 9) (q_d dX0_mostNeeded_0 6 rfl) rfl (by decide) (by omega) (by omega) (fun h6 => ?_) (fun h6 => ?_)
      · exact absurd h6 (by omega)
      · refine T.iload_n (pc' := 10) (q_d dX0_mostNeeded_0 7 rfl) rfl rfl rfl ?_
        refine T.aload_n (pc' := 11) (q_d dX0_mostNeeded_0 8 rfl) rfl rfl rfl ?_
        refine T.getR (pc' := 14) (ci := 0) (k0 := 0) (q_d dX0_mostNeeded_0 9 rfl) rfl (HO.o hh) (Nat.lt_of_le_of_lt (Nat.le_add_right _ _) (HO.lt hh)) rfl inX0 (by decide) rfl wF_X0_9 (rP hP (HO.p0 hh)) ?_
        refine T.iload_n (pc' := 15) (q_d dX0_mostNeeded_0 10 rfl) rfl rfl rfl ?_
        refine T.iald (pc' := 16) (q_d dX0_mostNeeded_0 11 rfl) rfl (HO.a1 hh) (Nat.lt_of_le_of_lt (by omega) (HO.lt hh)) rfl (by omega) (by decide) (hn _ (by omega)) ?_
        refine T.mmax (pc' := 19) (q_d dX0_mostNeeded_0 12 rfl) rfl wM_X0_61 wT_Math_max wZ_Math wC_Math_max (by decide) (Nat.le_of_ble_eq_true rfl) (by decide) (by decide) hmx ?_
        refine T.istore_n (pc' := 20) (q_d dX0_mostNeeded_0 13 rfl) rfl rfl (by decide) rfl rfl ?_
        refine T.iinc (pc' := 23) (q_d dX0_mostNeeded_0 14 rfl) rfl rfl (nN_p _ 1) (by decide) rfl rfl ?_
        refine T.goto (tgt := 4) (q_d dX0_mostNeeded_0 15 rfl) (by decide) ?_
        exact ih (k + 1) (by omega)
  refine T.iconst (pc' := 1) (v := nI 0) (q_d dX0_mostNeeded_0 0 rfl) rfl (by decide) ?_
  refine T.istore_n (pc' := 2) (q_d dX0_mostNeeded_0 1 rfl) rfl rfl (by decide) rfl rfl ?_
  refine T.iconst (pc' := 3) (v := nI 1) (q_d dX0_mostNeeded_0 2 rfl) rfl (by decide) ?_
  refine T.istore_n (pc' := 4) (q_d dX0_mostNeeded_0 3 rfl) rfl rfl (by decide) rfl rfl ?_
  exact loop (n - 1) 0 (by omega)
theorem c_hardestBelief (hh : HO h g0 g1) (hP : M.2.2 = pX pa sw) {nd : Nat → Nat} (hn : ∀ y, y < 128 → M.1 (h + 1) y = nc (nd y)) (hv : ∀ y, nd y = 1000 ∨ nd y ≤ 127) {n : Nat} (h1 : 1 ≤ n) (hn9 : n ≤ 128) :
    Ct l hdX kX mX0_hardestBelief [.ref h, .int (nI n)] M (RI M ((hardN nd (mostTo nd (n - 1)) n).getD 4293967292)) := by
  refine Ct.of [some (.ref h), some (.int (nI n)), none, none] (by decide +kernel) (fun h => absurd h (by decide)) (Nat.le_of_ble_eq_true rfl) rfl ?_
  have hml := mostTo_le hv (n - 1)
  have loop : ∀ d k, k + d = n → 1 ≤ k → (∀ x, x < k → ¬ (0 < x ∧ nd x = mostTo nd (n - 1))) → T l hdX kX mX0_hardestBelief (RI M ((hardN nd (mostTo nd (n - 1)) n).getD 4293967292)) 0 0 8 [some (.ref h), some (.int (nI n)), some (.int (nI (mostTo nd (n - 1)))), some (.int (nI k))] [] M := by
    intro d
    induction d with
    | zero =>
      intro k hk hk1 hx
      refine T.iload_n (pc' := 9) (q_d dX0_hardestBelief_0 6 rfl) rfl rfl rfl ?_
      refine T.iload_n (pc' := 10) (q_d dX0_hardestBelief_0 7 rfl) rfl rfl rfl ?_
      refine T.icmp_geN (tgt := 31) (pc' := 13) (q_d dX0_hardestBelief_0 8 rfl) rfl (by decide) (by omega) (by omega) (fun h10 => ?_) (fun h10 => ?_)
      · refine T.ldc (pc' := 33) (v := nI 4293967292) (q_d dX0_hardestBelief_0 19 rfl) rfl wN_X0_60 ?_
        refine T.iret (q_d dX0_hardestBelief_0 20 rfl) rfl rfl rfl ?_
        refine ⟨rfl, ?_⟩
        have h9 : hardN nd (mostTo nd (n - 1)) n = none := by
          unfold hardN
          rw [List.find?_eq_none]
          intro x hx9
          have := hx x (by have := List.mem_range.mp hx9; omega)
          simpa using this
        rw [h9]; rfl
      · exact absurd h10 (by omega)
    | succ d ih =>
      intro k hk hk1 hx
      have hv1 := hv k
      have hnl := nc_lt hv1
      refine T.iload_n (pc' := 9) (q_d dX0_hardestBelief_0 6 rfl) rfl rfl rfl ?_
      refine T.iload_n (pc' := 10) (q_d dX0_hardestBelief_0 7 rfl) rfl rfl rfl ?_
      refine T.icmp_geN (tgt := 31) (pc' := 13) (q_d dX0_hardestBelief_0 8 rfl) rfl (by decide) (by omega) (by omega) (fun h10 => ?_) (fun h10 => ?_)
      · exact absurd h10 (by omega)
      · refine T.aload_n (pc' := 14) (q_d dX0_hardestBelief_0 9 rfl) rfl rfl rfl ?_
        refine T.getR (pc' := 17) (ci := 0) (k0 := 0) (q_d dX0_hardestBelief_0 10 rfl) rfl (HO.o hh) (Nat.lt_of_le_of_lt (Nat.le_add_right _ _) (HO.lt hh)) rfl inX0 (by decide) rfl wF_X0_9 (rP hP (HO.p0 hh)) ?_
        refine T.iload_n (pc' := 18) (q_d dX0_hardestBelief_0 11 rfl) rfl rfl rfl ?_
        refine T.iald (pc' := 19) (q_d dX0_hardestBelief_0 12 rfl) rfl (HO.a1 hh) (Nat.lt_of_le_of_lt (by omega) (HO.lt hh)) rfl (by omega) (by decide) (hn _ (by omega)) ?_
        refine T.iload_n (pc' := 20) (q_d dX0_hardestBelief_0 13 rfl) rfl rfl rfl ?_
        refine T.icmp_neN (tgt := 25) (pc' := 23) (q_d dX0_hardestBelief_0 14 rfl) rfl (by decide) (by omega) (by omega) (fun h20 => ?_) (fun h20 => ?_)
        · refine T.iinc (pc' := 28) (q_d dX0_hardestBelief_0 17 rfl) rfl rfl (nN_p _ 1) (by decide) rfl rfl ?_
          refine T.goto (tgt := 8) (q_d dX0_hardestBelief_0 18 rfl) (by decide) ?_
          refine ih (k + 1) (by omega) (by omega) (fun x hx9 => ?_)
          by_cases e : x = k
          · subst e
            rintro ⟨-, e⟩
            apply h20
            rw [e]
            unfold nc
            rw [if_neg (by omega)]
          · exact hx x (by omega)
        · refine T.iload_n (pc' := 24) (q_d dX0_hardestBelief_0 15 rfl) rfl rfl rfl ?_
          refine T.iret (q_d dX0_hardestBelief_0 16 rfl) rfl rfl rfl ?_
          refine ⟨rfl, ?_⟩
          have e : nd k = mostTo nd (n - 1) := by
            unfold nc at h20
            split at h20 <;> omega
          have h9 : hardN nd (mostTo nd (n - 1)) n = some k := by
            unfold hardN
            rw [List.find?_range_eq_some]
            refine ⟨?_, by simp; omega, fun j hj => ?_⟩
            · simp [e]; omega
            · have := hx j hj
              simp
              omega
          rw [h9]; rfl
  refine T.aload_n (pc' := 1) (q_d dX0_hardestBelief_0 0 rfl) rfl rfl rfl ?_
  refine T.iload_n (pc' := 2) (q_d dX0_hardestBelief_0 1 rfl) rfl rfl rfl ?_
  refine T.callV (pc' := 5) (ci := 0) (q_d dX0_hardestBelief_0 2 rfl) rfl uX0_mostNeeded wM_X0_56 (c_mostNeeded hh hP hn hv h1 hn9) rfl rfl (Nat.lt_of_le_of_lt (Nat.le_add_right _ _) (HO.lt hh)) (HO.o hh) rfl (by decide) (Nat.le_of_ble_eq_true rfl) rfl rfl (fun _ => rfl) ?_
  rintro _ _ ⟨rfl, rfl⟩
  dsimp only [Option.toList, List.cons_append, List.nil_append, List.append_nil]
  refine T.istore_n (pc' := 6) (q_d dX0_hardestBelief_0 3 rfl) rfl rfl (by decide) rfl rfl ?_
  refine T.iconst (pc' := 7) (v := nI 1) (q_d dX0_hardestBelief_0 4 rfl) rfl (by decide) ?_
  refine T.istore_n (pc' := 8) (q_d dX0_hardestBelief_0 5 rfl) rfl rfl (by decide) rfl rfl ?_
  exact loop (n - 1) 1 (by omega) (Nat.le_refl _) (fun x hx => by omega)
end CX0B
