/-! the reference: ways, counts, undo, signs of the text -/
def OML (b : Nat) (z : Int) (s : Nat → Nat) (k : Nat) (was : Nat → Nat → Nat) (n : Nat) (t : Nat → Nat) : Option Value → qM → Prop := fun v M' => v = some (.long (lI z)) ∧ RM M' b s k was n t
section CM8B
variable {l : Launch} {M M' : qM} {b b' : Nat} {s s' : Nat → Nat} {k : Nat} {was : Nat → Nat → Nat} {n : Nat} {t : Nat → Nat}
theorem m_allWays (hX : RM M b s k was n t) {kk w : Nat} (hw9 : w < 4294967296) (hk : kk ≤ 40) : Ct l hdM kM mX6_allWays [.ref 0, .int (nI kk), .int (nI w)] M (fun v M' => v = some (.long (lI (sumI (wkN s w kk) 7))) ∧ M'.1 = M.1 ∧ M'.2.2 = M.2.2) := by
  refine Ct.of [some (.ref 0), some (.int (nI kk)), some (.int (nI w)), none, none, none] (by decide +kernel) (fun h => absurd h (by decide)) (Nat.le_of_ble_eq_true rfl) rfl ?_
  have loop : ∀ d i (M' : qM), i + d = 7 → M'.1 = M.1 → M'.2.2 = M.2.2 → (∀ q, q < 7 → M'.2.1 9 q = wkN s w kk q) → T l hdM kM mX6_allWays (fun v M' => v = some (.long (lI (sumI (wkN s w kk) 7))) ∧ M'.1 = M.1 ∧ M'.2.2 = M.2.2) 0 0 11 [some (.ref 0), some (.int (nI kk)), some (.int (nI w)), some (.long (lI (sumI (wkN s w kk) i))), none, some (.int (nI i))] [] M' := by
    intro d
    induction d with
    | zero =>
      intro i M' hi h1 h2 hq
      have e : i = 7 := by omega
      subst e
      refine T.iload (pc' := 13) (q_d dX6_allWays_0 8 rfl) rfl rfl ?_
      refine T.bipush (pc' := 15) (v := nI 7) (q_d dX6_allWays_0 9 rfl) rfl (by decide) ?_
      refine T.icmp_geN (tgt := 34) (pc' := 18) (q_d dX6_allWays_0 10 rfl) rfl (by decide) (by omega) (by omega) (fun h15 => ?_) (fun h15 => ?_)
      · refine T.lload_n (pc' := 35) (q_d dX6_allWays_0 20 rfl) rfl rfl rfl ?_
        refine T.lret (q_d dX6_allWays_0 21 rfl) rfl rfl rfl ?_
        exact ⟨rfl, h1, h2⟩
      · exact absurd h15 (by omega)
    | succ d ih =>
      intro i M' hi h1 h2 hq
      refine T.iload (pc' := 13) (q_d dX6_allWays_0 8 rfl) rfl rfl ?_
      refine T.bipush (pc' := 15) (v := nI 7) (q_d dX6_allWays_0 9 rfl) rfl (by decide) ?_
      refine T.icmp_geN (tgt := 34) (pc' := 18) (q_d dX6_allWays_0 10 rfl) rfl (by decide) (by omega) (by omega) (fun h15 => ?_) (fun h15 => ?_)
      · exact absurd h15 (by omega)
      · refine T.lload_n (pc' := 19) (q_d dX6_allWays_0 11 rfl) rfl rfl rfl ?_
        refine T.aload_n (pc' := 20) (q_d dX6_allWays_0 12 rfl) rfl rfl rfl ?_
        refine T.getR (pc' := 23) (ci := 6) (k0 := 13) (q_d dX6_allWays_0 13 rfl) rfl rfl (by decide) rfl inX6 (by decide) rfl wF_X6_36 (rP (show M'.2.2 = pM by rw [h2]; exact hX.1) rfl) ?_
        refine T.iload (pc' := 25) (q_d dX6_allWays_0 14 rfl) rfl rfl ?_
        refine T.lald (pc' := 26) (q_d dX6_allWays_0 15 rfl) rfl rfl (by decide) rfl (by omega) (by decide) (hq i (by omega)) ?_
        refine T.ladd (pc' := 27) (q_d dX6_allWays_0 16 rfl) rfl (Int64.ofInt_add _ _).symm ?_
        refine T.lstore_n (pc' := 28) (q_d dX6_allWays_0 17 rfl) rfl rfl (by decide) rfl rfl ?_
        refine T.iinc (pc' := 31) (q_d dX6_allWays_0 18 rfl) rfl rfl (nN_p _ 1) (by decide) rfl rfl ?_
        refine T.goto (tgt := 11) (q_d dX6_allWays_0 19 rfl) (by decide) ?_
        exact ih (i + 1) M' (by omega) h1 h2 hq
  refine T.aload_n (pc' := 1) (q_d dX6_allWays_0 0 rfl) rfl rfl rfl ?_
  refine T.iload_n (pc' := 2) (q_d dX6_allWays_0 1 rfl) rfl rfl rfl ?_
  refine T.iload_n (pc' := 3) (q_d dX6_allWays_0 2 rfl) rfl rfl rfl ?_
  refine T.callV (pc' := 6) (ci := 6) (q_d dX6_allWays_0 3 rfl) rfl uX6_counts wM_X6_108 (m_counts hX hw9 hk) rfl rfl (by decide) rfl rfl (by decide) (Nat.le_of_ble_eq_true rfl) rfl rfl (fun _ => rfl) ?_
  rintro _ M2 ⟨rfl, f1, f2, f3⟩
  dsimp only [Option.toList, List.cons_append, List.nil_append, List.append_nil]
  refine T.lconst (pc' := 7) (v := lI 0) (q_d dX6_allWays_0 4 rfl) rfl (by decide) ?_
  refine T.lstore_n (pc' := 8) (q_d dX6_allWays_0 5 rfl) rfl rfl (by decide) rfl rfl ?_
  refine T.iconst (pc' := 9) (v := nI 0) (q_d dX6_allWays_0 6 rfl) rfl (by decide) ?_
  refine T.istore (pc' := 11) (q_d dX6_allWays_0 7 rfl) rfl (by decide) rfl rfl ?_
  exact loop 7 0 M2 (by decide) f1 f2 f3
theorem m_ways (hX : RM M b s k was n t) {u v : Nat} (hu : u < 4294967296) (hv : v < 4294967296) : Ct l hdM kM mX6_ways [.ref 0, .int (nI u), .int (nI v)] M (OML b (qWays s u v) s k was n t) := by
  refine Ct.of [some (.ref 0), some (.int (nI u)), some (.int (nI v))] (by decide +kernel) (fun h => absurd h (by decide)) (Nat.le_of_ble_eq_true rfl) rfl ?_
  have e := inS_iff (lo := 0) (hi := 40) hu (by decide) (by decide)
  have w7 := hX.2.2.1.1
  by_cases a1 : u ≤ 40
  · have e1 : inS u 0 40 = true := e.mpr ⟨Nat.zero_le _, a1⟩
    by_cases a2 : v < s 0
    · have hin := wkN_in (s := s) (w := 4294967295) u v
      refine T.iload_n (pc' := 1) (q_d dX6_ways_0 0 rfl) rfl rfl rfl ?_
      refine T.iconst (pc' := 2) (v := nI 0) (q_d dX6_ways_0 1 rfl) rfl (by decide) ?_
      refine T.bipush (pc' := 4) (v := nI 40) (q_d dX6_ways_0 2 rfl) rfl (by decide) ?_
      refine T.callS (pc' := 7) (q_d dX6_ways_0 3 rfl) rfl uX6_in wM_X6_43 (m_in hu (by decide) (hi := 40) (by decide)) rfl rfl (by decide) (Nat.le_of_ble_eq_true rfl) rfl rfl (fun _ => rfl) ?_
      rintro _ _ ⟨rfl, rfl⟩
      dsimp only [Option.toList, List.cons_append, List.nil_append, List.append_nil]
      refine T.if_eqN (tgt := 18) (pc' := 10) (q_d dX6_ways_0 4 rfl) rfl (by decide) (by split <;> decide) (fun h7 => ?_) (fun h7 => ?_)
      · exact absurd h7 (by rw [if_pos e1]; decide)
      · refine T.aload_n (pc' := 11) (q_d dX6_ways_0 5 rfl) rfl rfl rfl ?_
        refine T.iload_n (pc' := 12) (q_d dX6_ways_0 6 rfl) rfl rfl rfl ?_
        refine T.callV (pc' := 15) (ci := 6) (q_d dX6_ways_0 7 rfl) rfl uX6_isPlace wM_X6_63 (m_isPlace hX hv) rfl rfl (by decide) rfl rfl (by decide) (Nat.le_of_ble_eq_true rfl) rfl rfl (fun _ => rfl) ?_
        rintro _ _ ⟨rfl, rfl⟩
        dsimp only [Option.toList, List.cons_append, List.nil_append, List.append_nil]
        refine T.if_neN (tgt := 22) (pc' := 18) (q_d dX6_ways_0 8 rfl) rfl (by decide) (by split <;> decide) (fun h15 => ?_) (fun h15 => ?_)
        · refine T.aload_n (pc' := 23) (q_d dX6_ways_0 11 rfl) rfl rfl rfl ?_
          refine T.iload_n (pc' := 24) (q_d dX6_ways_0 12 rfl) rfl rfl rfl ?_
          refine T.iconst (pc' := 25) (v := nI 4294967295) (q_d dX6_ways_0 13 rfl) rfl (by decide) ?_
          refine T.callV (pc' := 28) (ci := 6) (q_d dX6_ways_0 14 rfl) rfl uX6_counts wM_X6_108 (m_counts hX (show 4294967295 < 4294967296 by decide) a1) rfl rfl (by decide) rfl rfl (by decide) (Nat.le_of_ble_eq_true rfl) rfl rfl (fun _ => rfl) ?_
          rintro _ M2 ⟨rfl, f1, f2, f3⟩
          have hX2 := hX.lg f1 f2
          dsimp only [Option.toList, List.cons_append, List.nil_append, List.append_nil]
          refine T.aload_n (pc' := 29) (q_d dX6_ways_0 15 rfl) rfl rfl rfl ?_
          refine T.getR (pc' := 32) (ci := 6) (k0 := 13) (q_d dX6_ways_0 16 rfl) rfl rfl (by decide) rfl inX6 (by decide) rfl wF_X6_36 (rP (P := pM) (by first | exact hX2.1 | exact hX.1) rfl) ?_
          refine T.iload_n (pc' := 33) (q_d dX6_ways_0 17 rfl) rfl rfl rfl ?_
          refine T.lald (pc' := 34) (q_d dX6_ways_0 18 rfl) rfl rfl (by decide) rfl (by omega) (by decide) (f3 v (by omega)) ?_
          refine T.lconst (pc' := 35) (v := lI 0) (q_d dX6_ways_0 19 rfl) rfl (by decide) ?_
          refine T.lcmp (pc' := 36) (q_d dX6_ways_0 20 rfl) rfl rfl ?_
          refine T.if_ge (tgt := 45) (pc' := 39) (q_d dX6_ways_0 21 rfl) rfl (by decide)  (fun h36 => ?_) (fun h36 => ?_)
          · refine T.aload_n (pc' := 46) (q_d dX6_ways_0 24 rfl) rfl rfl rfl ?_
            refine T.getR (pc' := 49) (ci := 6) (k0 := 13) (q_d dX6_ways_0 25 rfl) rfl rfl (by decide) rfl inX6 (by decide) rfl wF_X6_36 (rP (P := pM) (by first | exact hX2.1 | exact hX.1) rfl) ?_
            refine T.iload_n (pc' := 50) (q_d dX6_ways_0 26 rfl) rfl rfl rfl ?_
            refine T.lald (pc' := 51) (q_d dX6_ways_0 27 rfl) rfl rfl (by decide) rfl (by omega) (by decide) (f3 v (by omega)) ?_
            refine T.lret (q_d dX6_ways_0 28 rfl) rfl rfl rfl ?_
            refine ⟨?_, hX2⟩
            unfold qWays
            rw [if_pos ⟨a1, a2⟩]
            first
              | (rw [if_neg ((ge0 hin).mp h36)]; done)
              | (rw [if_pos (Classical.not_not.mp (fun z => h36 ((ge0 hin).mpr z)))]; done)
          · refine T.ldc2 (pc' := 42) (q_d dX6_ways_0 22 rfl) rfl wN_X6_112 ?_
            refine T.topl (y := lI (-1000003)) (by decide) ?_
            refine T.goto (tgt := 51) (q_d dX6_ways_0 23 rfl) (by decide) ?_
            refine T.lret (q_d dX6_ways_0 28 rfl) rfl rfl rfl ?_
            refine ⟨?_, hX2⟩
            unfold qWays
            rw [if_pos ⟨a1, a2⟩]
            first
              | (rw [if_neg ((ge0 hin).mp h36)]; done)
              | (rw [if_pos (Classical.not_not.mp (fun z => h36 ((ge0 hin).mpr z)))]; done)
        · exact absurd h15 (by rw [if_pos a2]; decide)
    · refine T.iload_n (pc' := 1) (q_d dX6_ways_0 0 rfl) rfl rfl rfl ?_
      refine T.iconst (pc' := 2) (v := nI 0) (q_d dX6_ways_0 1 rfl) rfl (by decide) ?_
      refine T.bipush (pc' := 4) (v := nI 40) (q_d dX6_ways_0 2 rfl) rfl (by decide) ?_
      refine T.callS (pc' := 7) (q_d dX6_ways_0 3 rfl) rfl uX6_in wM_X6_43 (m_in hu (by decide) (hi := 40) (by decide)) rfl rfl (by decide) (Nat.le_of_ble_eq_true rfl) rfl rfl (fun _ => rfl) ?_
      rintro _ _ ⟨rfl, rfl⟩
      dsimp only [Option.toList, List.cons_append, List.nil_append, List.append_nil]
      refine T.if_eqN (tgt := 18) (pc' := 10) (q_d dX6_ways_0 4 rfl) rfl (by decide) (by split <;> decide) (fun h7 => ?_) (fun h7 => ?_)
      · exact absurd h7 (by rw [if_pos e1]; decide)
      · refine T.aload_n (pc' := 11) (q_d dX6_ways_0 5 rfl) rfl rfl rfl ?_
        refine T.iload_n (pc' := 12) (q_d dX6_ways_0 6 rfl) rfl rfl rfl ?_
        refine T.callV (pc' := 15) (ci := 6) (q_d dX6_ways_0 7 rfl) rfl uX6_isPlace wM_X6_63 (m_isPlace hX hv) rfl rfl (by decide) rfl rfl (by decide) (Nat.le_of_ble_eq_true rfl) rfl rfl (fun _ => rfl) ?_
        rintro _ _ ⟨rfl, rfl⟩
        dsimp only [Option.toList, List.cons_append, List.nil_append, List.append_nil]
        refine T.if_neN (tgt := 22) (pc' := 18) (q_d dX6_ways_0 8 rfl) rfl (by decide) (by split <;> decide) (fun h15 => ?_) (fun h15 => ?_)
        · exact absurd (if_neg a2) h15
        · refine T.ldc2 (pc' := 21) (q_d dX6_ways_0 9 rfl) rfl wN_X6_106 ?_
          refine T.topl (y := lI (-1000001)) (by decide) ?_
          refine T.lret (q_d dX6_ways_0 10 rfl) rfl rfl rfl ?_
          exact ⟨by unfold qWays; rw [if_neg (fun q => a2 q.2)], hX⟩
  · have e1 : ¬ inS u 0 40 = true := fun q => a1 (e.mp q).2
    refine T.iload_n (pc' := 1) (q_d dX6_ways_0 0 rfl) rfl rfl rfl ?_
    refine T.iconst (pc' := 2) (v := nI 0) (q_d dX6_ways_0 1 rfl) rfl (by decide) ?_
    refine T.bipush (pc' := 4) (v := nI 40) (q_d dX6_ways_0 2 rfl) rfl (by decide) ?_
    refine T.callS (pc' := 7) (q_d dX6_ways_0 3 rfl) rfl uX6_in wM_X6_43 (m_in hu (by decide) (hi := 40) (by decide)) rfl rfl (by decide) (Nat.le_of_ble_eq_true rfl) rfl rfl (fun _ => rfl) ?_
    rintro _ _ ⟨rfl, rfl⟩
    dsimp only [Option.toList, List.cons_append, List.nil_append, List.append_nil]
    refine T.if_eqN (tgt := 18) (pc' := 10) (q_d dX6_ways_0 4 rfl) rfl (by decide) (by split <;> decide) (fun h7 => ?_) (fun h7 => ?_)
    · refine T.ldc2 (pc' := 21) (q_d dX6_ways_0 9 rfl) rfl wN_X6_106 ?_
      refine T.topl (y := lI (-1000001)) (by decide) ?_
      refine T.lret (q_d dX6_ways_0 10 rfl) rfl rfl rfl ?_
      exact ⟨by unfold qWays; rw [if_neg (fun q => a1 q.1)], hX⟩
    · exact absurd (if_neg e1) h7
theorem m_met (hX : RM M b s k was n t) {u v w : Nat} (hu : u < 4294967296) (hv : v < 4294967296) (hw9 : w < 4294967296) : Ct l hdM kM mX6_met [.ref 0, .int (nI u), .int (nI v), .int (nI w)] M (OML b (qMet s u v w) s k was n t) := by
  refine Ct.of [some (.ref 0), some (.int (nI u)), some (.int (nI v)), some (.int (nI w)), none, none] (by decide +kernel) (fun h => absurd h (by decide)) (Nat.le_of_ble_eq_true rfl) rfl ?_
  have e := inS_iff (lo := 0) (hi := 15) hu (by decide) (by decide)
  have e' := inS_iff (lo := 0) (hi := 1) hw9 (by decide) (by decide)
  have w7 := hX.2.2.1.1
  by_cases a1 : u ≤ 15
  · have z1 : inS u 0 15 = true := e.mpr ⟨Nat.zero_le _, a1⟩
    by_cases a2 : v < s 0
    · by_cases a3 : w ≤ 1
      · have z3 : inS w 0 1 = true := e'.mpr ⟨Nat.zero_le _, a3⟩
        have t1 := tot_all hX.2.2.1 (w := 4294967295) a1
        have t2 := tot_all hX.2.2.1 (w := v) a1
        refine T.iload_n (pc' := 1) (q_d dX6_met_0 0 rfl) rfl rfl rfl ?_
        refine T.iconst (pc' := 2) (v := nI 0) (q_d dX6_met_0 1 rfl) rfl (by decide) ?_
        refine T.bipush (pc' := 4) (v := nI 15) (q_d dX6_met_0 2 rfl) rfl (by decide) ?_
        refine T.callS (pc' := 7) (q_d dX6_met_0 3 rfl) rfl uX6_in wM_X6_43 (m_in hu (by decide) (hi := 15) (by decide)) rfl rfl (by decide) (Nat.le_of_ble_eq_true rfl) rfl rfl (fun _ => rfl) ?_
        rintro _ _ ⟨rfl, rfl⟩
        dsimp only [Option.toList, List.cons_append, List.nil_append, List.append_nil]
        refine T.if_eqN (tgt := 27) (pc' := 10) (q_d dX6_met_0 4 rfl) rfl (by decide) (by split <;> decide) (fun h7 => ?_) (fun h7 => ?_)
        · exact absurd h7 (by rw [if_pos z1]; decide)
        · refine T.aload_n (pc' := 11) (q_d dX6_met_0 5 rfl) rfl rfl rfl ?_
          refine T.iload_n (pc' := 12) (q_d dX6_met_0 6 rfl) rfl rfl rfl ?_
          refine T.callV (pc' := 15) (ci := 6) (q_d dX6_met_0 7 rfl) rfl uX6_isPlace wM_X6_63 (m_isPlace hX hv) rfl rfl (by decide) rfl rfl (by decide) (Nat.le_of_ble_eq_true rfl) rfl rfl (fun _ => rfl) ?_
          rintro _ _ ⟨rfl, rfl⟩
          dsimp only [Option.toList, List.cons_append, List.nil_append, List.append_nil]
          refine T.if_eqN (tgt := 27) (pc' := 18) (q_d dX6_met_0 8 rfl) rfl (by decide) (by split <;> decide) (fun h15 => ?_) (fun h15 => ?_)
          · exact absurd h15 (by rw [if_pos a2]; decide)
          · refine T.iload_n (pc' := 19) (q_d dX6_met_0 9 rfl) rfl rfl rfl ?_
            refine T.iconst (pc' := 20) (v := nI 0) (q_d dX6_met_0 10 rfl) rfl (by decide) ?_
            refine T.iconst (pc' := 21) (v := nI 1) (q_d dX6_met_0 11 rfl) rfl (by decide) ?_
            refine T.callS (pc' := 24) (q_d dX6_met_0 12 rfl) rfl uX6_in wM_X6_43 (m_in hw9 (by decide) (hi := 1) (by decide)) rfl rfl (by decide) (Nat.le_of_ble_eq_true rfl) rfl rfl (fun _ => rfl) ?_
            rintro _ _ ⟨rfl, rfl⟩
            dsimp only [Option.toList, List.cons_append, List.nil_append, List.append_nil]
            refine T.if_neN (tgt := 31) (pc' := 27) (q_d dX6_met_0 13 rfl) rfl (by decide) (by split <;> decide) (fun h24 => ?_) (fun h24 => ?_)
            · refine T.aload_n (pc' := 32) (q_d dX6_met_0 16 rfl) rfl rfl rfl ?_
              refine T.iload_n (pc' := 33) (q_d dX6_met_0 17 rfl) rfl rfl rfl ?_
              refine T.iconst (pc' := 34) (v := nI 4294967295) (q_d dX6_met_0 18 rfl) rfl (by decide) ?_
              refine T.callV (pc' := 37) (ci := 6) (q_d dX6_met_0 19 rfl) rfl uX6_allWays wM_X6_114 (m_allWays hX (show 4294967295 < 4294967296 by decide) (show u ≤ 40 by omega)) rfl rfl (by decide) rfl rfl (by decide) (Nat.le_of_ble_eq_true rfl) rfl rfl (fun _ => rfl) ?_
              rintro _ M2 ⟨rfl, f1, f2⟩
              have hX2 := hX.lg f1 f2
              dsimp only [Option.toList, List.cons_append, List.nil_append, List.append_nil]
              refine T.lstore (pc' := 39) (q_d dX6_met_0 20 rfl) rfl (by decide) rfl rfl ?_
              refine T.iload_n (pc' := 40) (q_d dX6_met_0 21 rfl) rfl rfl rfl ?_
              refine T.iconst (pc' := 41) (v := nI 1) (q_d dX6_met_0 22 rfl) rfl (by decide) ?_
              refine T.icmp_neN (tgt := 49) (pc' := 44) (q_d dX6_met_0 23 rfl) rfl (by decide) (by omega) (by omega) (fun h41 => ?_) (fun h41 => ?_)
              · refine T.lload (pc' := 51) (q_d dX6_met_0 26 rfl) rfl rfl ?_
                refine T.aload_n (pc' := 52) (q_d dX6_met_0 27 rfl) rfl rfl rfl ?_
                refine T.iload_n (pc' := 53) (q_d dX6_met_0 28 rfl) rfl rfl rfl ?_
                refine T.iload_n (pc' := 54) (q_d dX6_met_0 29 rfl) rfl rfl rfl ?_
                refine T.callV (pc' := 57) (ci := 6) (q_d dX6_met_0 30 rfl) rfl uX6_allWays wM_X6_114 (m_allWays hX2 hv (show u ≤ 40 by omega)) rfl rfl (by decide) rfl rfl (by decide) (Nat.le_of_ble_eq_true rfl) rfl rfl (fun _ => rfl) ?_
                rintro _ M3 ⟨rfl, g1, g2⟩
                have hX3 := hX2.lg g1 g2
                dsimp only [Option.toList, List.cons_append, List.nil_append, List.append_nil]
                refine T.lsub (pc' := 58) (q_d dX6_met_0 31 rfl) rfl (Int64.ofInt_sub _ _).symm ?_
                refine T.lret (q_d dX6_met_0 32 rfl) rfl rfl rfl ?_
                first
                  | exact ⟨by unfold qMet; rw [if_pos ⟨⟨a1, a2⟩, a3⟩, if_neg h41, t1, t2]; rfl, hX3⟩
                  | exact ⟨by unfold qMet; rw [if_pos ⟨⟨a1, a2⟩, a3⟩, if_pos h41, t1], hX2⟩
              · refine T.lload (pc' := 46) (q_d dX6_met_0 24 rfl) rfl rfl ?_
                refine T.goto (tgt := 58) (q_d dX6_met_0 25 rfl) (by decide) ?_
                refine T.lret (q_d dX6_met_0 32 rfl) rfl rfl rfl ?_
                first
                  | exact ⟨by unfold qMet; rw [if_pos ⟨⟨a1, a2⟩, a3⟩, if_neg h41, t1, t2]; rfl, hX3⟩
                  | exact ⟨by unfold qMet; rw [if_pos ⟨⟨a1, a2⟩, a3⟩, if_pos h41, t1], hX2⟩
            · exact absurd h24 (by rw [if_pos z3]; decide)
      · have z3 : ¬ inS w 0 1 = true := fun q => a3 (e'.mp q).2
        refine T.iload_n (pc' := 1) (q_d dX6_met_0 0 rfl) rfl rfl rfl ?_
        refine T.iconst (pc' := 2) (v := nI 0) (q_d dX6_met_0 1 rfl) rfl (by decide) ?_
        refine T.bipush (pc' := 4) (v := nI 15) (q_d dX6_met_0 2 rfl) rfl (by decide) ?_
        refine T.callS (pc' := 7) (q_d dX6_met_0 3 rfl) rfl uX6_in wM_X6_43 (m_in hu (by decide) (hi := 15) (by decide)) rfl rfl (by decide) (Nat.le_of_ble_eq_true rfl) rfl rfl (fun _ => rfl) ?_
        rintro _ _ ⟨rfl, rfl⟩
        dsimp only [Option.toList, List.cons_append, List.nil_append, List.append_nil]
        refine T.if_eqN (tgt := 27) (pc' := 10) (q_d dX6_met_0 4 rfl) rfl (by decide) (by split <;> decide) (fun h7 => ?_) (fun h7 => ?_)
        · exact absurd h7 (by rw [if_pos z1]; decide)
        · refine T.aload_n (pc' := 11) (q_d dX6_met_0 5 rfl) rfl rfl rfl ?_
          refine T.iload_n (pc' := 12) (q_d dX6_met_0 6 rfl) rfl rfl rfl ?_
          refine T.callV (pc' := 15) (ci := 6) (q_d dX6_met_0 7 rfl) rfl uX6_isPlace wM_X6_63 (m_isPlace hX hv) rfl rfl (by decide) rfl rfl (by decide) (Nat.le_of_ble_eq_true rfl) rfl rfl (fun _ => rfl) ?_
          rintro _ _ ⟨rfl, rfl⟩
          dsimp only [Option.toList, List.cons_append, List.nil_append, List.append_nil]
          refine T.if_eqN (tgt := 27) (pc' := 18) (q_d dX6_met_0 8 rfl) rfl (by decide) (by split <;> decide) (fun h15 => ?_) (fun h15 => ?_)
          · exact absurd h15 (by rw [if_pos a2]; decide)
          · refine T.iload_n (pc' := 19) (q_d dX6_met_0 9 rfl) rfl rfl rfl ?_
            refine T.iconst (pc' := 20) (v := nI 0) (q_d dX6_met_0 10 rfl) rfl (by decide) ?_
            refine T.iconst (pc' := 21) (v := nI 1) (q_d dX6_met_0 11 rfl) rfl (by decide) ?_
            refine T.callS (pc' := 24) (q_d dX6_met_0 12 rfl) rfl uX6_in wM_X6_43 (m_in hw9 (by decide) (hi := 1) (by decide)) rfl rfl (by decide) (Nat.le_of_ble_eq_true rfl) rfl rfl (fun _ => rfl) ?_
            rintro _ _ ⟨rfl, rfl⟩
            dsimp only [Option.toList, List.cons_append, List.nil_append, List.append_nil]
            refine T.if_neN (tgt := 31) (pc' := 27) (q_d dX6_met_0 13 rfl) rfl (by decide) (by split <;> decide) (fun h24 => ?_) (fun h24 => ?_)
            · exact absurd (if_neg z3) h24
            · refine T.ldc2 (pc' := 30) (q_d dX6_met_0 14 rfl) rfl wN_X6_106 ?_
              refine T.topl (y := lI (-1000001)) (by decide) ?_
              refine T.lret (q_d dX6_met_0 15 rfl) rfl rfl rfl ?_
              exact ⟨by unfold qMet; rw [if_neg (fun q => a3 q.2)], hX⟩
    · refine T.iload_n (pc' := 1) (q_d dX6_met_0 0 rfl) rfl rfl rfl ?_
      refine T.iconst (pc' := 2) (v := nI 0) (q_d dX6_met_0 1 rfl) rfl (by decide) ?_
      refine T.bipush (pc' := 4) (v := nI 15) (q_d dX6_met_0 2 rfl) rfl (by decide) ?_
      refine T.callS (pc' := 7) (q_d dX6_met_0 3 rfl) rfl uX6_in wM_X6_43 (m_in hu (by decide) (hi := 15) (by decide)) rfl rfl (by decide) (Nat.le_of_ble_eq_true rfl) rfl rfl (fun _ => rfl) ?_
      rintro _ _ ⟨rfl, rfl⟩
      dsimp only [Option.toList, List.cons_append, List.nil_append, List.append_nil]
      refine T.if_eqN (tgt := 27) (pc' := 10) (q_d dX6_met_0 4 rfl) rfl (by decide) (by split <;> decide) (fun h7 => ?_) (fun h7 => ?_)
      · exact absurd h7 (by rw [if_pos z1]; decide)
      · refine T.aload_n (pc' := 11) (q_d dX6_met_0 5 rfl) rfl rfl rfl ?_
        refine T.iload_n (pc' := 12) (q_d dX6_met_0 6 rfl) rfl rfl rfl ?_
        refine T.callV (pc' := 15) (ci := 6) (q_d dX6_met_0 7 rfl) rfl uX6_isPlace wM_X6_63 (m_isPlace hX hv) rfl rfl (by decide) rfl rfl (by decide) (Nat.le_of_ble_eq_true rfl) rfl rfl (fun _ => rfl) ?_
        rintro _ _ ⟨rfl, rfl⟩
        dsimp only [Option.toList, List.cons_append, List.nil_append, List.append_nil]
        refine T.if_eqN (tgt := 27) (pc' := 18) (q_d dX6_met_0 8 rfl) rfl (by decide) (by split <;> decide) (fun h15 => ?_) (fun h15 => ?_)
        · refine T.ldc2 (pc' := 30) (q_d dX6_met_0 14 rfl) rfl wN_X6_106 ?_
          refine T.topl (y := lI (-1000001)) (by decide) ?_
          refine T.lret (q_d dX6_met_0 15 rfl) rfl rfl rfl ?_
          exact ⟨by unfold qMet; rw [if_neg (fun q => a2 q.1.2)], hX⟩
        · exact absurd (if_neg a2) h15
  · have z1 : ¬ inS u 0 15 = true := fun q => a1 (e.mp q).2
    refine T.iload_n (pc' := 1) (q_d dX6_met_0 0 rfl) rfl rfl rfl ?_
    refine T.iconst (pc' := 2) (v := nI 0) (q_d dX6_met_0 1 rfl) rfl (by decide) ?_
    refine T.bipush (pc' := 4) (v := nI 15) (q_d dX6_met_0 2 rfl) rfl (by decide) ?_
    refine T.callS (pc' := 7) (q_d dX6_met_0 3 rfl) rfl uX6_in wM_X6_43 (m_in hu (by decide) (hi := 15) (by decide)) rfl rfl (by decide) (Nat.le_of_ble_eq_true rfl) rfl rfl (fun _ => rfl) ?_
    rintro _ _ ⟨rfl, rfl⟩
    dsimp only [Option.toList, List.cons_append, List.nil_append, List.append_nil]
    refine T.if_eqN (tgt := 27) (pc' := 10) (q_d dX6_met_0 4 rfl) rfl (by decide) (by split <;> decide) (fun h7 => ?_) (fun h7 => ?_)
    · refine T.ldc2 (pc' := 30) (q_d dX6_met_0 14 rfl) rfl wN_X6_106 ?_
      refine T.topl (y := lI (-1000001)) (by decide) ?_
      refine T.lret (q_d dX6_met_0 15 rfl) rfl rfl rfl ?_
      exact ⟨by unfold qMet; rw [if_neg (fun q => a1 q.1.1)], hX⟩
    · exact absurd (if_neg z1) h7
theorem m_count (hX : RM M b s k was n t) {u : Nat} (hu : u < 4294967296) : Ct l hdM kM mX6_count [.ref 0, .int (nI u)] M (OM b (qCount s k n u, (s, k, was, n, t))) := by
  refine Ct.of [some (.ref 0), some (.int (nI u))] (by decide +kernel) (fun h => absurd h (by decide)) (Nat.le_of_ble_eq_true rfl) rfl ?_
  have e := inS_iff (lo := 20) (hi := 22) hu (by decide) (by decide)
  have hs := hX.2.1
  refine T.iload_n (pc' := 1) (q_d dX6_count_0 0 rfl) rfl rfl rfl ?_
  rcases (by omega : u = 0 ∨ u = 1 ∨ u = 2 ∨ u = 3 ∨ u = 4 ∨ u = 5 ∨ u = 6 ∨ u = 7 ∨ 7 < u) with rfl | rfl | rfl | rfl | rfl | rfl | rfl | rfl | h12
  · refine T.tableIn (tgt := 48) (q_d dX6_count_0 1 rfl) (by decide +kernel) (by decide +kernel) (off := 47) (by decide +kernel) (by decide) ?_
    refine T.aload_n (pc' := 49) (q_d dX6_count_0 2 rfl) rfl rfl rfl ?_
    refine T.getR (pc' := 52) (ci := 6) (k0 := 0) (q_d dX6_count_0 3 rfl) rfl rfl (by decide) rfl inX6 (by decide) rfl wF_X6_7 (rP hX.1 rfl) ?_
    refine T.iconst (pc' := 53) (v := nI 0) (q_d dX6_count_0 4 rfl) rfl (by decide) ?_
    refine T.iald (pc' := 54) (q_d dX6_count_0 5 rfl) rfl rfl (by decide) rfl (by omega) (by decide) (hs 0 (by decide)) ?_
    refine T.iret (q_d dX6_count_0 6 rfl) rfl rfl rfl ?_
    exact ⟨by simp [qCount], hX⟩
  · refine T.tableIn (tgt := 55) (q_d dX6_count_0 1 rfl) (by decide +kernel) (by decide +kernel) (off := 54) (by decide +kernel) (by decide) ?_
    refine T.aload_n (pc' := 56) (q_d dX6_count_0 7 rfl) rfl rfl rfl ?_
    refine T.bipush (pc' := 58) (v := nI 14) (q_d dX6_count_0 8 rfl) rfl (by decide) ?_
    refine T.callV (pc' := 61) (ci := 6) (q_d dX6_count_0 9 rfl) rfl uX6_roads wM_X6_68 (m_roads hX (Or.inl rfl)) rfl rfl (by decide) rfl rfl (by decide) (Nat.le_of_ble_eq_true rfl) rfl rfl (fun _ => rfl) ?_
    rintro _ _ ⟨rfl, rfl⟩
    dsimp only [Option.toList, List.cons_append, List.nil_append, List.append_nil]
    refine T.iret (q_d dX6_count_0 10 rfl) rfl rfl rfl ?_
    exact ⟨by simp [qCount], hX⟩
  · refine T.tableIn (tgt := 62) (q_d dX6_count_0 1 rfl) (by decide +kernel) (by decide +kernel) (off := 61) (by decide +kernel) (by decide) ?_
    refine T.aload_n (pc' := 63) (q_d dX6_count_0 11 rfl) rfl rfl rfl ?_
    refine T.bipush (pc' := 65) (v := nI 21) (q_d dX6_count_0 12 rfl) rfl (by decide) ?_
    refine T.callV (pc' := 68) (ci := 6) (q_d dX6_count_0 13 rfl) rfl uX6_roads wM_X6_68 (m_roads hX (Or.inr rfl)) rfl rfl (by decide) rfl rfl (by decide) (Nat.le_of_ble_eq_true rfl) rfl rfl (fun _ => rfl) ?_
    rintro _ _ ⟨rfl, rfl⟩
    dsimp only [Option.toList, List.cons_append, List.nil_append, List.append_nil]
    refine T.iret (q_d dX6_count_0 14 rfl) rfl rfl rfl ?_
    exact ⟨by simp [qCount], hX⟩
  · refine T.tableIn (tgt := 69) (q_d dX6_count_0 1 rfl) (by decide +kernel) (by decide +kernel) (off := 68) (by decide +kernel) (by decide) ?_
    refine T.aload_n (pc' := 70) (q_d dX6_count_0 15 rfl) rfl rfl rfl ?_
    refine T.getR (pc' := 73) (ci := 6) (k0 := 0) (q_d dX6_count_0 16 rfl) rfl rfl (by decide) rfl inX6 (by decide) rfl wF_X6_7 (rP hX.1 rfl) ?_
    refine T.iconst (pc' := 74) (v := nI 1) (q_d dX6_count_0 17 rfl) rfl (by decide) ?_
    refine T.iload_n (pc' := 75) (q_d dX6_count_0 18 rfl) rfl rfl rfl ?_
    refine T.iadd (pc' := 76) (q_d dX6_count_0 19 rfl) rfl (nI_add _ _) ?_
    refine T.iconst (pc' := 77) (v := nI 3) (q_d dX6_count_0 20 rfl) rfl (by decide) ?_
    refine T.isub (pc' := 78) (q_d dX6_count_0 21 rfl) rfl (nN_sub (by decide)) ?_
    refine T.iald (pc' := 79) (q_d dX6_count_0 22 rfl) rfl rfl (by decide) rfl (by decide) (by decide) (hs _ (by decide)) ?_
    refine T.iret (q_d dX6_count_0 23 rfl) rfl rfl rfl ?_
    exact ⟨by simp [qCount], hX⟩
  · refine T.tableIn (tgt := 69) (q_d dX6_count_0 1 rfl) (by decide +kernel) (by decide +kernel) (off := 68) (by decide +kernel) (by decide) ?_
    refine T.aload_n (pc' := 70) (q_d dX6_count_0 15 rfl) rfl rfl rfl ?_
    refine T.getR (pc' := 73) (ci := 6) (k0 := 0) (q_d dX6_count_0 16 rfl) rfl rfl (by decide) rfl inX6 (by decide) rfl wF_X6_7 (rP hX.1 rfl) ?_
    refine T.iconst (pc' := 74) (v := nI 1) (q_d dX6_count_0 17 rfl) rfl (by decide) ?_
    refine T.iload_n (pc' := 75) (q_d dX6_count_0 18 rfl) rfl rfl rfl ?_
    refine T.iadd (pc' := 76) (q_d dX6_count_0 19 rfl) rfl (nI_add _ _) ?_
    refine T.iconst (pc' := 77) (v := nI 3) (q_d dX6_count_0 20 rfl) rfl (by decide) ?_
    refine T.isub (pc' := 78) (q_d dX6_count_0 21 rfl) rfl (nN_sub (by decide)) ?_
    refine T.iald (pc' := 79) (q_d dX6_count_0 22 rfl) rfl rfl (by decide) rfl (by decide) (by decide) (hs _ (by decide)) ?_
    refine T.iret (q_d dX6_count_0 23 rfl) rfl rfl rfl ?_
    exact ⟨by simp [qCount], hX⟩
  · refine T.tableIn (tgt := 69) (q_d dX6_count_0 1 rfl) (by decide +kernel) (by decide +kernel) (off := 68) (by decide +kernel) (by decide) ?_
    refine T.aload_n (pc' := 70) (q_d dX6_count_0 15 rfl) rfl rfl rfl ?_
    refine T.getR (pc' := 73) (ci := 6) (k0 := 0) (q_d dX6_count_0 16 rfl) rfl rfl (by decide) rfl inX6 (by decide) rfl wF_X6_7 (rP hX.1 rfl) ?_
    refine T.iconst (pc' := 74) (v := nI 1) (q_d dX6_count_0 17 rfl) rfl (by decide) ?_
    refine T.iload_n (pc' := 75) (q_d dX6_count_0 18 rfl) rfl rfl rfl ?_
    refine T.iadd (pc' := 76) (q_d dX6_count_0 19 rfl) rfl (nI_add _ _) ?_
    refine T.iconst (pc' := 77) (v := nI 3) (q_d dX6_count_0 20 rfl) rfl (by decide) ?_
    refine T.isub (pc' := 78) (q_d dX6_count_0 21 rfl) rfl (nN_sub (by decide)) ?_
    refine T.iald (pc' := 79) (q_d dX6_count_0 22 rfl) rfl rfl (by decide) rfl (by decide) (by decide) (hs _ (by decide)) ?_
    refine T.iret (q_d dX6_count_0 23 rfl) rfl rfl rfl ?_
    exact ⟨by simp [qCount], hX⟩
  · refine T.tableIn (tgt := 80) (q_d dX6_count_0 1 rfl) (by decide +kernel) (by decide +kernel) (off := 79) (by decide +kernel) (by decide) ?_
    refine T.aload_n (pc' := 81) (q_d dX6_count_0 24 rfl) rfl rfl rfl ?_
    refine T.getI (pc' := 84) (ci := 6) (k0 := 4) (q_d dX6_count_0 25 rfl) rfl rfl (by decide) rfl inX6 (by decide) rfl wF_X6_48 hX.2.2.2.1 ?_
    refine T.iret (q_d dX6_count_0 26 rfl) rfl rfl rfl ?_
    exact ⟨by simp [qCount], hX⟩
  · refine T.tableIn (tgt := 85) (q_d dX6_count_0 1 rfl) (by decide +kernel) (by decide +kernel) (off := 84) (by decide +kernel) (by decide) ?_
    refine T.aload_n (pc' := 86) (q_d dX6_count_0 27 rfl) rfl rfl rfl ?_
    refine T.getI (pc' := 89) (ci := 6) (k0 := 6) (q_d dX6_count_0 28 rfl) rfl rfl (by decide) rfl inX6 (by decide) rfl wF_X6_118 hX.2.2.2.2.2.2.1 ?_
    refine T.iret (q_d dX6_count_0 29 rfl) rfl rfl rfl ?_
    exact ⟨by simp [qCount], hX⟩
  · refine T.tableOut (tgt := 90) (q_d dX6_count_0 1 rfl) (sw_out hu h12 (by decide)) (by decide) ?_
    refine T.iload_n (pc' := 91) (q_d dX6_count_0 30 rfl) rfl rfl rfl ?_
    refine T.bipush (pc' := 93) (v := nI 20) (q_d dX6_count_0 31 rfl) rfl (by decide) ?_
    refine T.bipush (pc' := 95) (v := nI 22) (q_d dX6_count_0 32 rfl) rfl (by decide) ?_
    refine T.callS (pc' := 98) (q_d dX6_count_0 33 rfl) rfl uX6_in wM_X6_43 (m_in hu (by decide) (hi := 22) (by decide)) rfl rfl (by decide) (Nat.le_of_ble_eq_true rfl) rfl rfl (fun _ => rfl) ?_
    rintro _ _ ⟨rfl, rfl⟩
    dsimp only [Option.toList, List.cons_append, List.nil_append, List.append_nil]
    refine T.if_eqN (tgt := 115) (pc' := 101) (q_d dX6_count_0 34 rfl) rfl (by decide) (by split <;> decide) (fun h98 => ?_) (fun h98 => ?_)
    · refine T.ldc (pc' := 117) (v := nI 4293967295) (q_d dX6_count_1 4 rfl) rfl wN_X6_47 ?_
      refine T.iret (q_d dX6_count_1 5 rfl) rfl rfl rfl ?_
      refine ⟨?_, hX⟩
      unfold qCount
      rw [if_neg (by omega), if_neg (by omega), if_neg (by omega), if_neg (by omega), if_neg (by omega), if_neg (by omega), if_neg (by omega), if_neg (by omega)]
      first
        | (rw [if_pos z9, show 4 + (u - 20) = 4 + u - 20 by omega]; done)
        | (by_cases q : inS u 20 22 = true
           · rw [if_pos q] at h98; exact absurd h98 (by decide)
           · rw [if_neg (fun z => q (e.mpr z))])
    · have z9 : 20 ≤ u ∧ u ≤ 22 := by
        by_cases q : inS u 20 22 = true
        · exact e.mp q
        · exact absurd (if_neg q) h98
      refine T.aload_n (pc' := 102) (q_d dX6_count_0 35 rfl) rfl rfl rfl ?_
      refine T.getR (pc' := 105) (ci := 6) (k0 := 0) (q_d dX6_count_0 36 rfl) rfl rfl (by decide) rfl inX6 (by decide) rfl wF_X6_7 (rP hX.1 rfl) ?_
      refine T.iconst (pc' := 106) (v := nI 4) (q_d dX6_count_0 37 rfl) rfl (by decide) ?_
      refine T.iload_n (pc' := 107) (q_d dX6_count_0 38 rfl) rfl rfl rfl ?_
      refine T.iadd (pc' := 108) (q_d dX6_count_0 39 rfl) rfl (nI_add _ _) ?_
      refine T.bipush (pc' := 110) (v := nI 20) (q_d dX6_count_1 0 rfl) rfl (by decide) ?_
      refine T.isub (pc' := 111) (q_d dX6_count_1 1 rfl) rfl (nN_sub (by omega)) ?_
      refine T.iald (pc' := 112) (q_d dX6_count_1 2 rfl) rfl rfl (by decide) rfl (by omega) (by decide) (hs (4 + u - 20) (by omega)) ?_
      refine T.goto (tgt := 117) (q_d dX6_count_1 3 rfl) (by decide) ?_
      refine T.iret (q_d dX6_count_1 5 rfl) rfl rfl rfl ?_
      refine ⟨?_, hX⟩
      unfold qCount
      rw [if_neg (by omega), if_neg (by omega), if_neg (by omega), if_neg (by omega), if_neg (by omega), if_neg (by omega), if_neg (by omega), if_neg (by omega)]
      first
        | (rw [if_pos z9, show 4 + (u - 20) = 4 + u - 20 by omega]; done)
        | (by_cases q : inS u 20 22 = true
           · rw [if_pos q] at h98; exact absurd h98 (by decide)
           · rw [if_neg (fun z => q (e.mpr z))])
theorem m_undo (hX : RM M b s k was n t) : Ct l hdM kM mX6_undo [.ref 0] M (OM b (oUndo s k was n t)) := by
  refine Ct.of [some (.ref 0), none] (by decide +kernel) (fun h => absurd h (by decide)) (Nat.le_of_ble_eq_true rfl) rfl ?_
  have hX0 := hX
  obtain ⟨q1, q2, q3, q4, q5, q6, q7, q8, q9⟩ := hX
  by_cases h0 : k = 0
  · refine T.aload_n (pc' := 1) (q_d dX6_undo_0 0 rfl) rfl rfl rfl ?_
    refine T.getI (pc' := 4) (ci := 6) (k0 := 4) (q_d dX6_undo_0 1 rfl) rfl rfl (by decide) rfl inX6 (by decide) rfl wF_X6_48 q4 ?_
    refine T.if_neN (tgt := 10) (pc' := 7) (q_d dX6_undo_0 2 rfl) rfl (by decide) (by omega) (fun h4 => ?_) (fun h4 => ?_)
    · exact absurd h0 h4
    · refine T.ldc (pc' := 9) (v := nI 4293967294) (q_d dX6_undo_0 3 rfl) rfl wN_X6_67 ?_
      refine T.iret (q_d dX6_undo_0 4 rfl) rfl rfl rfl ?_
      exact ⟨by unfold oUndo; rw [if_pos h0], by unfold oUndo; rw [if_pos h0]; exact hX0⟩
  · have hk1 : k - 1 < k := by omega
    have er : oUndo s k was n t = (k - 1, (was (k - 1), k - 1, was, n, t)) := by unfold oUndo; rw [if_neg h0]
    have loop : ∀ d i (M' : qM), i + d = 52 → M'.2 = M.2 → (∀ a, a ≠ 0 → a ≠ 1 → M'.1 a = M.1 a) → (∀ j, j ≠ 4 → M'.1 0 j = M.1 0 j) → M'.1 0 4 = k - 1 → (∀ j, j < i → M'.1 1 j = was (k - 1) j) →
        T l hdM kM mX6_undo (OM b (oUndo s k was n t)) 0 0 22 [some (.ref 0), some (.int (nI i))] [] M' := by
      intro d
      induction d with
      | zero =>
        intro i M' hi h2 ha h04 h4 hj
        refine T.iload_n (pc' := 23) (q_d dX6_undo_0 13 rfl) rfl rfl rfl ?_
        refine T.bipush (pc' := 25) (v := nI 52) (q_d dX6_undo_0 14 rfl) rfl (by decide) ?_
        refine T.icmp_geN (tgt := 54) (pc' := 28) (q_d dX6_undo_0 15 rfl) rfl (by decide) (by omega) (by omega) (fun h25 => ?_) (fun h25 => ?_)
        · refine T.aload_n (pc' := 55) (q_d dX6_undo_0 31 rfl) rfl rfl rfl ?_
          refine T.getI (pc' := 58) (ci := 6) (k0 := 4) (q_d dX6_undo_0 32 rfl) rfl rfl (by decide) rfl inX6 (by decide) rfl wF_X6_48 h4 ?_
          refine T.iret (q_d dX6_undo_0 33 rfl) rfl rfl rfl ?_
          rw [er]
          exact ⟨rfl, by rw [h2]; exact q1, fun j h9 => hj j (by omega), (q6 (k - 1) hk1).2, h4, (show k - 1 ≤ 4 by omega), fun i hi9 => ⟨fun j h9 => by rw [ha 2 (by decide) (by decide)]; exact (q6 i (show i < k from Nat.lt_of_lt_of_le hi9 (Nat.sub_le _ _))).1 j h9, (q6 i (show i < k from Nat.lt_of_lt_of_le hi9 (Nat.sub_le _ _))).2⟩, (h04 6 (by decide)).trans q7, fun i hi9 => by rw [ha 5 (by decide) (by decide)]; exact q8 i hi9, q9⟩
        · exact absurd h25 (by omega)
      | succ d ih =>
        intro i M' hi h2 ha h04 h4 hj
        have hv : M'.1 2 (52 * (k - 1) + i) = was (k - 1) i := by rw [ha 2 (by decide) (by decide)]; exact (q6 (k - 1) hk1).1 i (by omega)
        refine T.iload_n (pc' := 23) (q_d dX6_undo_0 13 rfl) rfl rfl rfl ?_
        refine T.bipush (pc' := 25) (v := nI 52) (q_d dX6_undo_0 14 rfl) rfl (by decide) ?_
        refine T.icmp_geN (tgt := 54) (pc' := 28) (q_d dX6_undo_0 15 rfl) rfl (by decide) (by omega) (by omega) (fun h25 => ?_) (fun h25 => ?_)
        · exact absurd h25 (by omega)
        · refine T.aload_n (pc' := 29) (q_d dX6_undo_0 16 rfl) rfl rfl rfl ?_
          refine T.getR (pc' := 32) (ci := 6) (k0 := 0) (q_d dX6_undo_0 17 rfl) rfl rfl (by decide) rfl inX6 (by decide) rfl wF_X6_7 (rP (show M'.2.2 = pM by rw [h2]; exact q1) rfl) ?_
          refine T.iload_n (pc' := 33) (q_d dX6_undo_0 18 rfl) rfl rfl rfl ?_
          refine T.aload_n (pc' := 34) (q_d dX6_undo_0 19 rfl) rfl rfl rfl ?_
          refine T.getR (pc' := 37) (ci := 6) (k0 := 1) (q_d dX6_undo_0 20 rfl) rfl rfl (by decide) rfl inX6 (by decide) rfl wF_X6_13 (rP (show M'.2.2 = pM by rw [h2]; exact q1) rfl) ?_
          refine T.bipush (pc' := 39) (v := nI 52) (q_d dX6_undo_0 21 rfl) rfl (by decide) ?_
          refine T.aload_n (pc' := 40) (q_d dX6_undo_0 22 rfl) rfl rfl rfl ?_
          refine T.getI (pc' := 43) (ci := 6) (k0 := 4) (q_d dX6_undo_0 23 rfl) rfl rfl (by decide) rfl inX6 (by decide) rfl wF_X6_48 h4 ?_
          refine T.imul (pc' := 44) (q_d dX6_undo_0 24 rfl) rfl (pk_mul _ _) ?_
          refine T.iload_n (pc' := 45) (q_d dX6_undo_0 25 rfl) rfl rfl rfl ?_
          refine T.iadd (pc' := 46) (q_d dX6_undo_0 26 rfl) rfl (nI_add _ _) ?_
          refine T.iald (pc' := 47) (q_d dX6_undo_0 27 rfl) rfl rfl (by decide) rfl (by omega) (by decide) hv ?_
          refine T.iast (pc' := 48) (q_d dX6_undo_0 28 rfl) rfl rfl (by decide) rfl (by omega) (by decide) ?_
          refine T.iinc (pc' := 51) (q_d dX6_undo_0 29 rfl) rfl rfl (nN_p _ 1) (by decide) rfl rfl ?_
          refine T.goto (tgt := 22) (q_d dX6_undo_0 30 rfl) (by decide) ?_
          refine ih (i + 1) _ (by omega) h2 (fun a a0 a1 => ?_) (fun j h9 => ?_) ?_ (fun j h9 => ?_)
          · funext z; rw [qI_ne (Or.inl a1), ha a a0 a1]
          · rw [qI_ne (Or.inl (by decide))]; exact h04 j h9
          · rw [qI_ne (Or.inl (by decide))]; exact h4
          · by_cases e : j = i
            · subst e; exact qI_eq
            · rw [qI_ne (Or.inr e)]; exact hj j (by omega)
    refine T.aload_n (pc' := 1) (q_d dX6_undo_0 0 rfl) rfl rfl rfl ?_
    refine T.getI (pc' := 4) (ci := 6) (k0 := 4) (q_d dX6_undo_0 1 rfl) rfl rfl (by decide) rfl inX6 (by decide) rfl wF_X6_48 q4 ?_
    refine T.if_neN (tgt := 10) (pc' := 7) (q_d dX6_undo_0 2 rfl) rfl (by decide) (by omega) (fun h4 => ?_) (fun h4 => ?_)
    · refine T.aload_n (pc' := 11) (q_d dX6_undo_0 5 rfl) rfl rfl rfl ?_
      refine T.dup (pc' := 12) (q_d dX6_undo_0 6 rfl) rfl rfl ?_
      refine T.getI (pc' := 15) (ci := 6) (k0 := 4) (q_d dX6_undo_0 7 rfl) rfl rfl (by decide) rfl inX6 (by decide) rfl wF_X6_48 q4 ?_
      refine T.iconst (pc' := 16) (v := nI 1) (q_d dX6_undo_0 8 rfl) rfl (by decide) ?_
      refine T.isub (pc' := 17) (q_d dX6_undo_0 9 rfl) rfl (nN_sub (by omega)) ?_
      refine T.putI (pc' := 20) (ci := 6) (k0 := 4) (q_d dX6_undo_0 10 rfl) rfl rfl (by decide) rfl inX6 tyX6 tyX6_ok nmX6 (by decide) rfl wF_X6_48 rfl rfl rfl ?_
      refine T.iconst (pc' := 21) (v := nI 0) (q_d dX6_undo_0 11 rfl) rfl (by decide) ?_
      refine T.istore_n (pc' := 22) (q_d dX6_undo_0 12 rfl) rfl rfl (by decide) rfl rfl ?_
      refine loop 52 0 _ (by decide) rfl (fun a a0 a1 => ?_) (fun j h9 => qI_ne (Or.inr h9)) qI_eq (fun j h => absurd h (Nat.not_lt_zero _))
      funext z; rw [qI_ne (Or.inl a0)]
    · exact absurd h4 h0
theorem m_type (hX : RM M b s k was n t) {u : Nat} (hu : u < 4294967296) : Ct l hdM kM mX6_type [.ref 0, .int (nI u)] M (OM b (oType s k was n t u)) := by
  refine Ct.of [some (.ref 0), some (.int (nI u))] (by decide +kernel) (fun h => absurd h (by decide)) (Nat.le_of_ble_eq_true rfl) rfl ?_
  have e := inS_iff (lo := 32) (hi := 126) hu (by decide) (by decide)
  have hX0 := hX
  obtain ⟨q1, q2, q3, q4, q5, q6, q7, q8, q9⟩ := hX
  have h60 := q9.1
  by_cases a1 : 32 ≤ u ∧ u ≤ 126
  · have z1 : inS u 32 126 = true := e.mpr a1
    by_cases a2 : n < 60
    · have er : oType s k was n t u = (n + 1, (s, k, was, n + 1, up t n u)) := by unfold oType; rw [if_pos a1, if_pos a2]
      have g7 : (qI M 5 n u).1 0 6 = n := by rw [qI_ne (Or.inl (by decide))]; exact q7
      have hc : u < 65536 := by omega
      refine T.iload_n (pc' := 1) (q_d dX6_type_0 0 rfl) rfl rfl rfl ?_
      refine T.bipush (pc' := 3) (v := nI 32) (q_d dX6_type_0 1 rfl) rfl (by decide) ?_
      refine T.bipush (pc' := 5) (v := nI 126) (q_d dX6_type_0 2 rfl) rfl (by decide) ?_
      refine T.callS (pc' := 8) (q_d dX6_type_0 3 rfl) rfl uX6_in wM_X6_43 (m_in hu (by decide) (hi := 126) (by decide)) rfl rfl (by decide) (Nat.le_of_ble_eq_true rfl) rfl rfl (fun _ => rfl) ?_
      rintro _ _ ⟨rfl, rfl⟩
      dsimp only [Option.toList, List.cons_append, List.nil_append, List.append_nil]
      refine T.if_neN (tgt := 14) (pc' := 11) (q_d dX6_type_0 4 rfl) rfl (by decide) (by split <;> decide) (fun h8 => ?_) (fun h8 => ?_)
      · refine T.aload_n (pc' := 15) (q_d dX6_type_0 7 rfl) rfl rfl rfl ?_
        refine T.getI (pc' := 18) (ci := 6) (k0 := 6) (q_d dX6_type_0 8 rfl) rfl rfl (by decide) rfl inX6 (by decide) rfl wF_X6_118 q7 ?_
        refine T.bipush (pc' := 20) (v := nI 60) (q_d dX6_type_0 9 rfl) rfl (by decide) ?_
        refine T.icmp_neN (tgt := 26) (pc' := 23) (q_d dX6_type_0 10 rfl) rfl (by decide) (by omega) (by omega) (fun h20 => ?_) (fun h20 => ?_)
        · refine T.aload_n (pc' := 27) (q_d dX6_type_0 13 rfl) rfl rfl rfl ?_
          refine T.getR (pc' := 30) (ci := 6) (k0 := 5) (q_d dX6_type_0 14 rfl) rfl rfl (by decide) rfl inX6 (by decide) rfl wF_X6_22 (rP (P := pM) (by exact q1) rfl) ?_
          refine T.aload_n (pc' := 31) (q_d dX6_type_0 15 rfl) rfl rfl rfl ?_
          refine T.getI (pc' := 34) (ci := 6) (k0 := 6) (q_d dX6_type_0 16 rfl) rfl rfl (by decide) rfl inX6 (by decide) rfl wF_X6_118 q7 ?_
          refine T.iload_n (pc' := 35) (q_d dX6_type_0 17 rfl) rfl rfl rfl ?_
          refine T.i2c (pc' := 36) (q_d dX6_type_0 18 rfl) rfl (i2c_small u (by omega)) ?_
          refine T.cast (pc' := 37) (q_d dX6_type_0 19 rfl) rfl rfl (by decide) rfl (by omega) (by decide) (pk_charN hc).1 ?_
          refine T.aload_n (pc' := 38) (q_d dX6_type_0 20 rfl) rfl rfl rfl ?_
          refine T.dup (pc' := 39) (q_d dX6_type_0 21 rfl) rfl rfl ?_
          refine T.getI (pc' := 42) (ci := 6) (k0 := 6) (q_d dX6_type_0 22 rfl) rfl rfl (by decide) rfl inX6 (by decide) rfl wF_X6_118 g7 ?_
          refine T.iconst (pc' := 43) (v := nI 1) (q_d dX6_type_0 23 rfl) rfl (by decide) ?_
          refine T.iadd (pc' := 44) (q_d dX6_type_0 24 rfl) rfl (nI_add _ _) ?_
          refine T.putI (pc' := 47) (ci := 6) (k0 := 6) (q_d dX6_type_0 25 rfl) rfl rfl (by decide) rfl inX6 tyX6 tyX6_ok nmX6 (by decide) rfl wF_X6_118 rfl rfl rfl ?_
          refine T.aload_n (pc' := 48) (q_d dX6_type_0 26 rfl) rfl rfl rfl ?_
          refine T.getI (pc' := 51) (ci := 6) (k0 := 6) (q_d dX6_type_0 27 rfl) rfl rfl (by decide) rfl inX6 (by decide) rfl wF_X6_118 qI_eq ?_
          refine T.iret (q_d dX6_type_0 28 rfl) rfl rfl rfl ?_
          rw [er]
          refine ⟨rfl, q1, fun j hj => ?_, q3, ?_, q5, fun i hi => ⟨fun j hj => ?_, (q6 i hi).2⟩, qI_eq, fun i hi => ?_, ⟨a2, fun i hi => ?_⟩⟩
          · rw [qI_ne (Or.inl (by decide)), qI_ne (Or.inl (by decide))]; exact q2 j hj
          · rw [qI_ne (Or.inr (by decide)), qI_ne (Or.inl (by decide))]; exact q4
          · rw [qI_ne (Or.inl (by decide)), qI_ne (Or.inl (by decide))]; exact (q6 i hi).1 j hj
          · have hi' : i < n + 1 := hi
            rw [qI_ne (Or.inl (by decide))]
            show _ = up t n u i
            by_cases e9 : i = n
            · subst e9; rw [qI_eq, up_eq]
            · rw [qI_ne (Or.inr e9), up_ne e9]; exact q8 i (by omega)
          · have hi' : i < n + 1 := hi
            show 32 ≤ up t n u i ∧ up t n u i ≤ 126
            by_cases e9 : i = n
            · subst e9; rw [up_eq]; exact a1
            · rw [up_ne e9]; exact q9.2 i (by omega)
        · exact absurd h20 (by omega)
      · exact absurd h8 (by rw [if_pos z1]; decide)
    · refine T.iload_n (pc' := 1) (q_d dX6_type_0 0 rfl) rfl rfl rfl ?_
      refine T.bipush (pc' := 3) (v := nI 32) (q_d dX6_type_0 1 rfl) rfl (by decide) ?_
      refine T.bipush (pc' := 5) (v := nI 126) (q_d dX6_type_0 2 rfl) rfl (by decide) ?_
      refine T.callS (pc' := 8) (q_d dX6_type_0 3 rfl) rfl uX6_in wM_X6_43 (m_in hu (by decide) (hi := 126) (by decide)) rfl rfl (by decide) (Nat.le_of_ble_eq_true rfl) rfl rfl (fun _ => rfl) ?_
      rintro _ _ ⟨rfl, rfl⟩
      dsimp only [Option.toList, List.cons_append, List.nil_append, List.append_nil]
      refine T.if_neN (tgt := 14) (pc' := 11) (q_d dX6_type_0 4 rfl) rfl (by decide) (by split <;> decide) (fun h8 => ?_) (fun h8 => ?_)
      · refine T.aload_n (pc' := 15) (q_d dX6_type_0 7 rfl) rfl rfl rfl ?_
        refine T.getI (pc' := 18) (ci := 6) (k0 := 6) (q_d dX6_type_0 8 rfl) rfl rfl (by decide) rfl inX6 (by decide) rfl wF_X6_118 q7 ?_
        refine T.bipush (pc' := 20) (v := nI 60) (q_d dX6_type_0 9 rfl) rfl (by decide) ?_
        refine T.icmp_neN (tgt := 26) (pc' := 23) (q_d dX6_type_0 10 rfl) rfl (by decide) (by omega) (by omega) (fun h20 => ?_) (fun h20 => ?_)
        · exact absurd h20 (by omega)
        · refine T.ldc (pc' := 25) (v := nI 4293967293) (q_d dX6_type_0 11 rfl) rfl wN_X6_52 ?_
          refine T.iret (q_d dX6_type_0 12 rfl) rfl rfl rfl ?_
          unfold oType
          rw [if_pos a1, if_neg a2]
          exact ⟨rfl, hX0⟩
      · exact absurd h8 (by rw [if_pos z1]; decide)
  · have z1 : ¬ inS u 32 126 = true := fun q => a1 (e.mp q)
    refine T.iload_n (pc' := 1) (q_d dX6_type_0 0 rfl) rfl rfl rfl ?_
    refine T.bipush (pc' := 3) (v := nI 32) (q_d dX6_type_0 1 rfl) rfl (by decide) ?_
    refine T.bipush (pc' := 5) (v := nI 126) (q_d dX6_type_0 2 rfl) rfl (by decide) ?_
    refine T.callS (pc' := 8) (q_d dX6_type_0 3 rfl) rfl uX6_in wM_X6_43 (m_in hu (by decide) (hi := 126) (by decide)) rfl rfl (by decide) (Nat.le_of_ble_eq_true rfl) rfl rfl (fun _ => rfl) ?_
    rintro _ _ ⟨rfl, rfl⟩
    dsimp only [Option.toList, List.cons_append, List.nil_append, List.append_nil]
    refine T.if_neN (tgt := 14) (pc' := 11) (q_d dX6_type_0 4 rfl) rfl (by decide) (by split <;> decide) (fun h8 => ?_) (fun h8 => ?_)
    · exact absurd (if_neg z1) h8
    · refine T.ldc (pc' := 13) (v := nI 4293967295) (q_d dX6_type_0 5 rfl) rfl wN_X6_47 ?_
      refine T.iret (q_d dX6_type_0 6 rfl) rfl rfl rfl ?_
      unfold oType
      rw [if_neg a1]
      exact ⟨rfl, hX0⟩
theorem m_clearText (hX : RM M b s k was n t) : Ct l hdM kM mX6_clearText [.ref 0] M (OM b (oClear s k was n t)) := by
  refine Ct.of [some (.ref 0), none] (by decide +kernel) (fun h => absurd h (by decide)) (Nat.le_of_ble_eq_true rfl) rfl ?_
  obtain ⟨q1, q2, q3, q4, q5, q6, q7, q8, q9⟩ := hX
  refine T.aload_n (pc' := 1) (q_d dX6_clearText_0 0 rfl) rfl rfl rfl ?_
  refine T.getI (pc' := 4) (ci := 6) (k0 := 6) (q_d dX6_clearText_0 1 rfl) rfl rfl (by decide) rfl inX6 (by decide) rfl wF_X6_118 q7 ?_
  refine T.istore_n (pc' := 5) (q_d dX6_clearText_0 2 rfl) rfl rfl (by decide) rfl rfl ?_
  refine T.aload_n (pc' := 6) (q_d dX6_clearText_0 3 rfl) rfl rfl rfl ?_
  refine T.iconst (pc' := 7) (v := nI 0) (q_d dX6_clearText_0 4 rfl) rfl (by decide) ?_
  refine T.putI (pc' := 10) (ci := 6) (k0 := 6) (q_d dX6_clearText_0 5 rfl) rfl rfl (by decide) rfl inX6 tyX6 tyX6_ok nmX6 (by decide) rfl wF_X6_118 rfl rfl rfl ?_
  refine T.iload_n (pc' := 11) (q_d dX6_clearText_0 6 rfl) rfl rfl rfl ?_
  refine T.iret (q_d dX6_clearText_0 7 rfl) rfl rfl rfl ?_
  exact ⟨rfl, q1, fun j hj => by rw [qI_ne (Or.inl (by decide))]; exact q2 j hj, q3, (qI_ne (Or.inr (by decide))).trans q4, q5, fun i hi => ⟨fun j hj => by rw [qI_ne (Or.inl (by decide))]; exact (q6 i hi).1 j hj, (q6 i hi).2⟩, qI_eq, fun i hi => absurd hi (Nat.not_lt_zero _), ⟨Nat.zero_le _, fun i hi => absurd hi (Nat.not_lt_zero _)⟩⟩
end CM8B
