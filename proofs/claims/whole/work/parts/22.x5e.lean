/-! BlindHunts: ways, counts, undo, texts -/
def qWays (s : Nat → Nat) (u v : Nat) : Int := if u ≤ 40 ∧ v < s 0 then (if wkN s 4294967295 u v = -1 then -1000003 else wkN s 4294967295 u v) else -1000001
def qMet (s : Nat → Nat) (u v w : Nat) : Int := if (u ≤ 15 ∧ v < s 0) ∧ w ≤ 1 then (if w = 1 then totS (wkN s 4294967295 u) (s 0) else totS (wkN s 4294967295 u) (s 0) - totS (wkN s v u) (s 0)) else -1000001
def qCount (s : Nat → Nat) (k n u : Nat) : Nat := if u = 0 then s 0 else if u = 1 then rdN s 14 else if u = 2 then rdN s 21 else if u = 3 then s 1 else if u = 4 then s 2 else if u = 5 then s 3 else if u = 6 then k else if u = 7 then n else if 20 ≤ u ∧ u ≤ 22 then s (4 + (u - 20)) else 4293967295
def oUndo (s : Nat → Nat) (k : Nat) (was : Nat → Nat → Nat) (n : Nat) (t : Nat → Nat) : Nat × St := if k = 0 then (4293967294, (s, k, was, n, t)) else (k - 1, (was (k - 1), k - 1, was, n, t))
def oType (s : Nat → Nat) (k : Nat) (was : Nat → Nat → Nat) (n : Nat) (t : Nat → Nat) (u : Nat) : Nat × St := if 32 ≤ u ∧ u ≤ 126 then (if n < 60 then (n + 1, (s, k, was, n + 1, up t n u)) else (4293967293, (s, k, was, n, t))) else (4293967295, (s, k, was, n, t))
def oClear (s : Nat → Nat) (k : Nat) (was : Nat → Nat → Nat) (n : Nat) (t : Nat → Nat) : Nat × St := (n, (s, k, was, 0, t))
def qFault (s : Nat → Nat) (n : Nat) (t : Nat → Nat) (u : Nat) : Nat := if u ≤ 1 then (if (runT n t 60 s 0 0).1 = 0 then 4293967292 else if u = 0 then (runT n t 60 s 0 0).2.2.1 else (runT n t 60 s 0 0).1) else 4293967295
def oPlay (s : Nat → Nat) (k : Nat) (was : Nat → Nat → Nat) (n : Nat) (t : Nat → Nat) : Nat × St := if (runT n t 60 s 0 0).1 = 0 then ((runT n t 60 s 0 0).2.2.2, act s k was n t (runT n t 60 s 0 0).2.1) else (4293967294, (s, k, was, n, t))
def OXL (b : Nat) (z : Int) (x : St) : Option Value → qM → Prop := fun v M' => v = some (.long (lI z)) ∧ Ac b x M'
theorem i2c_small : ∀ u, u < 127 → ((nI u).toUInt32 % 65536).toInt32 = nI u := by decide +kernel
theorem runT_le {n : Nat} {t : Nat → Nat} : ∀ d s p r, (runT n t d s p r).1 ≤ 3
  | 0, s, p, r => Nat.zero_le _
  | d + 1, s, p, r => by
    have h := stepR_ne (n := n) (t := t) (s := s) (p := p)
    rw [runT]
    split
    · split
      · exact runT_le d _ _ _
      · exact h
    · exact Nat.zero_le _
section CX5E
variable {l : Launch} {M M' : qM} {b b' : Nat} {s s' : Nat → Nat} {k : Nat} {was : Nat → Nat → Nat} {n : Nat} {t pa : Nat → Nat} {sw sw' : Bool}
theorem RX.swp (q : RX M b s k was n t pa sw) (h1 : M'.1 = M.1) (h2 : M'.2.2 = pX pa sw') : RX M' b s k was n t pa sw' := by
  obtain ⟨q1, q2, q3, q4, q5, q6, q7, q8, q9, q10⟩ := q
  exact ⟨h2, q2, q3.mono (fun a _ _ => by rw [h1]), q4, by rw [h1]; exact q5, q6, fun i hi => ⟨(q7 i hi).1.mono (fun a _ _ => by rw [h1]), (q7 i hi).2⟩, ⟨by rw [h1]; exact q8.1, fun i hi => by rw [h1]; exact q8.2 i hi⟩, q9, q10.mono (by rw [h1]; exact ⟨rfl, rfl, rfl⟩) (fun a _ _ => by rw [h1])⟩
theorem c_ways (hX : RX M b s k was n t pa sw) {u v : Nat} (hu : u < 4294967296) (hv : v < 4294967296) : Ct l hdX kX mX5_ways [.ref 0, .int (nI u), .int (nI v)] M (OXL b (qWays s u v) (s, k, was, n, t)) := by
  refine Ct.of [some (.ref 0), some (.int (nI u)), some (.int (nI v)), none, none] (by decide +kernel) (fun h => absurd h (by decide)) (Nat.le_of_ble_eq_true rfl) rfl ?_
  have e := inS_iff (lo := 0) (hi := 40) hu (by decide) (by decide)
  have w7 := hX.2.2.2.1.1
  by_cases a1 : u ≤ 40
  · have z1 : inS u 0 40 = true := e.mpr ⟨Nat.zero_le _, a1⟩
    by_cases a2 : v < s 0
    · have hin := wkN_in (s := s) (w := 4294967295) u v
      have m1 : inL (-1) := by unfold inL MAXL; omega
      have key := (lc_eq (x := lI (wkN s 4294967295 u v)) (y := lI (-1))).trans (lI_inj hin m1)
      refine T.iload_n (pc' := 1) (q_d dX5_ways_0 0 rfl) rfl rfl rfl ?_
      refine T.iconst (pc' := 2) (v := nI 0) (q_d dX5_ways_0 1 rfl) rfl (by decide) ?_
      refine T.bipush (pc' := 4) (v := nI 40) (q_d dX5_ways_0 2 rfl) rfl (by decide) ?_
      refine T.callS (pc' := 7) (q_d dX5_ways_0 3 rfl) rfl uX5_isWithin wM_X5_60 (c_isWithin hu (by decide) (hi := 40) (by decide)) rfl rfl (by decide) (Nat.le_of_ble_eq_true rfl) rfl rfl (fun _ => rfl) ?_
      rintro _ _ ⟨rfl, rfl⟩
      dsimp only [Option.toList, List.cons_append, List.nil_append, List.append_nil]
      refine T.if_eqN (tgt := 18) (pc' := 10) (q_d dX5_ways_0 4 rfl) rfl (by decide) (by split <;> decide) (fun h7 => ?_) (fun h7 => ?_)
      · exact absurd h7 (by rw [if_pos z1]; decide)
      · refine T.aload_n (pc' := 11) (q_d dX5_ways_0 5 rfl) rfl rfl rfl ?_
        refine T.iload_n (pc' := 12) (q_d dX5_ways_0 6 rfl) rfl rfl rfl ?_
        refine T.callV (pc' := 15) (ci := 5) (q_d dX5_ways_0 7 rfl) rfl uX5_isPlace wM_X5_141 (c_isPlace hX.1 hX.2.2.1 hX.2.2.2.1 hv) rfl rfl (by decide) rfl rfl (by decide) (Nat.le_of_ble_eq_true rfl) rfl rfl (fun _ => rfl) ?_
        rintro _ _ ⟨rfl, rfl⟩
        dsimp only [Option.toList, List.cons_append, List.nil_append, List.append_nil]
        refine T.if_neN (tgt := 22) (pc' := 18) (q_d dX5_ways_0 8 rfl) rfl (by decide) (by split <;> decide) (fun h15 => ?_) (fun h15 => ?_)
        · refine T.aload_n (pc' := 23) (q_d dX5_ways_0 11 rfl) rfl rfl rfl ?_
          refine T.getR (pc' := 26) (ci := 5) (k0 := 11) (q_d dX5_ways_0 12 rfl) rfl rfl (by decide) rfl inX5 (by decide) rfl wF_X5_52 (rP (P := pX _ _) (by first | exact hXb.1 | exact hX.1) rfl) ?_
          refine T.aload_n (pc' := 27) (q_d dX5_ways_0 13 rfl) rfl rfl rfl ?_
          refine T.getR (pc' := 30) (ci := 5) (k0 := 0) (q_d dX5_ways_0 14 rfl) rfl rfl (by decide) rfl inX5 (by decide) rfl wF_X5_10 (rP (P := pX _ _) (by first | exact hXb.1 | exact hX.1) rfl) ?_
          refine T.iload_n (pc' := 31) (q_d dX5_ways_0 15 rfl) rfl rfl rfl ?_
          refine T.iconst (pc' := 32) (v := nI 4294967295) (q_d dX5_ways_0 16 rfl) rfl (by decide) ?_
          refine T.callV (pc' := 35) (ci := 4) (q_d dX5_ways_0 17 rfl) rfl uX4_walk wM_X5_199 (c_walk hX.1 hX.2.2.1 hX.2.2.2.1 (show 4294967295 < 4294967296 by decide) a1) rfl rfl (by decide) rfl rfl (by decide) (Nat.le_of_ble_eq_true rfl) rfl rfl (fun _ => rfl) ?_
          rintro _ M2 ⟨rfl, f1, sw', f2, f3⟩
          have hXb := hX.swp f1 f2
          dsimp only [Option.toList, List.cons_append, List.nil_append, List.append_nil]
          refine T.aload_n (pc' := 36) (q_d dX5_ways_0 18 rfl) rfl rfl rfl ?_
          refine T.getR (pc' := 39) (ci := 5) (k0 := 11) (q_d dX5_ways_0 19 rfl) rfl rfl (by decide) rfl inX5 (by decide) rfl wF_X5_52 (rP (P := pX _ _) (by first | exact hXb.1 | exact hX.1) rfl) ?_
          refine T.getR (pc' := 42) (ci := 4) (k0 := 0) (q_d dX5_ways_0 20 rfl) rfl rfl (by decide) rfl inX4 (by decide) rfl wF_X5_203 (rP hXb.1 pX_e0) ?_
          refine T.iload_n (pc' := 43) (q_d dX5_ways_0 21 rfl) rfl rfl rfl ?_
          refine T.lald (pc' := 44) (q_d dX5_ways_0 22 rfl) rfl (eL_hd sw') (eL_lt sw') rfl (by omega) (by decide) (f3 v a2) ?_
          refine T.lstore_n (pc' := 45) (q_d dX5_ways_0 23 rfl) rfl rfl (by decide) rfl rfl ?_
          refine T.lload_n (pc' := 46) (q_d dX5_ways_0 24 rfl) rfl rfl rfl ?_
          refine T.ldc2 (pc' := 49) (q_d dX5_ways_0 25 rfl) rfl wN_X5_207 ?_
          refine T.topl (y := lI (-1)) (by decide) ?_
          refine T.lcmp (pc' := 50) (q_d dX5_ways_0 26 rfl) rfl rfl ?_
          refine T.if_ne (tgt := 59) (pc' := 53) (q_d dX5_ways_0 27 rfl) rfl (by decide)  (fun h50 => ?_) (fun h50 => ?_)
          · refine T.lload_n (pc' := 60) (q_d dX5_ways_0 30 rfl) rfl rfl rfl ?_
            refine T.lret (q_d dX5_ways_0 31 rfl) rfl rfl rfl ?_
            refine ⟨?_, pa, sw', hXb⟩
            unfold qWays
            rw [if_pos ⟨a1, a2⟩]
            first
              | (rw [if_neg (fun q => h50 (key.mpr q))]; done)
              | (rw [if_pos (key.mp h50)]; done)
          · refine T.ldc2 (pc' := 56) (q_d dX5_ways_0 28 rfl) rfl wN_X5_209 ?_
            refine T.topl (y := lI (-1000003)) (by decide) ?_
            refine T.goto (tgt := 60) (q_d dX5_ways_0 29 rfl) (by decide) ?_
            refine T.lret (q_d dX5_ways_0 31 rfl) rfl rfl rfl ?_
            refine ⟨?_, pa, sw', hXb⟩
            unfold qWays
            rw [if_pos ⟨a1, a2⟩]
            first
              | (rw [if_neg (fun q => h50 (key.mpr q))]; done)
              | (rw [if_pos (key.mp h50)]; done)
        · exact absurd h15 (by rw [if_pos a2]; decide)
    · refine T.iload_n (pc' := 1) (q_d dX5_ways_0 0 rfl) rfl rfl rfl ?_
      refine T.iconst (pc' := 2) (v := nI 0) (q_d dX5_ways_0 1 rfl) rfl (by decide) ?_
      refine T.bipush (pc' := 4) (v := nI 40) (q_d dX5_ways_0 2 rfl) rfl (by decide) ?_
      refine T.callS (pc' := 7) (q_d dX5_ways_0 3 rfl) rfl uX5_isWithin wM_X5_60 (c_isWithin hu (by decide) (hi := 40) (by decide)) rfl rfl (by decide) (Nat.le_of_ble_eq_true rfl) rfl rfl (fun _ => rfl) ?_
      rintro _ _ ⟨rfl, rfl⟩
      dsimp only [Option.toList, List.cons_append, List.nil_append, List.append_nil]
      refine T.if_eqN (tgt := 18) (pc' := 10) (q_d dX5_ways_0 4 rfl) rfl (by decide) (by split <;> decide) (fun h7 => ?_) (fun h7 => ?_)
      · exact absurd h7 (by rw [if_pos z1]; decide)
      · refine T.aload_n (pc' := 11) (q_d dX5_ways_0 5 rfl) rfl rfl rfl ?_
        refine T.iload_n (pc' := 12) (q_d dX5_ways_0 6 rfl) rfl rfl rfl ?_
        refine T.callV (pc' := 15) (ci := 5) (q_d dX5_ways_0 7 rfl) rfl uX5_isPlace wM_X5_141 (c_isPlace hX.1 hX.2.2.1 hX.2.2.2.1 hv) rfl rfl (by decide) rfl rfl (by decide) (Nat.le_of_ble_eq_true rfl) rfl rfl (fun _ => rfl) ?_
        rintro _ _ ⟨rfl, rfl⟩
        dsimp only [Option.toList, List.cons_append, List.nil_append, List.append_nil]
        refine T.if_neN (tgt := 22) (pc' := 18) (q_d dX5_ways_0 8 rfl) rfl (by decide) (by split <;> decide) (fun h15 => ?_) (fun h15 => ?_)
        · exact absurd (if_neg a2) h15
        · refine T.ldc2 (pc' := 21) (q_d dX5_ways_0 9 rfl) rfl wN_X5_197 ?_
          refine T.topl (y := lI (-1000001)) (by decide) ?_
          refine T.lret (q_d dX5_ways_0 10 rfl) rfl rfl rfl ?_
          exact ⟨by unfold qWays; rw [if_neg (fun q => a2 q.2)], pa, sw, hX⟩
  · have z1 : ¬ inS u 0 40 = true := fun q => a1 (e.mp q).2
    refine T.iload_n (pc' := 1) (q_d dX5_ways_0 0 rfl) rfl rfl rfl ?_
    refine T.iconst (pc' := 2) (v := nI 0) (q_d dX5_ways_0 1 rfl) rfl (by decide) ?_
    refine T.bipush (pc' := 4) (v := nI 40) (q_d dX5_ways_0 2 rfl) rfl (by decide) ?_
    refine T.callS (pc' := 7) (q_d dX5_ways_0 3 rfl) rfl uX5_isWithin wM_X5_60 (c_isWithin hu (by decide) (hi := 40) (by decide)) rfl rfl (by decide) (Nat.le_of_ble_eq_true rfl) rfl rfl (fun _ => rfl) ?_
    rintro _ _ ⟨rfl, rfl⟩
    dsimp only [Option.toList, List.cons_append, List.nil_append, List.append_nil]
    refine T.if_eqN (tgt := 18) (pc' := 10) (q_d dX5_ways_0 4 rfl) rfl (by decide) (by split <;> decide) (fun h7 => ?_) (fun h7 => ?_)
    · refine T.ldc2 (pc' := 21) (q_d dX5_ways_0 9 rfl) rfl wN_X5_197 ?_
      refine T.topl (y := lI (-1000001)) (by decide) ?_
      refine T.lret (q_d dX5_ways_0 10 rfl) rfl rfl rfl ?_
      exact ⟨by unfold qWays; rw [if_neg (fun q => a1 q.1)], pa, sw, hX⟩
    · exact absurd (if_neg z1) h7
theorem c_met (hX : RX M b s k was n t pa sw) {u v w : Nat} (hu : u < 4294967296) (hv : v < 4294967296) (hw9 : w < 4294967296) : Ct l hdX kX mX5_met [.ref 0, .int (nI u), .int (nI v), .int (nI w)] M (OXL b (qMet s u v w) (s, k, was, n, t)) := by
  refine Ct.of [some (.ref 0), some (.int (nI u)), some (.int (nI v)), some (.int (nI w)), none, none] (by decide +kernel) (fun h => absurd h (by decide)) (Nat.le_of_ble_eq_true rfl) rfl ?_
  have e := inS_iff (lo := 0) (hi := 15) hu (by decide) (by decide)
  have e' := inS_iff (lo := 0) (hi := 1) hw9 (by decide) (by decide)
  have w7 := hX.2.2.2.1.1
  by_cases a1 : u ≤ 15
  · have z1 : inS u 0 15 = true := e.mpr ⟨Nat.zero_le _, a1⟩
    by_cases a2 : v < s 0
    · by_cases a3 : w ≤ 1
      · have z3 : inS w 0 1 = true := e'.mpr ⟨Nat.zero_le _, a3⟩
        refine T.iload_n (pc' := 1) (q_d dX5_met_0 0 rfl) rfl rfl rfl ?_
        refine T.iconst (pc' := 2) (v := nI 0) (q_d dX5_met_0 1 rfl) rfl (by decide) ?_
        refine T.bipush (pc' := 4) (v := nI 15) (q_d dX5_met_0 2 rfl) rfl (by decide) ?_
        refine T.callS (pc' := 7) (q_d dX5_met_0 3 rfl) rfl uX5_isWithin wM_X5_60 (c_isWithin hu (by decide) (hi := 15) (by decide)) rfl rfl (by decide) (Nat.le_of_ble_eq_true rfl) rfl rfl (fun _ => rfl) ?_
        rintro _ _ ⟨rfl, rfl⟩
        dsimp only [Option.toList, List.cons_append, List.nil_append, List.append_nil]
        refine T.if_eqN (tgt := 27) (pc' := 10) (q_d dX5_met_0 4 rfl) rfl (by decide) (by split <;> decide) (fun h7 => ?_) (fun h7 => ?_)
        · exact absurd h7 (by rw [if_pos z1]; decide)
        · refine T.aload_n (pc' := 11) (q_d dX5_met_0 5 rfl) rfl rfl rfl ?_
          refine T.iload_n (pc' := 12) (q_d dX5_met_0 6 rfl) rfl rfl rfl ?_
          refine T.callV (pc' := 15) (ci := 5) (q_d dX5_met_0 7 rfl) rfl uX5_isPlace wM_X5_141 (c_isPlace hX.1 hX.2.2.1 hX.2.2.2.1 hv) rfl rfl (by decide) rfl rfl (by decide) (Nat.le_of_ble_eq_true rfl) rfl rfl (fun _ => rfl) ?_
          rintro _ _ ⟨rfl, rfl⟩
          dsimp only [Option.toList, List.cons_append, List.nil_append, List.append_nil]
          refine T.if_eqN (tgt := 27) (pc' := 18) (q_d dX5_met_0 8 rfl) rfl (by decide) (by split <;> decide) (fun h15 => ?_) (fun h15 => ?_)
          · exact absurd h15 (by rw [if_pos a2]; decide)
          · refine T.iload_n (pc' := 19) (q_d dX5_met_0 9 rfl) rfl rfl rfl ?_
            refine T.iconst (pc' := 20) (v := nI 0) (q_d dX5_met_0 10 rfl) rfl (by decide) ?_
            refine T.iconst (pc' := 21) (v := nI 1) (q_d dX5_met_0 11 rfl) rfl (by decide) ?_
            refine T.callS (pc' := 24) (q_d dX5_met_0 12 rfl) rfl uX5_isWithin wM_X5_60 (c_isWithin hw9 (by decide) (hi := 1) (by decide)) rfl rfl (by decide) (Nat.le_of_ble_eq_true rfl) rfl rfl (fun _ => rfl) ?_
            rintro _ _ ⟨rfl, rfl⟩
            dsimp only [Option.toList, List.cons_append, List.nil_append, List.append_nil]
            refine T.if_neN (tgt := 31) (pc' := 27) (q_d dX5_met_0 13 rfl) rfl (by decide) (by split <;> decide) (fun h24 => ?_) (fun h24 => ?_)
            · refine T.aload_n (pc' := 32) (q_d dX5_met_0 16 rfl) rfl rfl rfl ?_
              refine T.getR (pc' := 35) (ci := 5) (k0 := 11) (q_d dX5_met_0 17 rfl) rfl rfl (by decide) rfl inX5 (by decide) rfl wF_X5_52 (rP (P := pX _ _) (by first | exact hXc.1 | exact hXb.1 | exact hX.1) rfl) ?_
              refine T.aload_n (pc' := 36) (q_d dX5_met_0 18 rfl) rfl rfl rfl ?_
              refine T.getR (pc' := 39) (ci := 5) (k0 := 0) (q_d dX5_met_0 19 rfl) rfl rfl (by decide) rfl inX5 (by decide) rfl wF_X5_10 (rP (P := pX _ _) (by first | exact hXc.1 | exact hXb.1 | exact hX.1) rfl) ?_
              refine T.iload_n (pc' := 40) (q_d dX5_met_0 20 rfl) rfl rfl rfl ?_
              refine T.iconst (pc' := 41) (v := nI 4294967295) (q_d dX5_met_0 21 rfl) rfl (by decide) ?_
              refine T.callV (pc' := 44) (ci := 4) (q_d dX5_met_0 22 rfl) rfl uX4_walk wM_X5_199 (c_walk hX.1 hX.2.2.1 hX.2.2.2.1 (show 4294967295 < 4294967296 by decide) (show u ≤ 40 by omega)) rfl rfl (by decide) rfl rfl (by decide) (Nat.le_of_ble_eq_true rfl) rfl rfl (fun _ => rfl) ?_
              rintro _ M2 ⟨rfl, f1, sw2, f2, f3⟩
              have hXb := hX.swp f1 f2
              dsimp only [Option.toList, List.cons_append, List.nil_append, List.append_nil]
              refine T.aload_n (pc' := 45) (q_d dX5_met_0 23 rfl) rfl rfl rfl ?_
              refine T.getR (pc' := 48) (ci := 5) (k0 := 11) (q_d dX5_met_0 24 rfl) rfl rfl (by decide) rfl inX5 (by decide) rfl wF_X5_52 (rP (P := pX _ _) (by first | exact hXc.1 | exact hXb.1 | exact hX.1) rfl) ?_
              refine T.aload_n (pc' := 49) (q_d dX5_met_0 25 rfl) rfl rfl rfl ?_
              refine T.getR (pc' := 52) (ci := 5) (k0 := 0) (q_d dX5_met_0 26 rfl) rfl rfl (by decide) rfl inX5 (by decide) rfl wF_X5_10 (rP (P := pX _ _) (by first | exact hXc.1 | exact hXb.1 | exact hX.1) rfl) ?_
              refine T.getI (pc' := 55) (ci := 3) (k0 := 0) (q_d dX5_met_0 27 rfl) rfl rfl (by decide) rfl inX3 (by decide) rfl wF_X5_65 hXb.2.2.1.1 ?_
              refine T.callV (pc' := 58) (ci := 4) (q_d dX5_met_0 28 rfl) rfl uX4_total wM_X5_211 (c_total hXb.1 w7 f3 (fun q _ => wkN_in u q)) rfl rfl (by decide) rfl rfl (by decide) (Nat.le_of_ble_eq_true rfl) rfl rfl (fun _ => rfl) ?_
              rintro _ _ ⟨rfl, rfl⟩
              dsimp only [Option.toList, List.cons_append, List.nil_append, List.append_nil]
              refine T.lstore (pc' := 60) (q_d dX5_met_0 29 rfl) rfl (by decide) rfl rfl ?_
              refine T.iload_n (pc' := 61) (q_d dX5_met_0 30 rfl) rfl rfl rfl ?_
              refine T.iconst (pc' := 62) (v := nI 1) (q_d dX5_met_0 31 rfl) rfl (by decide) ?_
              refine T.icmp_neN (tgt := 68) (pc' := 65) (q_d dX5_met_0 32 rfl) rfl (by decide) (by omega) (by omega) (fun h62 => ?_) (fun h62 => ?_)
              · refine T.aload_n (pc' := 69) (q_d dX5_met_0 35 rfl) rfl rfl rfl ?_
                refine T.getR (pc' := 72) (ci := 5) (k0 := 11) (q_d dX5_met_0 36 rfl) rfl rfl (by decide) rfl inX5 (by decide) rfl wF_X5_52 (rP (P := pX _ _) (by first | exact hXc.1 | exact hXb.1 | exact hX.1) rfl) ?_
                refine T.aload_n (pc' := 73) (q_d dX5_met_0 37 rfl) rfl rfl rfl ?_
                refine T.getR (pc' := 76) (ci := 5) (k0 := 0) (q_d dX5_met_0 38 rfl) rfl rfl (by decide) rfl inX5 (by decide) rfl wF_X5_10 (rP (P := pX _ _) (by first | exact hXc.1 | exact hXb.1 | exact hX.1) rfl) ?_
                refine T.iload_n (pc' := 77) (q_d dX5_met_0 39 rfl) rfl rfl rfl ?_
                refine T.iload_n (pc' := 78) (q_d dX5_met_1 0 rfl) rfl rfl rfl ?_
                refine T.callV (pc' := 81) (ci := 4) (q_d dX5_met_1 1 rfl) rfl uX4_walk wM_X5_199 (c_walk hXb.1 hXb.2.2.1 hXb.2.2.2.1 hv (show u ≤ 40 by omega)) rfl rfl (by decide) rfl rfl (by decide) (Nat.le_of_ble_eq_true rfl) rfl rfl (fun _ => rfl) ?_
                rintro _ M3 ⟨rfl, g1, sw3, g2, g3⟩
                have hXc := hXb.swp g1 g2
                dsimp only [Option.toList, List.cons_append, List.nil_append, List.append_nil]
                refine T.lload (pc' := 83) (q_d dX5_met_1 2 rfl) rfl rfl ?_
                refine T.aload_n (pc' := 84) (q_d dX5_met_1 3 rfl) rfl rfl rfl ?_
                refine T.getR (pc' := 87) (ci := 5) (k0 := 11) (q_d dX5_met_1 4 rfl) rfl rfl (by decide) rfl inX5 (by decide) rfl wF_X5_52 (rP (P := pX _ _) (by first | exact hXc.1 | exact hXb.1 | exact hX.1) rfl) ?_
                refine T.aload_n (pc' := 88) (q_d dX5_met_1 5 rfl) rfl rfl rfl ?_
                refine T.getR (pc' := 91) (ci := 5) (k0 := 0) (q_d dX5_met_1 6 rfl) rfl rfl (by decide) rfl inX5 (by decide) rfl wF_X5_10 (rP (P := pX _ _) (by first | exact hXc.1 | exact hXb.1 | exact hX.1) rfl) ?_
                refine T.getI (pc' := 94) (ci := 3) (k0 := 0) (q_d dX5_met_1 7 rfl) rfl rfl (by decide) rfl inX3 (by decide) rfl wF_X5_65 hXc.2.2.1.1 ?_
                refine T.callV (pc' := 97) (ci := 4) (q_d dX5_met_1 8 rfl) rfl uX4_total wM_X5_211 (c_total hXc.1 w7 g3 (fun q _ => wkN_in u q)) rfl rfl (by decide) rfl rfl (by decide) (Nat.le_of_ble_eq_true rfl) rfl rfl (fun _ => rfl) ?_
                rintro _ _ ⟨rfl, rfl⟩
                dsimp only [Option.toList, List.cons_append, List.nil_append, List.append_nil]
                refine T.lsub (pc' := 98) (q_d dX5_met_1 9 rfl) rfl (Int64.ofInt_sub _ _).symm ?_
                refine T.lret (q_d dX5_met_1 10 rfl) rfl rfl rfl ?_
                exact ⟨by unfold qMet; rw [if_pos ⟨⟨a1, a2⟩, a3⟩, if_neg (by omega)]; rfl, pa, sw3, hXc⟩
              · refine T.lload (pc' := 67) (q_d dX5_met_0 33 rfl) rfl rfl ?_
                refine T.lret (q_d dX5_met_0 34 rfl) rfl rfl rfl ?_
                exact ⟨by unfold qMet; rw [if_pos ⟨⟨a1, a2⟩, a3⟩, if_pos (by omega)], pa, sw2, hXb⟩
            · exact absurd h24 (by rw [if_pos z3]; decide)
      · have z3 : ¬ inS w 0 1 = true := fun q => a3 (e'.mp q).2
        refine T.iload_n (pc' := 1) (q_d dX5_met_0 0 rfl) rfl rfl rfl ?_
        refine T.iconst (pc' := 2) (v := nI 0) (q_d dX5_met_0 1 rfl) rfl (by decide) ?_
        refine T.bipush (pc' := 4) (v := nI 15) (q_d dX5_met_0 2 rfl) rfl (by decide) ?_
        refine T.callS (pc' := 7) (q_d dX5_met_0 3 rfl) rfl uX5_isWithin wM_X5_60 (c_isWithin hu (by decide) (hi := 15) (by decide)) rfl rfl (by decide) (Nat.le_of_ble_eq_true rfl) rfl rfl (fun _ => rfl) ?_
        rintro _ _ ⟨rfl, rfl⟩
        dsimp only [Option.toList, List.cons_append, List.nil_append, List.append_nil]
        refine T.if_eqN (tgt := 27) (pc' := 10) (q_d dX5_met_0 4 rfl) rfl (by decide) (by split <;> decide) (fun h7 => ?_) (fun h7 => ?_)
        · exact absurd h7 (by rw [if_pos z1]; decide)
        · refine T.aload_n (pc' := 11) (q_d dX5_met_0 5 rfl) rfl rfl rfl ?_
          refine T.iload_n (pc' := 12) (q_d dX5_met_0 6 rfl) rfl rfl rfl ?_
          refine T.callV (pc' := 15) (ci := 5) (q_d dX5_met_0 7 rfl) rfl uX5_isPlace wM_X5_141 (c_isPlace hX.1 hX.2.2.1 hX.2.2.2.1 hv) rfl rfl (by decide) rfl rfl (by decide) (Nat.le_of_ble_eq_true rfl) rfl rfl (fun _ => rfl) ?_
          rintro _ _ ⟨rfl, rfl⟩
          dsimp only [Option.toList, List.cons_append, List.nil_append, List.append_nil]
          refine T.if_eqN (tgt := 27) (pc' := 18) (q_d dX5_met_0 8 rfl) rfl (by decide) (by split <;> decide) (fun h15 => ?_) (fun h15 => ?_)
          · exact absurd h15 (by rw [if_pos a2]; decide)
          · refine T.iload_n (pc' := 19) (q_d dX5_met_0 9 rfl) rfl rfl rfl ?_
            refine T.iconst (pc' := 20) (v := nI 0) (q_d dX5_met_0 10 rfl) rfl (by decide) ?_
            refine T.iconst (pc' := 21) (v := nI 1) (q_d dX5_met_0 11 rfl) rfl (by decide) ?_
            refine T.callS (pc' := 24) (q_d dX5_met_0 12 rfl) rfl uX5_isWithin wM_X5_60 (c_isWithin hw9 (by decide) (hi := 1) (by decide)) rfl rfl (by decide) (Nat.le_of_ble_eq_true rfl) rfl rfl (fun _ => rfl) ?_
            rintro _ _ ⟨rfl, rfl⟩
            dsimp only [Option.toList, List.cons_append, List.nil_append, List.append_nil]
            refine T.if_neN (tgt := 31) (pc' := 27) (q_d dX5_met_0 13 rfl) rfl (by decide) (by split <;> decide) (fun h24 => ?_) (fun h24 => ?_)
            · exact absurd (if_neg z3) h24
            · refine T.ldc2 (pc' := 30) (q_d dX5_met_0 14 rfl) rfl wN_X5_197 ?_
              refine T.topl (y := lI (-1000001)) (by decide) ?_
              refine T.lret (q_d dX5_met_0 15 rfl) rfl rfl rfl ?_
              exact ⟨by unfold qMet; rw [if_neg (fun q => a3 q.2)], pa, sw, hX⟩
    · refine T.iload_n (pc' := 1) (q_d dX5_met_0 0 rfl) rfl rfl rfl ?_
      refine T.iconst (pc' := 2) (v := nI 0) (q_d dX5_met_0 1 rfl) rfl (by decide) ?_
      refine T.bipush (pc' := 4) (v := nI 15) (q_d dX5_met_0 2 rfl) rfl (by decide) ?_
      refine T.callS (pc' := 7) (q_d dX5_met_0 3 rfl) rfl uX5_isWithin wM_X5_60 (c_isWithin hu (by decide) (hi := 15) (by decide)) rfl rfl (by decide) (Nat.le_of_ble_eq_true rfl) rfl rfl (fun _ => rfl) ?_
      rintro _ _ ⟨rfl, rfl⟩
      dsimp only [Option.toList, List.cons_append, List.nil_append, List.append_nil]
      refine T.if_eqN (tgt := 27) (pc' := 10) (q_d dX5_met_0 4 rfl) rfl (by decide) (by split <;> decide) (fun h7 => ?_) (fun h7 => ?_)
      · exact absurd h7 (by rw [if_pos z1]; decide)
      · refine T.aload_n (pc' := 11) (q_d dX5_met_0 5 rfl) rfl rfl rfl ?_
        refine T.iload_n (pc' := 12) (q_d dX5_met_0 6 rfl) rfl rfl rfl ?_
        refine T.callV (pc' := 15) (ci := 5) (q_d dX5_met_0 7 rfl) rfl uX5_isPlace wM_X5_141 (c_isPlace hX.1 hX.2.2.1 hX.2.2.2.1 hv) rfl rfl (by decide) rfl rfl (by decide) (Nat.le_of_ble_eq_true rfl) rfl rfl (fun _ => rfl) ?_
        rintro _ _ ⟨rfl, rfl⟩
        dsimp only [Option.toList, List.cons_append, List.nil_append, List.append_nil]
        refine T.if_eqN (tgt := 27) (pc' := 18) (q_d dX5_met_0 8 rfl) rfl (by decide) (by split <;> decide) (fun h15 => ?_) (fun h15 => ?_)
        · refine T.ldc2 (pc' := 30) (q_d dX5_met_0 14 rfl) rfl wN_X5_197 ?_
          refine T.topl (y := lI (-1000001)) (by decide) ?_
          refine T.lret (q_d dX5_met_0 15 rfl) rfl rfl rfl ?_
          exact ⟨by unfold qMet; rw [if_neg (fun q => a2 q.1.2)], pa, sw, hX⟩
        · exact absurd (if_neg a2) h15
  · have z1 : ¬ inS u 0 15 = true := fun q => a1 (e.mp q).2
    refine T.iload_n (pc' := 1) (q_d dX5_met_0 0 rfl) rfl rfl rfl ?_
    refine T.iconst (pc' := 2) (v := nI 0) (q_d dX5_met_0 1 rfl) rfl (by decide) ?_
    refine T.bipush (pc' := 4) (v := nI 15) (q_d dX5_met_0 2 rfl) rfl (by decide) ?_
    refine T.callS (pc' := 7) (q_d dX5_met_0 3 rfl) rfl uX5_isWithin wM_X5_60 (c_isWithin hu (by decide) (hi := 15) (by decide)) rfl rfl (by decide) (Nat.le_of_ble_eq_true rfl) rfl rfl (fun _ => rfl) ?_
    rintro _ _ ⟨rfl, rfl⟩
    dsimp only [Option.toList, List.cons_append, List.nil_append, List.append_nil]
    refine T.if_eqN (tgt := 27) (pc' := 10) (q_d dX5_met_0 4 rfl) rfl (by decide) (by split <;> decide) (fun h7 => ?_) (fun h7 => ?_)
    · refine T.ldc2 (pc' := 30) (q_d dX5_met_0 14 rfl) rfl wN_X5_197 ?_
      refine T.topl (y := lI (-1000001)) (by decide) ?_
      refine T.lret (q_d dX5_met_0 15 rfl) rfl rfl rfl ?_
      exact ⟨by unfold qMet; rw [if_neg (fun q => a1 q.1.1)], pa, sw, hX⟩
    · exact absurd (if_neg z1) h7
theorem c_count (hX : RX M b s k was n t pa sw) (hb : b < 2 ^ 30) {u : Nat} (hu : u < 4294967296) : Ct l hdX kX mX5_count [.ref 0, .int (nI u)] M (OX b (qCount s k n u, (s, k, was, n, t))) := by
  refine Ct.of [some (.ref 0), some (.int (nI u))] (by decide +kernel) (fun h => absurd h (by decide)) (Nat.le_of_ble_eq_true rfl) rfl ?_
  have ho : SO 1 := Or.inl rfl
  have e := inS_iff (lo := 20) (hi := 22) hu (by decide) (by decide)
  have hX0 := hX
  obtain ⟨q1, q2, q3, q4, q5, q6, q7, q8, q9, q10⟩ := hX
  obtain ⟨e0, e1, e2, e3, e4, e5, e6, e7⟩ := q3
  have w0 := p2_le q4.1
  have h3 : s 3 ≤ 1 := by have := q4.2.2.2.2.2.2.2.2.2.2.1; split at this <;> omega
  refine T.iload_n (pc' := 1) (q_d dX5_count_0 0 rfl) rfl rfl rfl ?_
  rcases (by omega : u = 0 ∨ u = 1 ∨ u = 2 ∨ u = 3 ∨ u = 4 ∨ u = 5 ∨ u = 6 ∨ u = 7 ∨ 7 < u) with rfl | rfl | rfl | rfl | rfl | rfl | rfl | rfl | h12
  · refine T.tableIn (tgt := 48) (q_d dX5_count_0 1 rfl) (by decide +kernel) (by decide +kernel) (off := 47) (by decide +kernel) (by decide) ?_
    refine T.aload_n (pc' := 49) (q_d dX5_count_0 2 rfl) rfl rfl rfl ?_
    refine T.getR (pc' := 52) (ci := 5) (k0 := 0) (q_d dX5_count_0 3 rfl) rfl rfl (by decide) rfl inX5 (by decide) rfl wF_X5_10 (rP q1 rfl) ?_
    refine T.getI (pc' := 55) (ci := 3) (k0 := 0) (q_d dX5_count_0 4 rfl) rfl rfl (by decide) rfl inX3 (by decide) rfl wF_X5_65 e0 ?_
    refine T.iret (q_d dX5_count_0 5 rfl) rfl rfl rfl ?_
    exact ⟨by simp [qCount, rdN], pa, sw, hX0⟩
  · refine T.tableIn (tgt := 56) (q_d dX5_count_0 1 rfl) (by decide +kernel) (by decide +kernel) (off := 55) (by decide +kernel) (by decide) ?_
    refine T.aload_n (pc' := 57) (q_d dX5_count_0 6 rfl) rfl rfl rfl ?_
    refine T.getR (pc' := 60) (ci := 5) (k0 := 0) (q_d dX5_count_0 7 rfl) rfl rfl (by decide) rfl inX5 (by decide) rfl wF_X5_10 (rP q1 rfl) ?_
    refine T.aload_n (pc' := 61) (q_d dX5_count_0 8 rfl) rfl rfl rfl ?_
    refine T.getR (pc' := 64) (ci := 5) (k0 := 0) (q_d dX5_count_0 9 rfl) rfl rfl (by decide) rfl inX5 (by decide) rfl wF_X5_10 (rP q1 rfl) ?_
    refine T.getR (pc' := 67) (ci := 3) (k0 := 2) (q_d dX5_count_0 10 rfl) rfl rfl (by decide) rfl inX3 (by decide) rfl wF_X5_91 (rP q1 rfl) ?_
    refine T.callV (pc' := 70) (ci := 3) (q_d dX5_count_0 11 rfl) rfl uX3_countRoads wM_X5_95 (c_countRoads ho hX0.2.2.1 q4 (SO.a2 ho) (by decide) e4 (fun i hi => Nat.lt_of_lt_of_le (q4.2.2.2.2.2.2.2.1 i hi) w0)) rfl rfl (by decide) rfl rfl (by decide) (Nat.le_of_ble_eq_true rfl) rfl rfl (fun _ => rfl) ?_
    rintro _ _ ⟨rfl, rfl⟩
    dsimp only [Option.toList, List.cons_append, List.nil_append, List.append_nil]
    refine T.iret (q_d dX5_count_0 12 rfl) rfl rfl rfl ?_
    exact ⟨by simp [qCount, rdN], pa, sw, hX0⟩
  · refine T.tableIn (tgt := 71) (q_d dX5_count_0 1 rfl) (by decide +kernel) (by decide +kernel) (off := 70) (by decide +kernel) (by decide) ?_
    refine T.aload_n (pc' := 72) (q_d dX5_count_0 13 rfl) rfl rfl rfl ?_
    refine T.getR (pc' := 75) (ci := 5) (k0 := 0) (q_d dX5_count_0 14 rfl) rfl rfl (by decide) rfl inX5 (by decide) rfl wF_X5_10 (rP q1 rfl) ?_
    refine T.aload_n (pc' := 76) (q_d dX5_count_0 15 rfl) rfl rfl rfl ?_
    refine T.getR (pc' := 79) (ci := 5) (k0 := 0) (q_d dX5_count_0 16 rfl) rfl rfl (by decide) rfl inX5 (by decide) rfl wF_X5_10 (rP q1 rfl) ?_
    refine T.getR (pc' := 82) (ci := 3) (k0 := 3) (q_d dX5_count_0 17 rfl) rfl rfl (by decide) rfl inX3 (by decide) rfl wF_X5_105 (rP q1 rfl) ?_
    refine T.callV (pc' := 85) (ci := 3) (q_d dX5_count_0 18 rfl) rfl uX3_countRoads wM_X5_95 (c_countRoads ho hX0.2.2.1 q4 (SO.a3 ho) (by decide) e5 (fun i hi => Nat.lt_of_lt_of_le (q4.2.2.2.2.2.2.2.2.1 i hi) w0)) rfl rfl (by decide) rfl rfl (by decide) (Nat.le_of_ble_eq_true rfl) rfl rfl (fun _ => rfl) ?_
    rintro _ _ ⟨rfl, rfl⟩
    dsimp only [Option.toList, List.cons_append, List.nil_append, List.append_nil]
    refine T.iret (q_d dX5_count_0 19 rfl) rfl rfl rfl ?_
    exact ⟨by simp [qCount, rdN], pa, sw, hX0⟩
  · refine T.tableIn (tgt := 86) (q_d dX5_count_0 1 rfl) (by decide +kernel) (by decide +kernel) (off := 85) (by decide +kernel) (by decide) ?_
    refine T.aload_n (pc' := 87) (q_d dX5_count_0 20 rfl) rfl rfl rfl ?_
    refine T.getR (pc' := 90) (ci := 5) (k0 := 0) (q_d dX5_count_0 21 rfl) rfl rfl (by decide) rfl inX5 (by decide) rfl wF_X5_10 (rP q1 rfl) ?_
    refine T.getI (pc' := 93) (ci := 3) (k0 := 5) (q_d dX5_count_0 22 rfl) rfl rfl (by decide) rfl inX3 (by decide) rfl wF_X5_118 e1 ?_
    refine T.iret (q_d dX5_count_0 23 rfl) rfl rfl rfl ?_
    exact ⟨by simp [qCount, rdN], pa, sw, hX0⟩
  · refine T.tableIn (tgt := 94) (q_d dX5_count_0 1 rfl) (by decide +kernel) (by decide +kernel) (off := 93) (by decide +kernel) (by decide) ?_
    refine T.aload_n (pc' := 95) (q_d dX5_count_0 24 rfl) rfl rfl rfl ?_
    refine T.getR (pc' := 98) (ci := 5) (k0 := 0) (q_d dX5_count_0 25 rfl) rfl rfl (by decide) rfl inX5 (by decide) rfl wF_X5_10 (rP q1 rfl) ?_
    refine T.getI (pc' := 101) (ci := 3) (k0 := 6) (q_d dX5_count_0 26 rfl) rfl rfl (by decide) rfl inX3 (by decide) rfl wF_X5_121 e2 ?_
    refine T.iret (q_d dX5_count_0 27 rfl) rfl rfl rfl ?_
    exact ⟨by simp [qCount, rdN], pa, sw, hX0⟩
  · refine T.tableIn (tgt := 102) (q_d dX5_count_0 1 rfl) (by decide +kernel) (by decide +kernel) (off := 101) (by decide +kernel) (by decide) ?_
    refine T.aload_n (pc' := 103) (q_d dX5_count_0 28 rfl) rfl rfl rfl ?_
    refine T.getR (pc' := 106) (ci := 5) (k0 := 0) (q_d dX5_count_0 29 rfl) rfl rfl (by decide) rfl inX5 (by decide) rfl wF_X5_10 (rP q1 rfl) ?_
    refine T.callV (pc' := 109) (ci := 3) (q_d dX5_count_0 30 rfl) rfl uX3_isCaught wM_X5_215 (c_isCaught ho hX0.2.2.1 q4 hb) rfl rfl (by decide) rfl rfl (by decide) (Nat.le_of_ble_eq_true rfl) rfl rfl (fun _ => rfl) ?_
    rintro _ _ ⟨rfl, rfl⟩
    dsimp only [Option.toList, List.cons_append, List.nil_append, List.append_nil]
    refine T.if_eqN (tgt := 116) (pc' := 112) (q_d dX5_count_0 31 rfl) rfl (by decide) (by omega) (fun h109 => ?_) (fun h109 => ?_)
    · refine T.iconst (pc' := 117) (v := nI 0) (q_d dX5_count_0 34 rfl) rfl (by decide) ?_
      refine T.iret (q_d dX5_count_0 35 rfl) rfl rfl rfl ?_
      first
        | exact ⟨by simp [qCount]; omega, pa, sw, hX0⟩
        | exact ⟨by rw [show qCount s k n 5 = s 3 by simp [qCount], show s 3 = 1 by omega], pa, sw, hX0⟩
        | exact ⟨by rw [show qCount s k n 5 = s 3 by simp [qCount], show s 3 = 0 by omega], pa, sw, hX0⟩
    · refine T.iconst (pc' := 113) (v := nI 1) (q_d dX5_count_0 32 rfl) rfl (by decide) ?_
      refine T.goto (tgt := 117) (q_d dX5_count_0 33 rfl) (by decide) ?_
      refine T.iret (q_d dX5_count_0 35 rfl) rfl rfl rfl ?_
      first
        | exact ⟨by simp [qCount]; omega, pa, sw, hX0⟩
        | exact ⟨by rw [show qCount s k n 5 = s 3 by simp [qCount], show s 3 = 1 by omega], pa, sw, hX0⟩
        | exact ⟨by rw [show qCount s k n 5 = s 3 by simp [qCount], show s 3 = 0 by omega], pa, sw, hX0⟩
  · refine T.tableIn (tgt := 118) (q_d dX5_count_0 1 rfl) (by decide +kernel) (by decide +kernel) (off := 117) (by decide +kernel) (by decide) ?_
    refine T.aload_n (pc' := 119) (q_d dX5_count_0 36 rfl) rfl rfl rfl ?_
    refine T.getI (pc' := 122) (ci := 5) (k0 := 3) (q_d dX5_count_0 37 rfl) rfl rfl (by decide) rfl inX5 (by decide) rfl wF_X5_219 q5 ?_
    refine T.iret (q_d dX5_count_0 38 rfl) rfl rfl rfl ?_
    exact ⟨by simp [qCount, rdN], pa, sw, hX0⟩
  · refine T.tableIn (tgt := 123) (q_d dX5_count_0 1 rfl) (by decide +kernel) (by decide +kernel) (off := 122) (by decide +kernel) (by decide) ?_
    refine T.aload_n (pc' := 124) (q_d dX5_count_0 39 rfl) rfl rfl rfl ?_
    refine T.getR (pc' := 127) (ci := 5) (k0 := 4) (q_d dX5_count_1 0 rfl) rfl rfl (by decide) rfl inX5 (by decide) rfl wF_X5_26 (rP q1 rfl) ?_
    refine T.getI (pc' := 130) (ci := 2) (k0 := 1) (q_d dX5_count_1 1 rfl) rfl rfl (by decide) rfl inX2 (by decide) rfl wF_X5_222 q8.1 ?_
    refine T.iret (q_d dX5_count_1 2 rfl) rfl rfl rfl ?_
    exact ⟨by simp [qCount, rdN], pa, sw, hX0⟩
  · refine T.tableOut (tgt := 131) (q_d dX5_count_0 1 rfl) (sw_out hu h12 (by decide)) (by decide) ?_
    refine T.iload_n (pc' := 132) (q_d dX5_count_1 3 rfl) rfl rfl rfl ?_
    refine T.bipush (pc' := 134) (v := nI 20) (q_d dX5_count_1 4 rfl) rfl (by decide) ?_
    refine T.bipush (pc' := 136) (v := nI 22) (q_d dX5_count_1 5 rfl) rfl (by decide) ?_
    refine T.callS (pc' := 139) (q_d dX5_count_1 6 rfl) rfl uX5_isWithin wM_X5_60 (c_isWithin hu (by decide) (hi := 22) (by decide)) rfl rfl (by decide) (Nat.le_of_ble_eq_true rfl) rfl rfl (fun _ => rfl) ?_
    rintro _ _ ⟨rfl, rfl⟩
    dsimp only [Option.toList, List.cons_append, List.nil_append, List.append_nil]
    refine T.if_eqN (tgt := 157) (pc' := 142) (q_d dX5_count_1 7 rfl) rfl (by decide) (by split <;> decide) (fun h139 => ?_) (fun h139 => ?_)
    · refine T.ldc (pc' := 159) (v := nI 4293967295) (q_d dX5_count_1 16 rfl) rfl wN_X5_64 ?_
      refine T.iret (q_d dX5_count_1 17 rfl) rfl rfl rfl ?_
      refine ⟨?_, pa, sw, hX0⟩
      unfold qCount
      rw [if_neg (by omega), if_neg (by omega), if_neg (by omega), if_neg (by omega), if_neg (by omega), if_neg (by omega), if_neg (by omega), if_neg (by omega)]
      first
        | (rw [if_pos z9]; done)
        | (by_cases q : inS u 20 22 = true
           · rw [if_pos q] at h139; exact absurd h139 (by decide)
           · rw [if_neg (fun z => q (e.mpr z))])
    · have z9 : 20 ≤ u ∧ u ≤ 22 := by
        by_cases q : inS u 20 22 = true
        · exact e.mp q
        · exact absurd (if_neg q) h139
      refine T.aload_n (pc' := 143) (q_d dX5_count_1 8 rfl) rfl rfl rfl ?_
      refine T.getR (pc' := 146) (ci := 5) (k0 := 0) (q_d dX5_count_1 9 rfl) rfl rfl (by decide) rfl inX5 (by decide) rfl wF_X5_10 (rP q1 rfl) ?_
      refine T.getR (pc' := 149) (ci := 3) (k0 := 4) (q_d dX5_count_1 10 rfl) rfl rfl (by decide) rfl inX3 (by decide) rfl wF_X5_111 (rP q1 rfl) ?_
      refine T.iload_n (pc' := 150) (q_d dX5_count_1 11 rfl) rfl rfl rfl ?_
      refine T.bipush (pc' := 152) (v := nI 20) (q_d dX5_count_1 12 rfl) rfl (by decide) ?_
      refine T.isub (pc' := 153) (q_d dX5_count_1 13 rfl) rfl (nN_sub (by omega)) ?_
      refine T.iald (pc' := 154) (q_d dX5_count_1 14 rfl) rfl rfl (by decide) rfl (by omega) (by decide) (e6 (u - 20) (by omega)) ?_
      refine T.goto (tgt := 159) (q_d dX5_count_1 15 rfl) (by decide) ?_
      refine T.iret (q_d dX5_count_1 17 rfl) rfl rfl rfl ?_
      refine ⟨?_, pa, sw, hX0⟩
      unfold qCount
      rw [if_neg (by omega), if_neg (by omega), if_neg (by omega), if_neg (by omega), if_neg (by omega), if_neg (by omega), if_neg (by omega), if_neg (by omega)]
      first
        | (rw [if_pos z9]; done)
        | (by_cases q : inS u 20 22 = true
           · rw [if_pos q] at h139; exact absurd h139 (by decide)
           · rw [if_neg (fun z => q (e.mpr z))])
theorem c_undo (hX : RX M b s k was n t pa sw) : Ct l hdX kX mX5_undo [.ref 0] M (OX b (oUndo s k was n t)) := by
  refine Ct.of [some (.ref 0)] (by decide +kernel) (fun h => absurd h (by decide)) (Nat.le_of_ble_eq_true rfl) rfl ?_
  have hX0 := hX
  obtain ⟨q1, q2, q3, q4, q5, q6, q7, q8, q9, q10⟩ := hX
  by_cases h0 : k = 0
  · refine T.aload_n (pc' := 1) (q_d dX5_undo_0 0 rfl) rfl rfl rfl ?_
    refine T.getI (pc' := 4) (ci := 5) (k0 := 3) (q_d dX5_undo_0 1 rfl) rfl rfl (by decide) rfl inX5 (by decide) rfl wF_X5_219 q5 ?_
    refine T.if_gtN (tgt := 10) (pc' := 7) (q_d dX5_undo_0 2 rfl) rfl (by decide) (by omega) (fun h4 => ?_) (fun h4 => ?_)
    · exact absurd h4 (by omega)
    · refine T.ldc (pc' := 9) (v := nI 4293967294) (q_d dX5_undo_0 3 rfl) rfl wN_X5_87 ?_
      refine T.iret (q_d dX5_undo_0 4 rfl) rfl rfl rfl ?_
      exact ⟨by unfold oUndo; rw [if_pos h0], pa, sw, by unfold oUndo; rw [if_pos h0]; exact hX0⟩
  · have hk1 : k - 1 < k := by omega
    have hk4 : k - 1 < 4 := by omega
    have hg := q2.ge hk4
    have hr : RS (qI M 0 3 (k - 1)) (pa (k - 1)) (was (k - 1)) := (q7 (k - 1) hk1).1.mono (fun a a1 a2 => by funext j; exact qI_ne (Or.inl (by omega)))
    refine T.aload_n (pc' := 1) (q_d dX5_undo_0 0 rfl) rfl rfl rfl ?_
    refine T.getI (pc' := 4) (ci := 5) (k0 := 3) (q_d dX5_undo_0 1 rfl) rfl rfl (by decide) rfl inX5 (by decide) rfl wF_X5_219 q5 ?_
    refine T.if_gtN (tgt := 10) (pc' := 7) (q_d dX5_undo_0 2 rfl) rfl (by decide) (by omega) (fun h4 => ?_) (fun h4 => ?_)
    · refine T.aload_n (pc' := 11) (q_d dX5_undo_0 5 rfl) rfl rfl rfl ?_
      refine T.dup (pc' := 12) (q_d dX5_undo_0 6 rfl) rfl rfl ?_
      refine T.getI (pc' := 15) (ci := 5) (k0 := 3) (q_d dX5_undo_0 7 rfl) rfl rfl (by decide) rfl inX5 (by decide) rfl wF_X5_219 q5 ?_
      refine T.iconst (pc' := 16) (v := nI 1) (q_d dX5_undo_0 8 rfl) rfl (by decide) ?_
      refine T.isub (pc' := 17) (q_d dX5_undo_0 9 rfl) rfl (nN_sub (by omega)) ?_
      refine T.putI (pc' := 20) (ci := 5) (k0 := 3) (q_d dX5_undo_0 10 rfl) rfl rfl (by decide) rfl inX5 tyX5 tyX5_ok nmX5 (by decide) rfl wF_X5_219 rfl rfl rfl ?_
      refine T.aload_n (pc' := 21) (q_d dX5_undo_0 11 rfl) rfl rfl rfl ?_
      refine T.getR (pc' := 24) (ci := 5) (k0 := 0) (q_d dX5_undo_0 12 rfl) rfl rfl (by decide) rfl inX5 (by decide) rfl wF_X5_10 (rP (P := pX pa sw) (by first | exact (show M2.2.2 = _ by rw [g2.1]; exact q1) | exact q1) rfl) ?_
      refine T.aload_n (pc' := 25) (q_d dX5_undo_0 13 rfl) rfl rfl rfl ?_
      refine T.getR (pc' := 28) (ci := 5) (k0 := 2) (q_d dX5_undo_0 14 rfl) rfl rfl (by decide) rfl inX5 (by decide) rfl wF_X5_19 (rP (P := pX pa sw) (by first | exact (show M2.2.2 = _ by rw [g2.1]; exact q1) | exact q1) rfl) ?_
      refine T.aload_n (pc' := 29) (q_d dX5_undo_0 15 rfl) rfl rfl rfl ?_
      refine T.getI (pc' := 32) (ci := 5) (k0 := 3) (q_d dX5_undo_0 16 rfl) rfl rfl (by decide) rfl inX5 (by decide) rfl wF_X5_219 qI_eq ?_
      refine T.qald (pc' := 33) (q_d dX5_undo_0 17 rfl) rfl (Or.inl rfl) rfl (by decide) rfl (by omega) (by decide) (rP q1 (if_pos hk4)) ?_
      refine T.callV (pc' := 36) (ci := 3) (q_d dX5_undo_0 18 rfl) rfl uX3_takeFrom wM_X5_225 (c_takeFrom (Or.inl rfl) (q2.so hk4) (show 1 + 8 ≤ pa (k - 1) ∨ pa (k - 1) + 8 ≤ 1 from Or.inl (by omega)) q1 hr) rfl rfl (by decide) rfl rfl (by decide) (Nat.le_of_ble_eq_true rfl) rfl rfl (fun _ => rfl) ?_
      rintro _ M2 ⟨rfl, g1, g2⟩
      dsimp only [Option.toList, List.cons_append, List.nil_append, List.append_nil]
      refine T.aload_n (pc' := 37) (q_d dX5_undo_0 19 rfl) rfl rfl rfl ?_
      refine T.callV (pc' := 40) (ci := 5) (q_d dX5_undo_0 20 rfl) rfl uX5_forgetTables wM_X5_73 c_forgetTables rfl rfl (by decide) rfl rfl (by decide) (Nat.le_of_ble_eq_true rfl) rfl rfl (fun _ => rfl) ?_
      rintro _ _ ⟨rfl, e8⟩
      subst e8
      have hY : RX (qI M 0 3 (k - 1)) b s (k - 1) was n t pa sw := ⟨q1, q2, q3.mono (fun a a1 a2 => by funext j; exact qI_ne (Or.inl (by omega))), q4, qI_eq, by omega, fun i hi => ⟨(q7 i (by omega)).1.mono (fun a a1 a2 => by have := q2.ge (show i < 4 by omega); funext j; exact qI_ne (Or.inl (by omega))), (q7 i (by omega)).2⟩, ⟨by rw [qI_ne (Or.inl (by decide))]; exact q8.1, fun i hi => by rw [qI_ne (Or.inl (by decide))]; exact q8.2 i hi⟩, q9, q10.mono ⟨qI_ne (Or.inr (by decide)), qI_ne (Or.inr (by decide)), qI_ne (Or.inr (by decide))⟩ (fun a a1 a2 => by funext j; exact qI_ne (Or.inl (by omega)))⟩
      obtain ⟨hF, hT⟩ := hY.forget
      have e3 : (qI (qI (qI M2 0 8 0) 0 9 0) 0 10 0).1 0 3 = k - 1 := by rw [qI_ne (Or.inr (by decide)), qI_ne (Or.inr (by decide)), qI_ne (Or.inr (by decide)), g2.2 0 (by decide), qI_eq]
      have hG : RX (qI (qI (qI M2 0 8 0) 0 9 0) 0 10 0) b (was (k - 1)) (k - 1) was n t pa sw := by
        refine hF.now (g1.mono (fun a a1 a2 => ?_)) (q7 (k - 1) hk1).2 (Nat.le_refl _) ⟨g2.1, fun a a1 => ?_⟩ (hT _)
        · funext j; rw [qI_ne (Or.inl (by omega)), qI_ne (Or.inl (by omega)), qI_ne (Or.inl (by omega))]
        · funext j
          by_cases e : a = 0 ∧ (j = 8 ∨ j = 9 ∨ j = 10)
          · obtain ⟨rfl, e | e | e⟩ := e <;> subst e <;> simp [qI]
          · by_cases ea : a = 0
            · subst ea
              rw [qI_ne (Or.inr (by omega)), qI_ne (Or.inr (by omega)), qI_ne (Or.inr (by omega)), qI_ne (Or.inr (by omega)), qI_ne (Or.inr (by omega)), qI_ne (Or.inr (by omega)), g2.2 0 (by decide)]
            · rw [qI_ne (Or.inl ea), qI_ne (Or.inl ea), qI_ne (Or.inl ea), qI_ne (Or.inl ea), qI_ne (Or.inl ea), qI_ne (Or.inl ea), g2.2 a a1]
      dsimp only [Option.toList, List.cons_append, List.nil_append, List.append_nil]
      refine T.aload_n (pc' := 41) (q_d dX5_undo_0 21 rfl) rfl rfl rfl ?_
      refine T.getI (pc' := 44) (ci := 5) (k0 := 3) (q_d dX5_undo_0 22 rfl) rfl rfl (by decide) rfl inX5 (by decide) rfl wF_X5_219 e3 ?_
      refine T.iret (q_d dX5_undo_0 23 rfl) rfl rfl rfl ?_
      exact ⟨by unfold oUndo; rw [if_neg h0], pa, sw, by unfold oUndo; rw [if_neg h0]; exact hG⟩
    · exact absurd h4 (by omega)
theorem RX.txt (q : RX M b s k was n t pa sw) {n' : Nat} {t' : Nat → Nat} (h2 : M'.2 = M.2) (ha : ∀ a, a ≠ 18 → a ≠ 19 → M'.1 a = M.1 a) (hx : TX M' n' t') (hw : WT n' t') : RX M' b s k was n' t' pa sw := by
  obtain ⟨q1, q2, q3, q4, q5, q6, q7, q8, q9, q10⟩ := q
  refine ⟨by rw [h2]; exact q1, q2, q3.mono (fun a a1 a2 => ha a (by omega) (by omega)), q4, by rw [ha 0 (by decide) (by decide)]; exact q5, q6, fun i hi => ⟨(q7 i hi).1.mono (fun a a1 a2 => by have := q2.ge (show i < 4 by omega); exact ha a (by omega) (by omega)), (q7 i hi).2⟩, hx, hw, q10.mono (by rw [ha 0 (by decide) (by decide)]; exact ⟨rfl, rfl, rfl⟩) (fun a a1 a2 => ha a (by omega) (by omega))⟩
theorem c_type (hX : RX M b s k was n t pa sw) {u : Nat} (hu : u < 4294967296) : Ct l hdX kX mX5_type [.ref 0, .int (nI u)] M (OX b (oType s k was n t u)) := by
  refine Ct.of [some (.ref 0), some (.int (nI u))] (by decide +kernel) (fun h => absurd h (by decide)) (Nat.le_of_ble_eq_true rfl) rfl ?_
  have e := inS_iff (lo := 32) (hi := 126) hu (by decide) (by decide)
  have hx := hX.2.2.2.2.2.2.2.1
  have hwt := hX.2.2.2.2.2.2.2.2.1
  have h60 := hwt.1
  by_cases a1 : 32 ≤ u ∧ u ≤ 126
  · have z1 : inS u 32 126 = true := e.mpr a1
    by_cases a2 : n < 60
    · refine T.iload_n (pc' := 1) (q_d dX5_type_0 0 rfl) rfl rfl rfl ?_
      refine T.bipush (pc' := 3) (v := nI 32) (q_d dX5_type_0 1 rfl) rfl (by decide) ?_
      refine T.bipush (pc' := 5) (v := nI 126) (q_d dX5_type_0 2 rfl) rfl (by decide) ?_
      refine T.callS (pc' := 8) (q_d dX5_type_0 3 rfl) rfl uX5_isWithin wM_X5_60 (c_isWithin hu (by decide) (hi := 126) (by decide)) rfl rfl (by decide) (Nat.le_of_ble_eq_true rfl) rfl rfl (fun _ => rfl) ?_
      rintro _ _ ⟨rfl, rfl⟩
      dsimp only [Option.toList, List.cons_append, List.nil_append, List.append_nil]
      refine T.if_neN (tgt := 14) (pc' := 11) (q_d dX5_type_0 4 rfl) rfl (by decide) (by split <;> decide) (fun h8 => ?_) (fun h8 => ?_)
      · refine T.aload_n (pc' := 15) (q_d dX5_type_0 7 rfl) rfl rfl rfl ?_
        refine T.getR (pc' := 18) (ci := 5) (k0 := 4) (q_d dX5_type_0 8 rfl) rfl rfl (by decide) rfl inX5 (by decide) rfl wF_X5_26 (rP hX.1 rfl) ?_
        refine T.getI (pc' := 21) (ci := 2) (k0 := 1) (q_d dX5_type_0 9 rfl) rfl rfl (by decide) rfl inX2 (by decide) rfl wF_X5_222 hx.1 ?_
        refine T.bipush (pc' := 23) (v := nI 60) (q_d dX5_type_0 10 rfl) rfl (by decide) ?_
        refine T.icmp_ltN (tgt := 29) (pc' := 26) (q_d dX5_type_0 11 rfl) rfl (by decide) (by omega) (by omega) (fun h23 => ?_) (fun h23 => ?_)
        · refine T.aload_n (pc' := 30) (q_d dX5_type_0 14 rfl) rfl rfl rfl ?_
          refine T.getR (pc' := 33) (ci := 5) (k0 := 4) (q_d dX5_type_0 15 rfl) rfl rfl (by decide) rfl inX5 (by decide) rfl wF_X5_26 (rP hX.1 rfl) ?_
          refine T.iload_n (pc' := 34) (q_d dX5_type_0 16 rfl) rfl rfl rfl ?_
          refine T.i2c (pc' := 35) (q_d dX5_type_0 17 rfl) rfl (i2c_small u (by omega)) ?_
          refine T.callV (pc' := 38) (ci := 2) (q_d dX5_type_0 18 rfl) rfl uX2_append wM_X5_229 (c_append hX.1 hx.1 a2 (show u < 65536 by omega)) rfl rfl (by decide) rfl rfl (by decide) (Nat.le_of_ble_eq_true rfl) rfl rfl (fun _ => rfl) ?_
          rintro _ _ ⟨rfl, rfl⟩
          dsimp only [Option.toList, List.cons_append, List.nil_append, List.append_nil]
          refine T.aload_n (pc' := 39) (q_d dX5_type_0 19 rfl) rfl rfl rfl ?_
          refine T.getR (pc' := 42) (ci := 5) (k0 := 4) (q_d dX5_type_0 20 rfl) rfl rfl (by decide) rfl inX5 (by decide) rfl wF_X5_26 (rP hX.1 rfl) ?_
          refine T.getI (pc' := 45) (ci := 2) (k0 := 1) (q_d dX5_type_0 21 rfl) rfl rfl (by decide) rfl inX2 (by decide) rfl wF_X5_222 qI_eq ?_
          refine T.iret (q_d dX5_type_0 22 rfl) rfl rfl rfl ?_
          unfold oType
          rw [if_pos a1, if_pos a2]
          refine ⟨rfl, pa, sw, hX.txt (n' := n + 1) (t' := up t n u) rfl (fun a h1 h2 => by funext j; rw [qI_ne (Or.inl h1), qI_ne (Or.inl h2)]) ⟨qI_eq, fun i hi => ?_⟩ ⟨a2, fun i hi => ?_⟩⟩
          · rw [qI_ne (Or.inl (by decide))]
            by_cases e9 : i = n
            · subst e9; rw [qI_eq, up_eq]
            · rw [qI_ne (Or.inr e9), up_ne e9]; exact hx.2 i (by omega)
          · by_cases e9 : i = n
            · subst e9; rw [up_eq]; exact a1
            · rw [up_ne e9]; exact hwt.2 i (by omega)
        · exact absurd a2 (by omega)
      · exact absurd h8 (by rw [if_pos z1]; decide)
    · refine T.iload_n (pc' := 1) (q_d dX5_type_0 0 rfl) rfl rfl rfl ?_
      refine T.bipush (pc' := 3) (v := nI 32) (q_d dX5_type_0 1 rfl) rfl (by decide) ?_
      refine T.bipush (pc' := 5) (v := nI 126) (q_d dX5_type_0 2 rfl) rfl (by decide) ?_
      refine T.callS (pc' := 8) (q_d dX5_type_0 3 rfl) rfl uX5_isWithin wM_X5_60 (c_isWithin hu (by decide) (hi := 126) (by decide)) rfl rfl (by decide) (Nat.le_of_ble_eq_true rfl) rfl rfl (fun _ => rfl) ?_
      rintro _ _ ⟨rfl, rfl⟩
      dsimp only [Option.toList, List.cons_append, List.nil_append, List.append_nil]
      refine T.if_neN (tgt := 14) (pc' := 11) (q_d dX5_type_0 4 rfl) rfl (by decide) (by split <;> decide) (fun h8 => ?_) (fun h8 => ?_)
      · refine T.aload_n (pc' := 15) (q_d dX5_type_0 7 rfl) rfl rfl rfl ?_
        refine T.getR (pc' := 18) (ci := 5) (k0 := 4) (q_d dX5_type_0 8 rfl) rfl rfl (by decide) rfl inX5 (by decide) rfl wF_X5_26 (rP hX.1 rfl) ?_
        refine T.getI (pc' := 21) (ci := 2) (k0 := 1) (q_d dX5_type_0 9 rfl) rfl rfl (by decide) rfl inX2 (by decide) rfl wF_X5_222 hx.1 ?_
        refine T.bipush (pc' := 23) (v := nI 60) (q_d dX5_type_0 10 rfl) rfl (by decide) ?_
        refine T.icmp_ltN (tgt := 29) (pc' := 26) (q_d dX5_type_0 11 rfl) rfl (by decide) (by omega) (by omega) (fun h23 => ?_) (fun h23 => ?_)
        · exact absurd h23 a2
        · refine T.ldc (pc' := 28) (v := nI 4293967293) (q_d dX5_type_0 12 rfl) rfl wN_X5_69 ?_
          refine T.iret (q_d dX5_type_0 13 rfl) rfl rfl rfl ?_
          unfold oType
          rw [if_pos a1, if_neg a2]
          exact ⟨rfl, pa, sw, hX⟩
      · exact absurd h8 (by rw [if_pos z1]; decide)
  · have z1 : ¬ inS u 32 126 = true := fun q => a1 (e.mp q)
    refine T.iload_n (pc' := 1) (q_d dX5_type_0 0 rfl) rfl rfl rfl ?_
    refine T.bipush (pc' := 3) (v := nI 32) (q_d dX5_type_0 1 rfl) rfl (by decide) ?_
    refine T.bipush (pc' := 5) (v := nI 126) (q_d dX5_type_0 2 rfl) rfl (by decide) ?_
    refine T.callS (pc' := 8) (q_d dX5_type_0 3 rfl) rfl uX5_isWithin wM_X5_60 (c_isWithin hu (by decide) (hi := 126) (by decide)) rfl rfl (by decide) (Nat.le_of_ble_eq_true rfl) rfl rfl (fun _ => rfl) ?_
    rintro _ _ ⟨rfl, rfl⟩
    dsimp only [Option.toList, List.cons_append, List.nil_append, List.append_nil]
    refine T.if_neN (tgt := 14) (pc' := 11) (q_d dX5_type_0 4 rfl) rfl (by decide) (by split <;> decide) (fun h8 => ?_) (fun h8 => ?_)
    · exact absurd (if_neg z1) h8
    · refine T.ldc (pc' := 13) (v := nI 4293967295) (q_d dX5_type_0 5 rfl) rfl wN_X5_64 ?_
      refine T.iret (q_d dX5_type_0 6 rfl) rfl rfl rfl ?_
      unfold oType
      rw [if_neg a1]
      exact ⟨rfl, pa, sw, hX⟩
theorem c_clearText (hX : RX M b s k was n t pa sw) : Ct l hdX kX mX5_clearText [.ref 0] M (OX b (oClear s k was n t)) := by
  refine Ct.of [some (.ref 0), none] (by decide +kernel) (fun h => absurd h (by decide)) (Nat.le_of_ble_eq_true rfl) rfl ?_
  have hx := hX.2.2.2.2.2.2.2.1
  refine T.aload_n (pc' := 1) (q_d dX5_clearText_0 0 rfl) rfl rfl rfl ?_
  refine T.getR (pc' := 4) (ci := 5) (k0 := 4) (q_d dX5_clearText_0 1 rfl) rfl rfl (by decide) rfl inX5 (by decide) rfl wF_X5_26 (rP hX.1 rfl) ?_
  refine T.getI (pc' := 7) (ci := 2) (k0 := 1) (q_d dX5_clearText_0 2 rfl) rfl rfl (by decide) rfl inX2 (by decide) rfl wF_X5_222 hx.1 ?_
  refine T.istore_n (pc' := 8) (q_d dX5_clearText_0 3 rfl) rfl rfl (by decide) rfl rfl ?_
  refine T.aload_n (pc' := 9) (q_d dX5_clearText_0 4 rfl) rfl rfl rfl ?_
  refine T.getR (pc' := 12) (ci := 5) (k0 := 4) (q_d dX5_clearText_0 5 rfl) rfl rfl (by decide) rfl inX5 (by decide) rfl wF_X5_26 (rP hX.1 rfl) ?_
  refine T.iconst (pc' := 13) (v := nI 0) (q_d dX5_clearText_0 6 rfl) rfl (by decide) ?_
  refine T.putI (pc' := 16) (ci := 2) (k0 := 1) (q_d dX5_clearText_0 7 rfl) rfl rfl (by decide) rfl inX2 tyX2 tyX2_ok nmX2 (by decide) rfl wF_X5_222 rfl rfl rfl ?_
  refine T.iload_n (pc' := 17) (q_d dX5_clearText_0 8 rfl) rfl rfl rfl ?_
  refine T.iret (q_d dX5_clearText_0 9 rfl) rfl rfl rfl ?_
  exact ⟨rfl, pa, sw, hX.txt (n' := 0) (t' := t) rfl (fun a h1 h2 => by funext j; rw [qI_ne (Or.inl h1)]) ⟨qI_eq, fun i hi => absurd hi (Nat.not_lt_zero _)⟩ ⟨by decide, fun i hi => absurd hi (Nat.not_lt_zero _)⟩⟩
theorem c_fault (hX : RX M b s k was n t pa sw) {u : Nat} (hu : u < 4294967296) : Ct l hdX kX mX5_fault [.ref 0, .int (nI u)] M (OX b (qFault s n t u, (s, k, was, n, t))) := by
  refine Ct.of [some (.ref 0), some (.int (nI u)), none] (by decide +kernel) (fun h => absurd h (by decide)) (Nat.le_of_ble_eq_true rfl) rfl ?_
  have e := inS_iff (lo := 0) (hi := 1) hu (by decide) (by decide)
  have hr := runT_le (n := n) (t := t) 60 s 0 0
  by_cases a1 : u ≤ 1
  · have z1 : inS u 0 1 = true := e.mpr ⟨Nat.zero_le _, a1⟩
    refine T.iload_n (pc' := 1) (q_d dX5_fault_0 0 rfl) rfl rfl rfl ?_
    refine T.iconst (pc' := 2) (v := nI 0) (q_d dX5_fault_0 1 rfl) rfl (by decide) ?_
    refine T.iconst (pc' := 3) (v := nI 1) (q_d dX5_fault_0 2 rfl) rfl (by decide) ?_
    refine T.callS (pc' := 6) (q_d dX5_fault_0 3 rfl) rfl uX5_isWithin wM_X5_60 (c_isWithin hu (by decide) (hi := 1) (by decide)) rfl rfl (by decide) (Nat.le_of_ble_eq_true rfl) rfl rfl (fun _ => rfl) ?_
    rintro _ _ ⟨rfl, rfl⟩
    dsimp only [Option.toList, List.cons_append, List.nil_append, List.append_nil]
    refine T.if_neN (tgt := 12) (pc' := 9) (q_d dX5_fault_0 4 rfl) rfl (by decide) (by split <;> decide) (fun h6 => ?_) (fun h6 => ?_)
    · refine T.aload_n (pc' := 13) (q_d dX5_fault_0 7 rfl) rfl rfl rfl ?_
      refine T.callV (pc' := 16) (ci := 5) (q_d dX5_fault_0 8 rfl) rfl uX5_tryText wM_X5_233 (c_tryText hX) rfl rfl (by decide) rfl rfl (by decide) (Nat.le_of_ble_eq_true rfl) rfl rfl (fun _ => rfl) ?_
      rintro _ M2 ⟨rfl, f1, f2, f3, f5, f6, f7⟩
      dsimp only [Option.toList, List.cons_append, List.nil_append, List.append_nil]
      refine T.istore_n (pc' := 17) (q_d dX5_fault_0 9 rfl) rfl rfl (by decide) rfl rfl ?_
      refine T.iload_n (pc' := 18) (q_d dX5_fault_0 10 rfl) rfl rfl rfl ?_
      refine T.if_neN (tgt := 24) (pc' := 21) (q_d dX5_fault_0 11 rfl) rfl (by decide) (by omega) (fun h18 => ?_) (fun h18 => ?_)
      · refine T.iload_n (pc' := 25) (q_d dX5_fault_0 14 rfl) rfl rfl rfl ?_
        refine T.if_neN (tgt := 38) (pc' := 28) (q_d dX5_fault_0 15 rfl) rfl (by decide) (by omega) (fun h25 => ?_) (fun h25 => ?_)
        · refine T.iload_n (pc' := 39) (q_d dX5_fault_0 20 rfl) rfl rfl rfl ?_
          refine T.iret (q_d dX5_fault_0 21 rfl) rfl rfl rfl ?_
          refine ⟨?_, pa, sw, f7⟩
          unfold qFault
          rw [if_pos a1]
          first
            | (rw [if_pos h18]; done)
            | (rw [if_neg h18, if_pos h25]; done)
            | (rw [if_neg h18, if_neg h25]; done)
        · refine T.aload_n (pc' := 29) (q_d dX5_fault_0 16 rfl) rfl rfl rfl ?_
          refine T.getR (pc' := 32) (ci := 5) (k0 := 4) (q_d dX5_fault_0 17 rfl) rfl rfl (by decide) rfl inX5 (by decide) rfl wF_X5_26 (rP (P := pX _ _) (by first | exact f7.1 | exact hX.1) rfl) ?_
          refine T.getI (pc' := 35) (ci := 2) (k0 := 2) (q_d dX5_fault_0 18 rfl) rfl rfl (by decide) rfl inX2 (by decide) rfl wF_X5_236 f5 ?_
          refine T.goto (tgt := 39) (q_d dX5_fault_0 19 rfl) (by decide) ?_
          refine T.iret (q_d dX5_fault_0 21 rfl) rfl rfl rfl ?_
          refine ⟨?_, pa, sw, f7⟩
          unfold qFault
          rw [if_pos a1]
          first
            | (rw [if_pos h18]; done)
            | (rw [if_neg h18, if_pos h25]; done)
            | (rw [if_neg h18, if_neg h25]; done)
      · refine T.ldc (pc' := 23) (v := nI 4293967292) (q_d dX5_fault_0 12 rfl) rfl wN_X5_150 ?_
        refine T.iret (q_d dX5_fault_0 13 rfl) rfl rfl rfl ?_
        refine ⟨?_, pa, sw, f7⟩
        unfold qFault
        rw [if_pos a1]
        first
          | (rw [if_pos h18]; done)
          | (rw [if_neg h18, if_pos h25]; done)
          | (rw [if_neg h18, if_neg h25]; done)
    · exact absurd h6 (by rw [if_pos z1]; decide)
  · have z1 : ¬ inS u 0 1 = true := fun q => a1 (e.mp q).2
    refine T.iload_n (pc' := 1) (q_d dX5_fault_0 0 rfl) rfl rfl rfl ?_
    refine T.iconst (pc' := 2) (v := nI 0) (q_d dX5_fault_0 1 rfl) rfl (by decide) ?_
    refine T.iconst (pc' := 3) (v := nI 1) (q_d dX5_fault_0 2 rfl) rfl (by decide) ?_
    refine T.callS (pc' := 6) (q_d dX5_fault_0 3 rfl) rfl uX5_isWithin wM_X5_60 (c_isWithin hu (by decide) (hi := 1) (by decide)) rfl rfl (by decide) (Nat.le_of_ble_eq_true rfl) rfl rfl (fun _ => rfl) ?_
    rintro _ _ ⟨rfl, rfl⟩
    dsimp only [Option.toList, List.cons_append, List.nil_append, List.append_nil]
    refine T.if_neN (tgt := 12) (pc' := 9) (q_d dX5_fault_0 4 rfl) rfl (by decide) (by split <;> decide) (fun h6 => ?_) (fun h6 => ?_)
    · exact absurd (if_neg z1) h6
    · refine T.ldc (pc' := 11) (v := nI 4293967295) (q_d dX5_fault_0 5 rfl) rfl wN_X5_64 ?_
      refine T.iret (q_d dX5_fault_0 6 rfl) rfl rfl rfl ?_
      exact ⟨by unfold qFault; rw [if_neg a1], pa, sw, hX⟩
theorem c_play (hX : RX M b s k was n t pa sw) : Ct l hdX kX mX5_play [.ref 0] M (OX (b + 60) (oPlay s k was n t)) := by
  refine Ct.of [some (.ref 0)] (by decide +kernel) (fun h => absurd h (by decide)) (Nat.le_of_ble_eq_true rfl) rfl ?_
  have hr := runT_le (n := n) (t := t) 60 s 0 0
  have w7 := hX.2.2.2.1.1
  refine T.aload_n (pc' := 1) (q_d dX5_play_0 0 rfl) rfl rfl rfl ?_
  refine T.callV (pc' := 4) (ci := 5) (q_d dX5_play_0 1 rfl) rfl uX5_tryText wM_X5_233 (c_tryText hX) rfl rfl (by decide) rfl rfl (by decide) (Nat.le_of_ble_eq_true rfl) rfl rfl (fun _ => rfl) ?_
  rintro _ M2 ⟨rfl, f1, f2, f3, f5, f6, f7⟩
  dsimp only [Option.toList, List.cons_append, List.nil_append, List.append_nil]
  refine T.if_eqN (tgt := 10) (pc' := 7) (q_d dX5_play_0 2 rfl) rfl (by decide) (by omega) (fun h4 => ?_) (fun h4 => ?_)
  · refine T.aload_n (pc' := 11) (q_d dX5_play_0 5 rfl) rfl rfl rfl ?_
    refine T.callV (pc' := 14) (ci := 5) (q_d dX5_play_0 6 rfl) rfl uX5_record wM_X5_70 (c_record f7) rfl rfl (by decide) rfl rfl (by decide) (Nat.le_of_ble_eq_true rfl) rfl rfl (fun _ => rfl) ?_
    rintro _ M3 ⟨rfl, ⟨pa2, r1⟩, r2, r3, r4⟩
    dsimp only [Option.toList, List.cons_append, List.nil_append, List.append_nil]
    refine T.aload_n (pc' := 15) (q_d dX5_play_0 7 rfl) rfl rfl rfl ?_
    refine T.getR (pc' := 18) (ci := 5) (k0 := 0) (q_d dX5_play_0 8 rfl) rfl rfl (by decide) rfl inX5 (by decide) rfl wF_X5_10 (rP (P := pX _ _) (by first | exact hG.1 | exact r1.1 | exact hX.1) rfl) ?_
    refine T.aload_n (pc' := 19) (q_d dX5_play_0 9 rfl) rfl rfl rfl ?_
    refine T.getR (pc' := 22) (ci := 5) (k0 := 1) (q_d dX5_play_0 10 rfl) rfl rfl (by decide) rfl inX5 (by decide) rfl wF_X5_16 (rP (P := pX _ _) (by first | exact hG.1 | exact r1.1 | exact hX.1) rfl) ?_
    refine T.callV (pc' := 25) (ci := 3) (q_d dX5_play_0 11 rfl) rfl uX3_takeFrom wM_X5_225 (c_takeFrom (Or.inl rfl) (Or.inr (Or.inl rfl)) (show 1 + 8 ≤ 9 ∨ 9 + 8 ≤ 1 from Or.inl (by decide)) r1.1 (f1.mono (fun a a1 a2 => r3 a (by omega) (by omega)))) rfl rfl (by decide) rfl rfl (by decide) (Nat.le_of_ble_eq_true rfl) rfl rfl (fun _ => rfl) ?_
    rintro _ M4 ⟨rfl, g1, g2⟩
    have hG : RX M4 (b + 60) (runT n t 60 s 0 0).2.1 (pushK k) (pushW k was s) n t pa2 sw := r1.now g1 f2 (by omega) g2 (f3.lTb w7 r1.2.2.2.2.2.2.2.2.2)
    dsimp only [Option.toList, List.cons_append, List.nil_append, List.append_nil]
    refine T.aload_n (pc' := 26) (q_d dX5_play_0 12 rfl) rfl rfl rfl ?_
    refine T.getR (pc' := 29) (ci := 5) (k0 := 4) (q_d dX5_play_0 13 rfl) rfl rfl (by decide) rfl inX5 (by decide) rfl wF_X5_26 (rP (P := pX _ _) (by first | exact hG.1 | exact r1.1 | exact hX.1) rfl) ?_
    refine T.getI (pc' := 32) (ci := 2) (k0 := 3) (q_d dX5_play_0 14 rfl) rfl rfl (by decide) rfl inX2 (by decide) rfl wF_X5_239 (show M4.1 18 3 = (runT n t 60 s 0 0).2.2.2 by rw [g2.2 18 (by decide), r3 18 (by decide) (by decide)]; exact f6) ?_
    refine T.iret (q_d dX5_play_0 15 rfl) rfl rfl rfl ?_
    unfold oPlay
    rw [if_pos h4]
    exact ⟨rfl, pa2, sw, hG⟩
  · refine T.ldc (pc' := 9) (v := nI 4293967294) (q_d dX5_play_0 3 rfl) rfl wN_X5_87 ?_
    refine T.iret (q_d dX5_play_0 4 rfl) rfl rfl rfl ?_
    unfold oPlay
    rw [if_neg h4]
    exact ⟨rfl, pa, sw, f7.le (by omega)⟩
end CX5E
