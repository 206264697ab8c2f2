/-! BlindHunts: what is told -/
def qPlaceOf (s : Nat → Nat) (u v : Nat) : Nat := if u < s 0 then (if v = 0 then s (7 + u) else if v = 1 then s (14 + u) else if v = 2 then s (21 + u) else if v = 3 then goes s u 0 else if v = 4 then s 1 >>> u &&& 1 else 4293967295) else 4293967295
def qBehind (s : Nat → Nat) (u v w : Nat) : Nat := if (u < 2 ^ s 0 ∧ v < 2 ^ s 0) ∧ (w = 4294967295 ∨ w ≤ 3) then thn s u v (if w = 4294967295 then 4 else w) else 4293967295
def qSure (s : Nat → Nat) (u v : Nat) : Nat := if u < 2 ^ s 0 ∧ v ≤ 1 then (if (solN s 0 3 127).1 u = 1000 then 4293967292 else if v = 0 then (solN s 0 3 127).1 u else (solN s 0 3 127).2 u) else 4293967295
def qDeaf (s : Nat → Nat) (u : Nat) : Nat := if u < 2 ^ s 0 then (if (solN s 4 4 127).1 u = 1000 then 4293967292 else (solN s 4 4 127).1 u) else 4293967295
def qMemory (s : Nat → Nat) (u : Nat) : Nat := if u < 2 ^ s 0 then (if (solN s 0 3 127).1 u = 1000 then 4293967292 else comingN s (solN s 0 3 127).1 (solN s 0 3 127).2 u) else 4293967295
def qBeliefs (s : Nat → Nat) (u : Nat) : Nat := if u = 0 then 2 ^ s 0 - 1 else if u = 1 then nset (solN s 0 3 127).1 (2 ^ s 0 - 1) else if u = 2 then mostTo (solN s 0 3 127).1 (2 ^ s 0 - 1) else if u = 3 then (hardN (solN s 0 3 127).1 (mostTo (solN s 0 3 127).1 (2 ^ s 0 - 1)) (2 ^ s 0)).getD 4293967292 else if u = 4 then nset (solN s 4 4 127).1 (2 ^ s 0 - 1) else 4293967295
theorem sw_out {v hi : Nat} (hv : v < 4294967296) (h : hi < v) (hh : hi < 2147483648) : (nI v).toInt < 0 ∨ (hi : Int) < (nI v).toInt := by
  rw [nN_sI hv]; unfold sI; split <;> omega
theorem w_neg : ¬ (0 : Int32) ≤ nI 4294967295 := by decide
theorem w_pos {w : Nat} (h : w ≤ 3) : (0 : Int32) ≤ nI w := by
  have := (nN_le (a := 0) (b := w) (by decide) (by omega)).mpr (Nat.zero_le _)
  exact this
section CX5D
variable {l : Launch} {M M' : qM} {b b' : Nat} {s s' : Nat → Nat} {k : Nat} {was : Nat → Nat → Nat} {n : Nat} {t pa : Nat → Nat} {sw : Bool}
theorem RX.c38 (q : RX M b s k was n t pa sw) (h2 : M'.2 = M.2) (ha : ∀ a, a ≠ 38 → M'.1 a = M.1 a) : RX M' b s k was n t pa sw := by
  obtain ⟨q1, q2, q3, q4, q5, q6, q7, q8, q9, q10⟩ := q
  refine ⟨by rw [h2]; exact q1, q2, q3.mono (fun a a1 a2 => ha a (by omega)), q4, by rw [ha 0 (by decide)]; exact q5, q6, fun i hi => ⟨(q7 i hi).1.mono (fun a a1 a2 => by have := q2.ge (show i < 4 by omega); exact ha a (by omega)), (q7 i hi).2⟩, ⟨by rw [ha 18 (by decide)]; exact q8.1, fun i hi => by rw [ha 19 (by decide)]; exact q8.2 i hi⟩, q9, q10.mono (by rw [ha 0 (by decide)]; exact ⟨rfl, rfl, rfl⟩) (fun a a1 a2 => ha a (by omega))⟩
theorem c_placeOf (hX : RX M b s k was n t pa sw) {u v : Nat} (hu : u < 4294967296) (hv : v < 4294967296) : Ct l hdX kX mX5_placeOf [.ref 0, .int (nI u), .int (nI v)] M (OX b (qPlaceOf s u v, (s, k, was, n, t))) := by
  refine Ct.of [some (.ref 0), some (.int (nI u)), some (.int (nI v))] (by decide +kernel) (fun h => absurd h (by decide)) (Nat.le_of_ble_eq_true rfl) rfl ?_
  have w7 := hX.2.2.2.1.1
  have w0 := p2_le w7
  have w1 := hX.2.2.2.1.2.1
  have ho : SO 1 := Or.inl rfl
  obtain ⟨e0, e1, e2, e3, e4, e5, e6, e7⟩ := hX.2.2.1
  by_cases a1 : u < s 0
  · refine T.aload_n (pc' := 1) (q_d dX5_placeOf_0 0 rfl) rfl rfl rfl ?_
    refine T.iload_n (pc' := 2) (q_d dX5_placeOf_0 1 rfl) rfl rfl rfl ?_
    refine T.callV (pc' := 5) (ci := 5) (q_d dX5_placeOf_0 2 rfl) rfl uX5_isPlace wM_X5_141 (c_isPlace hX.1 hX.2.2.1 hX.2.2.2.1 hu) rfl rfl (by decide) rfl rfl (by decide) (Nat.le_of_ble_eq_true rfl) rfl rfl (fun _ => rfl) ?_
    rintro _ _ ⟨rfl, rfl⟩
    dsimp only [Option.toList, List.cons_append, List.nil_append, List.append_nil]
    refine T.if_neN (tgt := 11) (pc' := 8) (q_d dX5_placeOf_0 3 rfl) rfl (by decide) (by split <;> decide) (fun h5 => ?_) (fun h5 => ?_)
    · refine T.iload_n (pc' := 12) (q_d dX5_placeOf_0 6 rfl) rfl rfl rfl ?_
      rcases (by omega : v = 0 ∨ v = 1 ∨ v = 2 ∨ v = 3 ∨ v = 4 ∨ 4 < v) with rfl | rfl | rfl | rfl | rfl | h12
      · refine T.tableIn (tgt := 48) (q_d dX5_placeOf_0 7 rfl) (by decide +kernel) (by decide +kernel) (off := 36) (by decide +kernel) (by decide) ?_
        refine T.aload_n (pc' := 49) (q_d dX5_placeOf_0 8 rfl) rfl rfl rfl ?_
        refine T.getR (pc' := 52) (ci := 5) (k0 := 0) (q_d dX5_placeOf_0 9 rfl) rfl rfl (by decide) rfl inX5 (by decide) rfl wF_X5_10 (rP hX.1 rfl) ?_
        refine T.getR (pc' := 55) (ci := 3) (k0 := 1) (q_d dX5_placeOf_0 10 rfl) rfl rfl (by decide) rfl inX3 (by decide) rfl wF_X5_144 (rP hX.1 rfl) ?_
        refine T.iload_n (pc' := 56) (q_d dX5_placeOf_0 11 rfl) rfl rfl rfl ?_
        refine T.iald (pc' := 57) (q_d dX5_placeOf_0 12 rfl) rfl rfl (by decide) rfl (by omega) (by decide) (e3 u (by omega)) ?_
        refine T.iret (q_d dX5_placeOf_0 13 rfl) rfl rfl rfl ?_
        exact ⟨by simp [qPlaceOf, a1], pa, sw, hX⟩
      · refine T.tableIn (tgt := 58) (q_d dX5_placeOf_0 7 rfl) (by decide +kernel) (by decide +kernel) (off := 46) (by decide +kernel) (by decide) ?_
        refine T.aload_n (pc' := 59) (q_d dX5_placeOf_0 14 rfl) rfl rfl rfl ?_
        refine T.getR (pc' := 62) (ci := 5) (k0 := 0) (q_d dX5_placeOf_0 15 rfl) rfl rfl (by decide) rfl inX5 (by decide) rfl wF_X5_10 (rP hX.1 rfl) ?_
        refine T.getR (pc' := 65) (ci := 3) (k0 := 2) (q_d dX5_placeOf_0 16 rfl) rfl rfl (by decide) rfl inX3 (by decide) rfl wF_X5_91 (rP hX.1 rfl) ?_
        refine T.iload_n (pc' := 66) (q_d dX5_placeOf_0 17 rfl) rfl rfl rfl ?_
        refine T.iald (pc' := 67) (q_d dX5_placeOf_0 18 rfl) rfl rfl (by decide) rfl (by omega) (by decide) (e4 u (by omega)) ?_
        refine T.iret (q_d dX5_placeOf_0 19 rfl) rfl rfl rfl ?_
        exact ⟨by simp [qPlaceOf, a1], pa, sw, hX⟩
      · refine T.tableIn (tgt := 68) (q_d dX5_placeOf_0 7 rfl) (by decide +kernel) (by decide +kernel) (off := 56) (by decide +kernel) (by decide) ?_
        refine T.aload_n (pc' := 69) (q_d dX5_placeOf_0 20 rfl) rfl rfl rfl ?_
        refine T.getR (pc' := 72) (ci := 5) (k0 := 0) (q_d dX5_placeOf_0 21 rfl) rfl rfl (by decide) rfl inX5 (by decide) rfl wF_X5_10 (rP hX.1 rfl) ?_
        refine T.getR (pc' := 75) (ci := 3) (k0 := 3) (q_d dX5_placeOf_0 22 rfl) rfl rfl (by decide) rfl inX3 (by decide) rfl wF_X5_105 (rP hX.1 rfl) ?_
        refine T.iload_n (pc' := 76) (q_d dX5_placeOf_0 23 rfl) rfl rfl rfl ?_
        refine T.iald (pc' := 77) (q_d dX5_placeOf_0 24 rfl) rfl rfl (by decide) rfl (by omega) (by decide) (e5 u (by omega)) ?_
        refine T.iret (q_d dX5_placeOf_0 25 rfl) rfl rfl rfl ?_
        exact ⟨by simp [qPlaceOf, a1], pa, sw, hX⟩
      · refine T.tableIn (tgt := 78) (q_d dX5_placeOf_0 7 rfl) (by decide +kernel) (by decide +kernel) (off := 66) (by decide +kernel) (by decide) ?_
        refine T.aload_n (pc' := 79) (q_d dX5_placeOf_0 26 rfl) rfl rfl rfl ?_
        refine T.getR (pc' := 82) (ci := 5) (k0 := 0) (q_d dX5_placeOf_0 27 rfl) rfl rfl (by decide) rfl inX5 (by decide) rfl wF_X5_10 (rP hX.1 rfl) ?_
        refine T.iload_n (pc' := 83) (q_d dX5_placeOf_0 28 rfl) rfl rfl rfl ?_
        refine T.callV (pc' := 86) (ci := 3) (q_d dX5_placeOf_0 29 rfl) rfl uX3_reach wM_X5_147 (c_reach ho hX.1 hX.2.2.1 hX.2.2.2.1 a1) rfl rfl (by decide) rfl rfl (by decide) (Nat.le_of_ble_eq_true rfl) rfl rfl (fun _ => rfl) ?_
        rintro _ _ ⟨rfl, rfl⟩
        dsimp only [Option.toList, List.cons_append, List.nil_append, List.append_nil]
        refine T.iret (q_d dX5_placeOf_0 30 rfl) rfl rfl rfl ?_
        exact ⟨by simp [qPlaceOf, a1], pa, sw, hX⟩
      · refine T.tableIn (tgt := 87) (q_d dX5_placeOf_0 7 rfl) (by decide +kernel) (by decide +kernel) (off := 75) (by decide +kernel) (by decide) ?_
        refine T.aload_n (pc' := 88) (q_d dX5_placeOf_0 31 rfl) rfl rfl rfl ?_
        refine T.getR (pc' := 91) (ci := 5) (k0 := 0) (q_d dX5_placeOf_0 32 rfl) rfl rfl (by decide) rfl inX5 (by decide) rfl wF_X5_10 (rP hX.1 rfl) ?_
        refine T.getI (pc' := 94) (ci := 3) (k0 := 5) (q_d dX5_placeOf_0 33 rfl) rfl rfl (by decide) rfl inX3 (by decide) rfl wF_X5_118 e1 ?_
        refine T.iload_n (pc' := 95) (q_d dX5_placeOf_0 34 rfl) rfl rfl rfl ?_
        refine T.ishr (pc' := 96) (q_d dX5_placeOf_0 35 rfl) rfl (nN_shr (by omega) (by omega)) ?_
        refine T.iconst (pc' := 97) (v := nI 1) (q_d dX5_placeOf_0 36 rfl) rfl (by decide) ?_
        refine T.iand (pc' := 98) (q_d dX5_placeOf_0 37 rfl) rfl (nN_and _ _) ?_
        refine T.iret (q_d dX5_placeOf_0 38 rfl) rfl rfl rfl ?_
        exact ⟨by simp [qPlaceOf, a1], pa, sw, hX⟩
      · refine T.tableOut (tgt := 99) (q_d dX5_placeOf_0 7 rfl) (sw_out hv h12 (by decide)) (by decide) ?_
        refine T.ldc (pc' := 101) (v := nI 4293967295) (q_d dX5_placeOf_0 39 rfl) rfl wN_X5_64 ?_
        refine T.iret (q_d dX5_placeOf_1 0 rfl) rfl rfl rfl ?_
        exact ⟨by unfold qPlaceOf; rw [if_pos a1, if_neg (by omega), if_neg (by omega), if_neg (by omega), if_neg (by omega), if_neg (by omega)], pa, sw, hX⟩
    · exact absurd h5 (by rw [if_pos a1]; decide)
  · refine T.aload_n (pc' := 1) (q_d dX5_placeOf_0 0 rfl) rfl rfl rfl ?_
    refine T.iload_n (pc' := 2) (q_d dX5_placeOf_0 1 rfl) rfl rfl rfl ?_
    refine T.callV (pc' := 5) (ci := 5) (q_d dX5_placeOf_0 2 rfl) rfl uX5_isPlace wM_X5_141 (c_isPlace hX.1 hX.2.2.1 hX.2.2.2.1 hu) rfl rfl (by decide) rfl rfl (by decide) (Nat.le_of_ble_eq_true rfl) rfl rfl (fun _ => rfl) ?_
    rintro _ _ ⟨rfl, rfl⟩
    dsimp only [Option.toList, List.cons_append, List.nil_append, List.append_nil]
    refine T.if_neN (tgt := 11) (pc' := 8) (q_d dX5_placeOf_0 3 rfl) rfl (by decide) (by split <;> decide) (fun h5 => ?_) (fun h5 => ?_)
    · exact absurd (if_neg a1) h5
    · refine T.ldc (pc' := 10) (v := nI 4293967295) (q_d dX5_placeOf_0 4 rfl) rfl wN_X5_64 ?_
      refine T.iret (q_d dX5_placeOf_0 5 rfl) rfl rfl rfl ?_
      exact ⟨by unfold qPlaceOf; rw [if_neg a1], pa, sw, hX⟩
theorem c_behind (hX : RX M b s k was n t pa sw) {u v w : Nat} (hu : u < 4294967296) (hv : v < 4294967296) (hw9 : w < 4294967296) : Ct l hdX kX mX5_behind [.ref 0, .int (nI u), .int (nI v), .int (nI w)] M (OX b (qBehind s u v w, (s, k, was, n, t))) := by
  refine Ct.of [some (.ref 0), some (.int (nI u)), some (.int (nI v)), some (.int (nI w))] (by decide +kernel) (fun h => absurd h (by decide)) (Nat.le_of_ble_eq_true rfl) rfl ?_
  have e := inS_m1 hw9
  by_cases a1 : u < 2 ^ s 0
  · by_cases a2 : v < 2 ^ s 0
    · by_cases a3 : w = 4294967295 ∨ w ≤ 3
      · have z3 := e.mpr a3
        refine T.aload_n (pc' := 1) (q_d dX5_behind_0 0 rfl) rfl rfl rfl ?_
        refine T.iload_n (pc' := 2) (q_d dX5_behind_0 1 rfl) rfl rfl rfl ?_
        refine T.callV (pc' := 5) (ci := 5) (q_d dX5_behind_0 2 rfl) rfl uX5_isSet wM_X5_114 (c_isSet hX.1 hX.2.2.1 hX.2.2.2.1 hu) rfl rfl (by decide) rfl rfl (by decide) (Nat.le_of_ble_eq_true rfl) rfl rfl (fun _ => rfl) ?_
        rintro _ _ ⟨rfl, rfl⟩
        dsimp only [Option.toList, List.cons_append, List.nil_append, List.append_nil]
        refine T.if_eqN (tgt := 25) (pc' := 8) (q_d dX5_behind_0 3 rfl) rfl (by decide) (by split <;> decide) (fun h5 => ?_) (fun h5 => ?_)
        · exact absurd h5 (by rw [if_pos a1]; decide)
        · refine T.aload_n (pc' := 9) (q_d dX5_behind_0 4 rfl) rfl rfl rfl ?_
          refine T.iload_n (pc' := 10) (q_d dX5_behind_0 5 rfl) rfl rfl rfl ?_
          refine T.callV (pc' := 13) (ci := 5) (q_d dX5_behind_0 6 rfl) rfl uX5_isSet wM_X5_114 (c_isSet hX.1 hX.2.2.1 hX.2.2.2.1 hv) rfl rfl (by decide) rfl rfl (by decide) (Nat.le_of_ble_eq_true rfl) rfl rfl (fun _ => rfl) ?_
          rintro _ _ ⟨rfl, rfl⟩
          dsimp only [Option.toList, List.cons_append, List.nil_append, List.append_nil]
          refine T.if_eqN (tgt := 25) (pc' := 16) (q_d dX5_behind_0 7 rfl) rfl (by decide) (by split <;> decide) (fun h13 => ?_) (fun h13 => ?_)
          · exact absurd h13 (by rw [if_pos a2]; decide)
          · refine T.iload_n (pc' := 17) (q_d dX5_behind_0 8 rfl) rfl rfl rfl ?_
            refine T.iconst (pc' := 18) (v := nI 4294967295) (q_d dX5_behind_0 9 rfl) rfl (by decide) ?_
            refine T.iconst (pc' := 19) (v := nI 3) (q_d dX5_behind_0 10 rfl) rfl (by decide) ?_
            refine T.callS (pc' := 22) (q_d dX5_behind_0 11 rfl) rfl uX5_isWithin wM_X5_60 (c_isWithin hw9 (lo := 4294967295) (by decide) (hi := 3) (by decide)) rfl rfl (by decide) (Nat.le_of_ble_eq_true rfl) rfl rfl (fun _ => rfl) ?_
            rintro _ _ ⟨rfl, rfl⟩
            dsimp only [Option.toList, List.cons_append, List.nil_append, List.append_nil]
            refine T.if_neN (tgt := 28) (pc' := 25) (q_d dX5_behind_0 12 rfl) rfl (by decide) (by split <;> decide) (fun h22 => ?_) (fun h22 => ?_)
            · refine T.aload_n (pc' := 29) (q_d dX5_behind_0 15 rfl) rfl rfl rfl ?_
              refine T.callV (pc' := 32) (ci := 5) (q_d dX5_behind_0 16 rfl) rfl uX5_standingMoves wM_X5_129 (c_standingMoves hX) rfl rfl (by decide) rfl rfl (by decide) (Nat.le_of_ble_eq_true rfl) rfl rfl (fun _ => rfl) ?_
              rintro _ M2 ⟨rfl, e8, e9, e10, f28, fT, hTb⟩
              have hXb := hX.tb fT hTb
              dsimp only [Option.toList, List.cons_append, List.nil_append, List.append_nil]
              refine T.iload_n (pc' := 33) (q_d dX5_behind_0 17 rfl) rfl rfl rfl ?_
              refine T.iload_n (pc' := 34) (q_d dX5_behind_0 18 rfl) rfl rfl rfl ?_
              refine T.iload_n (pc' := 35) (q_d dX5_behind_0 19 rfl) rfl rfl rfl ?_
              refine T.if_ge (tgt := 42) (pc' := 38) (q_d dX5_behind_0 20 rfl) rfl (by decide)  (fun h35 => ?_) (fun h35 => ?_)
              · refine T.iload_n (pc' := 43) (q_d dX5_behind_0 23 rfl) rfl rfl rfl ?_
                refine T.callV (pc' := 46) (ci := 1) (q_d dX5_behind_0 24 rfl) rfl uX1_after wM_X5_163 (c_after hXb.1 hXb.2.2.2.1 (hTb.2.2.2.1 e8) a1 (by first | decide | (rcases a3 with a3 | a3; (rw [a3] at h35; exact absurd h35 w_neg); omega))) rfl rfl (by decide) rfl rfl (by decide) (Nat.le_of_ble_eq_true rfl) rfl rfl (fun _ => rfl) ?_
                rintro _ _ ⟨rfl, rfl⟩
                dsimp only [Option.toList, List.cons_append, List.nil_append, List.append_nil]
                refine T.iret (q_d dX5_behind_0 25 rfl) rfl rfl rfl ?_
                refine ⟨?_, pa, sw, hXb⟩
                unfold qBehind
                rw [if_pos ⟨⟨a1, a2⟩, a3⟩]
                rcases a3 with a3 | a3
                · first
                  | (rw [if_pos a3]; done)
                  | (rw [a3] at h35; exact absurd h35 w_neg)
                · first
                  | (rw [if_neg (by omega)]; done)
                  | exact absurd (w_pos a3) h35
              · refine T.iconst (pc' := 39) (v := nI 4) (q_d dX5_behind_0 21 rfl) rfl (by decide) ?_
                refine T.goto (tgt := 43) (q_d dX5_behind_0 22 rfl) (by decide) ?_
                refine T.callV (pc' := 46) (ci := 1) (q_d dX5_behind_0 24 rfl) rfl uX1_after wM_X5_163 (c_after hXb.1 hXb.2.2.2.1 (hTb.2.2.2.1 e8) a1 (by first | decide | (rcases a3 with a3 | a3; (rw [a3] at h35; exact absurd h35 w_neg); omega))) rfl rfl (by decide) rfl rfl (by decide) (Nat.le_of_ble_eq_true rfl) rfl rfl (fun _ => rfl) ?_
                rintro _ _ ⟨rfl, rfl⟩
                dsimp only [Option.toList, List.cons_append, List.nil_append, List.append_nil]
                refine T.iret (q_d dX5_behind_0 25 rfl) rfl rfl rfl ?_
                refine ⟨?_, pa, sw, hXb⟩
                unfold qBehind
                rw [if_pos ⟨⟨a1, a2⟩, a3⟩]
                rcases a3 with a3 | a3
                · first
                  | (rw [if_pos a3]; done)
                  | (rw [a3] at h35; exact absurd h35 w_neg)
                · first
                  | (rw [if_neg (by omega)]; done)
                  | exact absurd (w_pos a3) h35
            · exact absurd h22 (by rw [if_pos z3]; decide)
      · have z3 : ¬ inS w 4294967295 3 = true := fun q => a3 (e.mp q)
        refine T.aload_n (pc' := 1) (q_d dX5_behind_0 0 rfl) rfl rfl rfl ?_
        refine T.iload_n (pc' := 2) (q_d dX5_behind_0 1 rfl) rfl rfl rfl ?_
        refine T.callV (pc' := 5) (ci := 5) (q_d dX5_behind_0 2 rfl) rfl uX5_isSet wM_X5_114 (c_isSet hX.1 hX.2.2.1 hX.2.2.2.1 hu) rfl rfl (by decide) rfl rfl (by decide) (Nat.le_of_ble_eq_true rfl) rfl rfl (fun _ => rfl) ?_
        rintro _ _ ⟨rfl, rfl⟩
        dsimp only [Option.toList, List.cons_append, List.nil_append, List.append_nil]
        refine T.if_eqN (tgt := 25) (pc' := 8) (q_d dX5_behind_0 3 rfl) rfl (by decide) (by split <;> decide) (fun h5 => ?_) (fun h5 => ?_)
        · exact absurd h5 (by rw [if_pos a1]; decide)
        · refine T.aload_n (pc' := 9) (q_d dX5_behind_0 4 rfl) rfl rfl rfl ?_
          refine T.iload_n (pc' := 10) (q_d dX5_behind_0 5 rfl) rfl rfl rfl ?_
          refine T.callV (pc' := 13) (ci := 5) (q_d dX5_behind_0 6 rfl) rfl uX5_isSet wM_X5_114 (c_isSet hX.1 hX.2.2.1 hX.2.2.2.1 hv) rfl rfl (by decide) rfl rfl (by decide) (Nat.le_of_ble_eq_true rfl) rfl rfl (fun _ => rfl) ?_
          rintro _ _ ⟨rfl, rfl⟩
          dsimp only [Option.toList, List.cons_append, List.nil_append, List.append_nil]
          refine T.if_eqN (tgt := 25) (pc' := 16) (q_d dX5_behind_0 7 rfl) rfl (by decide) (by split <;> decide) (fun h13 => ?_) (fun h13 => ?_)
          · exact absurd h13 (by rw [if_pos a2]; decide)
          · refine T.iload_n (pc' := 17) (q_d dX5_behind_0 8 rfl) rfl rfl rfl ?_
            refine T.iconst (pc' := 18) (v := nI 4294967295) (q_d dX5_behind_0 9 rfl) rfl (by decide) ?_
            refine T.iconst (pc' := 19) (v := nI 3) (q_d dX5_behind_0 10 rfl) rfl (by decide) ?_
            refine T.callS (pc' := 22) (q_d dX5_behind_0 11 rfl) rfl uX5_isWithin wM_X5_60 (c_isWithin hw9 (lo := 4294967295) (by decide) (hi := 3) (by decide)) rfl rfl (by decide) (Nat.le_of_ble_eq_true rfl) rfl rfl (fun _ => rfl) ?_
            rintro _ _ ⟨rfl, rfl⟩
            dsimp only [Option.toList, List.cons_append, List.nil_append, List.append_nil]
            refine T.if_neN (tgt := 28) (pc' := 25) (q_d dX5_behind_0 12 rfl) rfl (by decide) (by split <;> decide) (fun h22 => ?_) (fun h22 => ?_)
            · exact absurd (if_neg z3) h22
            · refine T.ldc (pc' := 27) (v := nI 4293967295) (q_d dX5_behind_0 13 rfl) rfl wN_X5_64 ?_
              refine T.iret (q_d dX5_behind_0 14 rfl) rfl rfl rfl ?_
              exact ⟨by unfold qBehind; rw [if_neg (fun q => a3 q.2)], pa, sw, hX⟩
    · refine T.aload_n (pc' := 1) (q_d dX5_behind_0 0 rfl) rfl rfl rfl ?_
      refine T.iload_n (pc' := 2) (q_d dX5_behind_0 1 rfl) rfl rfl rfl ?_
      refine T.callV (pc' := 5) (ci := 5) (q_d dX5_behind_0 2 rfl) rfl uX5_isSet wM_X5_114 (c_isSet hX.1 hX.2.2.1 hX.2.2.2.1 hu) rfl rfl (by decide) rfl rfl (by decide) (Nat.le_of_ble_eq_true rfl) rfl rfl (fun _ => rfl) ?_
      rintro _ _ ⟨rfl, rfl⟩
      dsimp only [Option.toList, List.cons_append, List.nil_append, List.append_nil]
      refine T.if_eqN (tgt := 25) (pc' := 8) (q_d dX5_behind_0 3 rfl) rfl (by decide) (by split <;> decide) (fun h5 => ?_) (fun h5 => ?_)
      · exact absurd h5 (by rw [if_pos a1]; decide)
      · refine T.aload_n (pc' := 9) (q_d dX5_behind_0 4 rfl) rfl rfl rfl ?_
        refine T.iload_n (pc' := 10) (q_d dX5_behind_0 5 rfl) rfl rfl rfl ?_
        refine T.callV (pc' := 13) (ci := 5) (q_d dX5_behind_0 6 rfl) rfl uX5_isSet wM_X5_114 (c_isSet hX.1 hX.2.2.1 hX.2.2.2.1 hv) rfl rfl (by decide) rfl rfl (by decide) (Nat.le_of_ble_eq_true rfl) rfl rfl (fun _ => rfl) ?_
        rintro _ _ ⟨rfl, rfl⟩
        dsimp only [Option.toList, List.cons_append, List.nil_append, List.append_nil]
        refine T.if_eqN (tgt := 25) (pc' := 16) (q_d dX5_behind_0 7 rfl) rfl (by decide) (by split <;> decide) (fun h13 => ?_) (fun h13 => ?_)
        · refine T.ldc (pc' := 27) (v := nI 4293967295) (q_d dX5_behind_0 13 rfl) rfl wN_X5_64 ?_
          refine T.iret (q_d dX5_behind_0 14 rfl) rfl rfl rfl ?_
          exact ⟨by unfold qBehind; rw [if_neg (fun q => a2 q.1.2)], pa, sw, hX⟩
        · exact absurd (if_neg a2) h13
  · refine T.aload_n (pc' := 1) (q_d dX5_behind_0 0 rfl) rfl rfl rfl ?_
    refine T.iload_n (pc' := 2) (q_d dX5_behind_0 1 rfl) rfl rfl rfl ?_
    refine T.callV (pc' := 5) (ci := 5) (q_d dX5_behind_0 2 rfl) rfl uX5_isSet wM_X5_114 (c_isSet hX.1 hX.2.2.1 hX.2.2.2.1 hu) rfl rfl (by decide) rfl rfl (by decide) (Nat.le_of_ble_eq_true rfl) rfl rfl (fun _ => rfl) ?_
    rintro _ _ ⟨rfl, rfl⟩
    dsimp only [Option.toList, List.cons_append, List.nil_append, List.append_nil]
    refine T.if_eqN (tgt := 25) (pc' := 8) (q_d dX5_behind_0 3 rfl) rfl (by decide) (by split <;> decide) (fun h5 => ?_) (fun h5 => ?_)
    · refine T.ldc (pc' := 27) (v := nI 4293967295) (q_d dX5_behind_0 13 rfl) rfl wN_X5_64 ?_
      refine T.iret (q_d dX5_behind_0 14 rfl) rfl rfl rfl ?_
      exact ⟨by unfold qBehind; rw [if_neg (fun q => a1 q.1.1)], pa, sw, hX⟩
    · exact absurd (if_neg a1) h5
theorem c_sure (hX : RX M b s k was n t pa sw) {u v : Nat} (hu : u < 4294967296) (hv : v < 4294967296) : Ct l hdX kX mX5_sure [.ref 0, .int (nI u), .int (nI v)] M (OX b (qSure s u v, (s, k, was, n, t))) := by
  refine Ct.of [some (.ref 0), some (.int (nI u)), some (.int (nI v)), none] (by decide +kernel) (fun h => absurd h (by decide)) (Nat.le_of_ble_eq_true rfl) rfl ?_
  have e := inS_iff (lo := 0) (hi := 1) hv (by decide) (by decide)
  have w0 := p2_le hX.2.2.2.1.1
  have nv := sol_vals (s := s) (g0 := 0) (g1 := 3) u
  have nl := nc_lt nv
  have nm := nc_m1 nv
  by_cases a1 : u < 2 ^ s 0
  · by_cases a2 : v ≤ 1
    · have z2 : inS v 0 1 = true := e.mpr ⟨Nat.zero_le _, a2⟩
      refine T.aload_n (pc' := 1) (q_d dX5_sure_0 0 rfl) rfl rfl rfl ?_
      refine T.iload_n (pc' := 2) (q_d dX5_sure_0 1 rfl) rfl rfl rfl ?_
      refine T.callV (pc' := 5) (ci := 5) (q_d dX5_sure_0 2 rfl) rfl uX5_isSet wM_X5_114 (c_isSet hX.1 hX.2.2.1 hX.2.2.2.1 hu) rfl rfl (by decide) rfl rfl (by decide) (Nat.le_of_ble_eq_true rfl) rfl rfl (fun _ => rfl) ?_
      rintro _ _ ⟨rfl, rfl⟩
      dsimp only [Option.toList, List.cons_append, List.nil_append, List.append_nil]
      refine T.if_eqN (tgt := 17) (pc' := 8) (q_d dX5_sure_0 3 rfl) rfl (by decide) (by split <;> decide) (fun h5 => ?_) (fun h5 => ?_)
      · exact absurd h5 (by rw [if_pos a1]; decide)
      · refine T.iload_n (pc' := 9) (q_d dX5_sure_0 4 rfl) rfl rfl rfl ?_
        refine T.iconst (pc' := 10) (v := nI 0) (q_d dX5_sure_0 5 rfl) rfl (by decide) ?_
        refine T.iconst (pc' := 11) (v := nI 1) (q_d dX5_sure_0 6 rfl) rfl (by decide) ?_
        refine T.callS (pc' := 14) (q_d dX5_sure_0 7 rfl) rfl uX5_isWithin wM_X5_60 (c_isWithin hv (by decide) (hi := 1) (by decide)) rfl rfl (by decide) (Nat.le_of_ble_eq_true rfl) rfl rfl (fun _ => rfl) ?_
        rintro _ _ ⟨rfl, rfl⟩
        dsimp only [Option.toList, List.cons_append, List.nil_append, List.append_nil]
        refine T.if_neN (tgt := 20) (pc' := 17) (q_d dX5_sure_0 8 rfl) rfl (by decide) (by split <;> decide) (fun h14 => ?_) (fun h14 => ?_)
        · refine T.aload_n (pc' := 21) (q_d dX5_sure_0 11 rfl) rfl rfl rfl ?_
          refine T.callV (pc' := 24) (ci := 5) (q_d dX5_sure_0 12 rfl) rfl uX5_standingHearing wM_X5_167 (c_standingHearing hX) rfl rfl (by decide) rfl rfl (by decide) (Nat.le_of_ble_eq_true rfl) rfl rfl (fun _ => rfl) ?_
          rintro _ M2 ⟨rfl, e8, e9, fT, hTb⟩
          have hXb := hX.tb fT hTb
          have hn := (hTb.2.2.2.2.1 e9).2 u (by omega)
          dsimp only [Option.toList, List.cons_append, List.nil_append, List.append_nil]
          refine T.astore_n (pc' := 25) (q_d dX5_sure_0 13 rfl) rfl rfl (by decide) rfl rfl ?_
          refine T.aload_n (pc' := 26) (q_d dX5_sure_0 14 rfl) rfl rfl rfl ?_
          refine T.getR (pc' := 29) (ci := 0) (k0 := 0) (q_d dX5_sure_0 15 rfl) rfl rfl (by decide) rfl inX0 (by decide) rfl wF_X5_171 (rP (P := pX _ sw) (by first | exact hXb.1 | exact hX.1) rfl) ?_
          refine T.iload_n (pc' := 30) (q_d dX5_sure_0 16 rfl) rfl rfl rfl ?_
          refine T.iald (pc' := 31) (q_d dX5_sure_0 17 rfl) rfl rfl (by decide) rfl (by omega) (by decide) hn.1 ?_
          refine T.iconst (pc' := 32) (v := nI 4294967295) (q_d dX5_sure_0 18 rfl) rfl (by decide) ?_
          refine T.icmp_neN (tgt := 38) (pc' := 35) (q_d dX5_sure_0 19 rfl) rfl (by decide) (by omega) (by omega) (fun h32 => ?_) (fun h32 => ?_)
          · refine T.iload_n (pc' := 39) (q_d dX5_sure_0 22 rfl) rfl rfl rfl ?_
            refine T.if_neN (tgt := 51) (pc' := 42) (q_d dX5_sure_0 23 rfl) rfl (by decide) (by omega) (fun h39 => ?_) (fun h39 => ?_)
            · refine T.aload_n (pc' := 52) (q_d dX5_sure_0 29 rfl) rfl rfl rfl ?_
              refine T.getR (pc' := 55) (ci := 0) (k0 := 1) (q_d dX5_sure_0 30 rfl) rfl rfl (by decide) rfl inX0 (by decide) rfl wF_X5_174 (rP (P := pX _ sw) (by first | exact hXb.1 | exact hX.1) rfl) ?_
              refine T.iload_n (pc' := 56) (q_d dX5_sure_0 31 rfl) rfl rfl rfl ?_
              refine T.iald (pc' := 57) (q_d dX5_sure_0 32 rfl) rfl rfl (by decide) rfl (by omega) (by decide) hn.2 ?_
              refine T.iret (q_d dX5_sure_0 33 rfl) rfl rfl rfl ?_
              have hne : (solN s 0 3 127).1 u ≠ 1000 := by omega
              refine ⟨?_, pa, sw, hXb⟩
              unfold qSure
              rw [if_pos ⟨a1, a2⟩, if_neg hne]
              first
                | (rw [if_pos h39, nc_id hne]; done)
                | (rw [if_neg h39]; done)
            · refine T.aload_n (pc' := 43) (q_d dX5_sure_0 24 rfl) rfl rfl rfl ?_
              refine T.getR (pc' := 46) (ci := 0) (k0 := 0) (q_d dX5_sure_0 25 rfl) rfl rfl (by decide) rfl inX0 (by decide) rfl wF_X5_171 (rP (P := pX _ sw) (by first | exact hXb.1 | exact hX.1) rfl) ?_
              refine T.iload_n (pc' := 47) (q_d dX5_sure_0 26 rfl) rfl rfl rfl ?_
              refine T.iald (pc' := 48) (q_d dX5_sure_0 27 rfl) rfl rfl (by decide) rfl (by omega) (by decide) hn.1 ?_
              refine T.goto (tgt := 57) (q_d dX5_sure_0 28 rfl) (by decide) ?_
              refine T.iret (q_d dX5_sure_0 33 rfl) rfl rfl rfl ?_
              have hne : (solN s 0 3 127).1 u ≠ 1000 := by omega
              refine ⟨?_, pa, sw, hXb⟩
              unfold qSure
              rw [if_pos ⟨a1, a2⟩, if_neg hne]
              first
                | (rw [if_pos h39, nc_id hne]; done)
                | (rw [if_neg h39]; done)
          · refine T.ldc (pc' := 37) (v := nI 4293967292) (q_d dX5_sure_0 20 rfl) rfl wN_X5_150 ?_
            refine T.iret (q_d dX5_sure_0 21 rfl) rfl rfl rfl ?_
            exact ⟨by unfold qSure; rw [if_pos ⟨a1, a2⟩, if_pos (by omega)], pa, sw, hXb⟩
        · exact absurd h14 (by rw [if_pos z2]; decide)
    · have z2 : ¬ inS v 0 1 = true := fun q => a2 (e.mp q).2
      refine T.aload_n (pc' := 1) (q_d dX5_sure_0 0 rfl) rfl rfl rfl ?_
      refine T.iload_n (pc' := 2) (q_d dX5_sure_0 1 rfl) rfl rfl rfl ?_
      refine T.callV (pc' := 5) (ci := 5) (q_d dX5_sure_0 2 rfl) rfl uX5_isSet wM_X5_114 (c_isSet hX.1 hX.2.2.1 hX.2.2.2.1 hu) rfl rfl (by decide) rfl rfl (by decide) (Nat.le_of_ble_eq_true rfl) rfl rfl (fun _ => rfl) ?_
      rintro _ _ ⟨rfl, rfl⟩
      dsimp only [Option.toList, List.cons_append, List.nil_append, List.append_nil]
      refine T.if_eqN (tgt := 17) (pc' := 8) (q_d dX5_sure_0 3 rfl) rfl (by decide) (by split <;> decide) (fun h5 => ?_) (fun h5 => ?_)
      · exact absurd h5 (by rw [if_pos a1]; decide)
      · refine T.iload_n (pc' := 9) (q_d dX5_sure_0 4 rfl) rfl rfl rfl ?_
        refine T.iconst (pc' := 10) (v := nI 0) (q_d dX5_sure_0 5 rfl) rfl (by decide) ?_
        refine T.iconst (pc' := 11) (v := nI 1) (q_d dX5_sure_0 6 rfl) rfl (by decide) ?_
        refine T.callS (pc' := 14) (q_d dX5_sure_0 7 rfl) rfl uX5_isWithin wM_X5_60 (c_isWithin hv (by decide) (hi := 1) (by decide)) rfl rfl (by decide) (Nat.le_of_ble_eq_true rfl) rfl rfl (fun _ => rfl) ?_
        rintro _ _ ⟨rfl, rfl⟩
        dsimp only [Option.toList, List.cons_append, List.nil_append, List.append_nil]
        refine T.if_neN (tgt := 20) (pc' := 17) (q_d dX5_sure_0 8 rfl) rfl (by decide) (by split <;> decide) (fun h14 => ?_) (fun h14 => ?_)
        · exact absurd (if_neg z2) h14
        · refine T.ldc (pc' := 19) (v := nI 4293967295) (q_d dX5_sure_0 9 rfl) rfl wN_X5_64 ?_
          refine T.iret (q_d dX5_sure_0 10 rfl) rfl rfl rfl ?_
          exact ⟨by unfold qSure; rw [if_neg (fun q => a2 q.2)], pa, sw, hX⟩
  · refine T.aload_n (pc' := 1) (q_d dX5_sure_0 0 rfl) rfl rfl rfl ?_
    refine T.iload_n (pc' := 2) (q_d dX5_sure_0 1 rfl) rfl rfl rfl ?_
    refine T.callV (pc' := 5) (ci := 5) (q_d dX5_sure_0 2 rfl) rfl uX5_isSet wM_X5_114 (c_isSet hX.1 hX.2.2.1 hX.2.2.2.1 hu) rfl rfl (by decide) rfl rfl (by decide) (Nat.le_of_ble_eq_true rfl) rfl rfl (fun _ => rfl) ?_
    rintro _ _ ⟨rfl, rfl⟩
    dsimp only [Option.toList, List.cons_append, List.nil_append, List.append_nil]
    refine T.if_eqN (tgt := 17) (pc' := 8) (q_d dX5_sure_0 3 rfl) rfl (by decide) (by split <;> decide) (fun h5 => ?_) (fun h5 => ?_)
    · refine T.ldc (pc' := 19) (v := nI 4293967295) (q_d dX5_sure_0 9 rfl) rfl wN_X5_64 ?_
      refine T.iret (q_d dX5_sure_0 10 rfl) rfl rfl rfl ?_
      exact ⟨by unfold qSure; rw [if_neg (fun q => a1 q.1)], pa, sw, hX⟩
    · exact absurd (if_neg a1) h5
theorem c_deaf (hX : RX M b s k was n t pa sw) {u : Nat} (hu : u < 4294967296) : Ct l hdX kX mX5_deaf [.ref 0, .int (nI u)] M (OX b (qDeaf s u, (s, k, was, n, t))) := by
  refine Ct.of [some (.ref 0), some (.int (nI u)), none] (by decide +kernel) (fun h => absurd h (by decide)) (Nat.le_of_ble_eq_true rfl) rfl ?_
  have w0 := p2_le hX.2.2.2.1.1
  have nv := sol_vals (s := s) (g0 := 4) (g1 := 4) u
  have nl := nc_lt nv
  have nm := nc_m1 nv
  by_cases a1 : u < 2 ^ s 0
  · refine T.aload_n (pc' := 1) (q_d dX5_deaf_0 0 rfl) rfl rfl rfl ?_
    refine T.iload_n (pc' := 2) (q_d dX5_deaf_0 1 rfl) rfl rfl rfl ?_
    refine T.callV (pc' := 5) (ci := 5) (q_d dX5_deaf_0 2 rfl) rfl uX5_isSet wM_X5_114 (c_isSet hX.1 hX.2.2.1 hX.2.2.2.1 hu) rfl rfl (by decide) rfl rfl (by decide) (Nat.le_of_ble_eq_true rfl) rfl rfl (fun _ => rfl) ?_
    rintro _ _ ⟨rfl, rfl⟩
    dsimp only [Option.toList, List.cons_append, List.nil_append, List.append_nil]
    refine T.if_neN (tgt := 11) (pc' := 8) (q_d dX5_deaf_0 3 rfl) rfl (by decide) (by split <;> decide) (fun h5 => ?_) (fun h5 => ?_)
    · refine T.aload_n (pc' := 12) (q_d dX5_deaf_0 6 rfl) rfl rfl rfl ?_
      refine T.callV (pc' := 15) (ci := 5) (q_d dX5_deaf_0 7 rfl) rfl uX5_standingUnhearing wM_X5_177 (c_standingUnhearing hX) rfl rfl (by decide) rfl rfl (by decide) (Nat.le_of_ble_eq_true rfl) rfl rfl (fun _ => rfl) ?_
      rintro _ M2 ⟨rfl, e8, e9, fT, hTb⟩
      have hXb := hX.tb fT hTb
      have hn := (hTb.2.2.2.2.2.1 e9).2 u (by omega)
      dsimp only [Option.toList, List.cons_append, List.nil_append, List.append_nil]
      refine T.getR (pc' := 18) (ci := 0) (k0 := 0) (q_d dX5_deaf_0 8 rfl) rfl rfl (by decide) rfl inX0 (by decide) rfl wF_X5_171 (rP (P := pX _ sw) (by first | exact hXb.1 | exact hX.1) rfl) ?_
      refine T.iload_n (pc' := 19) (q_d dX5_deaf_0 9 rfl) rfl rfl rfl ?_
      refine T.iald (pc' := 20) (q_d dX5_deaf_0 10 rfl) rfl rfl (by decide) rfl (by omega) (by decide) hn.1 ?_
      refine T.istore_n (pc' := 21) (q_d dX5_deaf_0 11 rfl) rfl rfl (by decide) rfl rfl ?_
      refine T.iload_n (pc' := 22) (q_d dX5_deaf_0 12 rfl) rfl rfl rfl ?_
      refine T.iconst (pc' := 23) (v := nI 4294967295) (q_d dX5_deaf_0 13 rfl) rfl (by decide) ?_
      refine T.icmp_neN (tgt := 31) (pc' := 26) (q_d dX5_deaf_0 14 rfl) rfl (by decide) (by omega) (by omega) (fun h23 => ?_) (fun h23 => ?_)
      · refine T.iload_n (pc' := 32) (q_d dX5_deaf_0 17 rfl) rfl rfl rfl ?_
        refine T.iret (q_d dX5_deaf_0 18 rfl) rfl rfl rfl ?_
        refine ⟨?_, pa, sw, hXb⟩
        unfold qDeaf
        rw [if_pos a1]
        first
          | (rw [if_pos (by omega)]; done)
          | (have hne : (solN s 4 4 127).1 u ≠ 1000 := by omega
             rw [if_neg hne, nc_id hne])
      · refine T.ldc (pc' := 28) (v := nI 4293967292) (q_d dX5_deaf_0 15 rfl) rfl wN_X5_150 ?_
        refine T.goto (tgt := 32) (q_d dX5_deaf_0 16 rfl) (by decide) ?_
        refine T.iret (q_d dX5_deaf_0 18 rfl) rfl rfl rfl ?_
        refine ⟨?_, pa, sw, hXb⟩
        unfold qDeaf
        rw [if_pos a1]
        first
          | (rw [if_pos (by omega)]; done)
          | (have hne : (solN s 4 4 127).1 u ≠ 1000 := by omega
             rw [if_neg hne, nc_id hne])
    · exact absurd h5 (by rw [if_pos a1]; decide)
  · refine T.aload_n (pc' := 1) (q_d dX5_deaf_0 0 rfl) rfl rfl rfl ?_
    refine T.iload_n (pc' := 2) (q_d dX5_deaf_0 1 rfl) rfl rfl rfl ?_
    refine T.callV (pc' := 5) (ci := 5) (q_d dX5_deaf_0 2 rfl) rfl uX5_isSet wM_X5_114 (c_isSet hX.1 hX.2.2.1 hX.2.2.2.1 hu) rfl rfl (by decide) rfl rfl (by decide) (Nat.le_of_ble_eq_true rfl) rfl rfl (fun _ => rfl) ?_
    rintro _ _ ⟨rfl, rfl⟩
    dsimp only [Option.toList, List.cons_append, List.nil_append, List.append_nil]
    refine T.if_neN (tgt := 11) (pc' := 8) (q_d dX5_deaf_0 3 rfl) rfl (by decide) (by split <;> decide) (fun h5 => ?_) (fun h5 => ?_)
    · exact absurd (if_neg a1) h5
    · refine T.ldc (pc' := 10) (v := nI 4293967295) (q_d dX5_deaf_0 4 rfl) rfl wN_X5_64 ?_
      refine T.iret (q_d dX5_deaf_0 5 rfl) rfl rfl rfl ?_
      exact ⟨by unfold qDeaf; rw [if_neg a1], pa, sw, hX⟩
theorem c_memory (hX : RX M b s k was n t pa sw) {u : Nat} (hu : u < 4294967296) : Ct l hdX kX mX5_memory [.ref 0, .int (nI u)] M (OX b (qMemory s u, (s, k, was, n, t))) := by
  refine Ct.of [some (.ref 0), some (.int (nI u)), none] (by decide +kernel) (fun h => absurd h (by decide)) (Nat.le_of_ble_eq_true rfl) rfl ?_
  have w0 := p2_le hX.2.2.2.1.1
  have nv := sol_vals (s := s) (g0 := 0) (g1 := 3) u
  have nl := nc_lt nv
  have nm := nc_m1 nv
  by_cases a1 : u < 2 ^ s 0
  · refine T.aload_n (pc' := 1) (q_d dX5_memory_0 0 rfl) rfl rfl rfl ?_
    refine T.iload_n (pc' := 2) (q_d dX5_memory_0 1 rfl) rfl rfl rfl ?_
    refine T.callV (pc' := 5) (ci := 5) (q_d dX5_memory_0 2 rfl) rfl uX5_isSet wM_X5_114 (c_isSet hX.1 hX.2.2.1 hX.2.2.2.1 hu) rfl rfl (by decide) rfl rfl (by decide) (Nat.le_of_ble_eq_true rfl) rfl rfl (fun _ => rfl) ?_
    rintro _ _ ⟨rfl, rfl⟩
    dsimp only [Option.toList, List.cons_append, List.nil_append, List.append_nil]
    refine T.if_neN (tgt := 11) (pc' := 8) (q_d dX5_memory_0 3 rfl) rfl (by decide) (by split <;> decide) (fun h5 => ?_) (fun h5 => ?_)
    · refine T.aload_n (pc' := 12) (q_d dX5_memory_0 6 rfl) rfl rfl rfl ?_
      refine T.callV (pc' := 15) (ci := 5) (q_d dX5_memory_0 7 rfl) rfl uX5_standingHearing wM_X5_167 (c_standingHearing hX) rfl rfl (by decide) rfl rfl (by decide) (Nat.le_of_ble_eq_true rfl) rfl rfl (fun _ => rfl) ?_
      rintro _ M2 ⟨rfl, e8, e9, fT, hTb⟩
      have hXb := hX.tb fT hTb
      have hn := (hTb.2.2.2.2.1 e9).2 u (by omega)
      dsimp only [Option.toList, List.cons_append, List.nil_append, List.append_nil]
      refine T.astore_n (pc' := 16) (q_d dX5_memory_0 8 rfl) rfl rfl (by decide) rfl rfl ?_
      refine T.aload_n (pc' := 17) (q_d dX5_memory_0 9 rfl) rfl rfl rfl ?_
      refine T.getR (pc' := 20) (ci := 0) (k0 := 0) (q_d dX5_memory_0 10 rfl) rfl rfl (by decide) rfl inX0 (by decide) rfl wF_X5_171 (rP (P := pX _ sw) (by first | exact hXb.1 | exact hX.1) rfl) ?_
      refine T.iload_n (pc' := 21) (q_d dX5_memory_0 11 rfl) rfl rfl rfl ?_
      refine T.iald (pc' := 22) (q_d dX5_memory_0 12 rfl) rfl rfl (by decide) rfl (by omega) (by decide) hn.1 ?_
      refine T.iconst (pc' := 23) (v := nI 4294967295) (q_d dX5_memory_0 13 rfl) rfl (by decide) ?_
      refine T.icmp_neN (tgt := 29) (pc' := 26) (q_d dX5_memory_0 14 rfl) rfl (by decide) (by omega) (by omega) (fun h23 => ?_) (fun h23 => ?_)
      · refine T.aload_n (pc' := 30) (q_d dX5_memory_0 17 rfl) rfl rfl rfl ?_
        refine T.aload_n (pc' := 31) (q_d dX5_memory_0 18 rfl) rfl rfl rfl ?_
        refine T.iload_n (pc' := 32) (q_d dX5_memory_0 19 rfl) rfl rfl rfl ?_
        refine T.callV (pc' := 35) (ci := 5) (q_d dX5_memory_0 20 rfl) rfl uX5_countComing wM_X5_180 (c_countComing hXb.1 hXb.2.2.1 hXb.2.2.2.1 (hTb.2.2.2.1 e8) (hTb.2.2.2.2.1 e9).2 a1 (by omega)) rfl rfl (by decide) rfl rfl (by decide) (Nat.le_of_ble_eq_true rfl) rfl rfl (fun _ => rfl) ?_
        rintro _ M3 ⟨rfl, m2, m3⟩
        dsimp only [Option.toList, List.cons_append, List.nil_append, List.append_nil]
        refine T.iret (q_d dX5_memory_0 21 rfl) rfl rfl rfl ?_
        refine ⟨by unfold qMemory; rw [if_pos a1, if_neg (by omega)], pa, sw, ?_⟩
        exact hXb.c38 m2 m3
      · refine T.ldc (pc' := 28) (v := nI 4293967292) (q_d dX5_memory_0 15 rfl) rfl wN_X5_150 ?_
        refine T.iret (q_d dX5_memory_0 16 rfl) rfl rfl rfl ?_
        exact ⟨by unfold qMemory; rw [if_pos a1, if_pos (by omega)], pa, sw, hXb⟩
    · exact absurd h5 (by rw [if_pos a1]; decide)
  · refine T.aload_n (pc' := 1) (q_d dX5_memory_0 0 rfl) rfl rfl rfl ?_
    refine T.iload_n (pc' := 2) (q_d dX5_memory_0 1 rfl) rfl rfl rfl ?_
    refine T.callV (pc' := 5) (ci := 5) (q_d dX5_memory_0 2 rfl) rfl uX5_isSet wM_X5_114 (c_isSet hX.1 hX.2.2.1 hX.2.2.2.1 hu) rfl rfl (by decide) rfl rfl (by decide) (Nat.le_of_ble_eq_true rfl) rfl rfl (fun _ => rfl) ?_
    rintro _ _ ⟨rfl, rfl⟩
    dsimp only [Option.toList, List.cons_append, List.nil_append, List.append_nil]
    refine T.if_neN (tgt := 11) (pc' := 8) (q_d dX5_memory_0 3 rfl) rfl (by decide) (by split <;> decide) (fun h5 => ?_) (fun h5 => ?_)
    · exact absurd (if_neg a1) h5
    · refine T.ldc (pc' := 10) (v := nI 4293967295) (q_d dX5_memory_0 4 rfl) rfl wN_X5_64 ?_
      refine T.iret (q_d dX5_memory_0 5 rfl) rfl rfl rfl ?_
      exact ⟨by unfold qMemory; rw [if_neg a1], pa, sw, hX⟩
theorem c_beliefs (hX : RX M b s k was n t pa sw) {u : Nat} (hu : u < 4294967296) : Ct l hdX kX mX5_beliefs [.ref 0, .int (nI u)] M (OX b (qBeliefs s u, (s, k, was, n, t))) := by
  refine Ct.of [some (.ref 0), some (.int (nI u))] (by decide +kernel) (fun h => absurd h (by decide)) (Nat.le_of_ble_eq_true rfl) rfl ?_
  have w0 := p2_le hX.2.2.2.1.1
  have ho : SO 1 := Or.inl rfl
  have hpos : 1 ≤ 2 ^ s 0 := Nat.two_pow_pos _
  have hH : HO 29 0 3 := Or.inl ⟨rfl, rfl, rfl⟩
  have hU : HO 32 4 4 := Or.inr ⟨rfl, rfl, rfl⟩
  refine T.iload_n (pc' := 1) (q_d dX5_beliefs_0 0 rfl) rfl rfl rfl ?_
  rcases (by omega : u = 0 ∨ u = 1 ∨ u = 2 ∨ u = 3 ∨ u = 4 ∨ 4 < u) with rfl | rfl | rfl | rfl | rfl | h12
  · refine T.tableIn (tgt := 36) (q_d dX5_beliefs_0 1 rfl) (by decide +kernel) (by decide +kernel) (off := 35) (by decide +kernel) (by decide) ?_
    refine T.aload_n (pc' := 37) (q_d dX5_beliefs_0 2 rfl) rfl rfl rfl ?_
    refine T.getR (pc' := 40) (ci := 5) (k0 := 0) (q_d dX5_beliefs_0 3 rfl) rfl rfl (by decide) rfl inX5 (by decide) rfl wF_X5_10 (rP (P := pX _ sw) (by first | exact hXb.1 | exact hX.1) rfl) ?_
    refine T.callV (pc' := 43) (ci := 3) (q_d dX5_beliefs_0 4 rfl) rfl uX3_sets wM_X5_184 (c_sets2 ho hX.1 hX.2.2.1 hX.2.2.2.1) rfl rfl (by decide) rfl rfl (by decide) (Nat.le_of_ble_eq_true rfl) rfl rfl (fun _ => rfl) ?_
    rintro _ _ ⟨rfl, rfl⟩
    dsimp only [Option.toList, List.cons_append, List.nil_append, List.append_nil]
    refine T.iconst (pc' := 44) (v := nI 1) (q_d dX5_beliefs_0 5 rfl) rfl (by decide) ?_
    refine T.isub (pc' := 45) (q_d dX5_beliefs_0 6 rfl) rfl (nN_sub (by omega)) ?_
    refine T.iret (q_d dX5_beliefs_0 7 rfl) rfl rfl rfl ?_
    exact ⟨by simp [qBeliefs], pa, sw, hX⟩
  · refine T.tableIn (tgt := 46) (q_d dX5_beliefs_0 1 rfl) (by decide +kernel) (by decide +kernel) (off := 45) (by decide +kernel) (by decide) ?_
    refine T.aload_n (pc' := 47) (q_d dX5_beliefs_0 8 rfl) rfl rfl rfl ?_
    refine T.callV (pc' := 50) (ci := 5) (q_d dX5_beliefs_0 9 rfl) rfl uX5_standingHearing wM_X5_167 (c_standingHearing hX) rfl rfl (by decide) rfl rfl (by decide) (Nat.le_of_ble_eq_true rfl) rfl rfl (fun _ => rfl) ?_
    rintro _ M2 ⟨rfl, e8, e9, fT, hTb⟩
    have hXb := hX.tb fT hTb
    have hR := (hTb.2.2.2.2.1 e9).2
    dsimp only [Option.toList, List.cons_append, List.nil_append, List.append_nil]
    refine T.aload_n (pc' := 51) (q_d dX5_beliefs_0 10 rfl) rfl rfl rfl ?_
    refine T.getR (pc' := 54) (ci := 5) (k0 := 0) (q_d dX5_beliefs_0 11 rfl) rfl rfl (by decide) rfl inX5 (by decide) rfl wF_X5_10 (rP (P := pX _ sw) (by first | exact hXb.1 | exact hX.1) rfl) ?_
    refine T.callV (pc' := 57) (ci := 3) (q_d dX5_beliefs_0 12 rfl) rfl uX3_sets wM_X5_184 (c_sets2 ho hXb.1 hXb.2.2.1 hXb.2.2.2.1) rfl rfl (by decide) rfl rfl (by decide) (Nat.le_of_ble_eq_true rfl) rfl rfl (fun _ => rfl) ?_
    rintro _ _ ⟨rfl, rfl⟩
    dsimp only [Option.toList, List.cons_append, List.nil_append, List.append_nil]
    refine T.callV (pc' := 60) (ci := 0) (q_d dX5_beliefs_0 13 rfl) rfl uX0_countSure wM_X5_188 (c_countSure hH hXb.1 (fun y hy => (hR y hy).1) sol_vals hpos w0) rfl rfl (by decide) rfl rfl (by decide) (Nat.le_of_ble_eq_true rfl) rfl rfl (fun _ => rfl) ?_
    rintro _ _ ⟨rfl, rfl⟩
    dsimp only [Option.toList, List.cons_append, List.nil_append, List.append_nil]
    refine T.iret (q_d dX5_beliefs_0 14 rfl) rfl rfl rfl ?_
    exact ⟨by simp [qBeliefs], pa, sw, hXb⟩
  · refine T.tableIn (tgt := 61) (q_d dX5_beliefs_0 1 rfl) (by decide +kernel) (by decide +kernel) (off := 60) (by decide +kernel) (by decide) ?_
    refine T.aload_n (pc' := 62) (q_d dX5_beliefs_0 15 rfl) rfl rfl rfl ?_
    refine T.callV (pc' := 65) (ci := 5) (q_d dX5_beliefs_0 16 rfl) rfl uX5_standingHearing wM_X5_167 (c_standingHearing hX) rfl rfl (by decide) rfl rfl (by decide) (Nat.le_of_ble_eq_true rfl) rfl rfl (fun _ => rfl) ?_
    rintro _ M2 ⟨rfl, e8, e9, fT, hTb⟩
    have hXb := hX.tb fT hTb
    have hR := (hTb.2.2.2.2.1 e9).2
    dsimp only [Option.toList, List.cons_append, List.nil_append, List.append_nil]
    refine T.aload_n (pc' := 66) (q_d dX5_beliefs_0 17 rfl) rfl rfl rfl ?_
    refine T.getR (pc' := 69) (ci := 5) (k0 := 0) (q_d dX5_beliefs_0 18 rfl) rfl rfl (by decide) rfl inX5 (by decide) rfl wF_X5_10 (rP (P := pX _ sw) (by first | exact hXb.1 | exact hX.1) rfl) ?_
    refine T.callV (pc' := 72) (ci := 3) (q_d dX5_beliefs_0 19 rfl) rfl uX3_sets wM_X5_184 (c_sets2 ho hXb.1 hXb.2.2.1 hXb.2.2.2.1) rfl rfl (by decide) rfl rfl (by decide) (Nat.le_of_ble_eq_true rfl) rfl rfl (fun _ => rfl) ?_
    rintro _ _ ⟨rfl, rfl⟩
    dsimp only [Option.toList, List.cons_append, List.nil_append, List.append_nil]
    refine T.callV (pc' := 75) (ci := 0) (q_d dX5_beliefs_0 20 rfl) rfl uX0_mostNeeded wM_X5_191 (c_mostNeeded hH hXb.1 (fun y hy => (hR y hy).1) sol_vals hpos w0) rfl rfl (by decide) rfl rfl (by decide) (Nat.le_of_ble_eq_true rfl) rfl rfl (fun _ => rfl) ?_
    rintro _ _ ⟨rfl, rfl⟩
    dsimp only [Option.toList, List.cons_append, List.nil_append, List.append_nil]
    refine T.iret (q_d dX5_beliefs_0 21 rfl) rfl rfl rfl ?_
    exact ⟨by simp [qBeliefs], pa, sw, hXb⟩
  · refine T.tableIn (tgt := 76) (q_d dX5_beliefs_0 1 rfl) (by decide +kernel) (by decide +kernel) (off := 75) (by decide +kernel) (by decide) ?_
    refine T.aload_n (pc' := 77) (q_d dX5_beliefs_0 22 rfl) rfl rfl rfl ?_
    refine T.callV (pc' := 80) (ci := 5) (q_d dX5_beliefs_0 23 rfl) rfl uX5_standingHearing wM_X5_167 (c_standingHearing hX) rfl rfl (by decide) rfl rfl (by decide) (Nat.le_of_ble_eq_true rfl) rfl rfl (fun _ => rfl) ?_
    rintro _ M2 ⟨rfl, e8, e9, fT, hTb⟩
    have hXb := hX.tb fT hTb
    have hR := (hTb.2.2.2.2.1 e9).2
    dsimp only [Option.toList, List.cons_append, List.nil_append, List.append_nil]
    refine T.aload_n (pc' := 81) (q_d dX5_beliefs_0 24 rfl) rfl rfl rfl ?_
    refine T.getR (pc' := 84) (ci := 5) (k0 := 0) (q_d dX5_beliefs_0 25 rfl) rfl rfl (by decide) rfl inX5 (by decide) rfl wF_X5_10 (rP (P := pX _ sw) (by first | exact hXb.1 | exact hX.1) rfl) ?_
    refine T.callV (pc' := 87) (ci := 3) (q_d dX5_beliefs_0 26 rfl) rfl uX3_sets wM_X5_184 (c_sets2 ho hXb.1 hXb.2.2.1 hXb.2.2.2.1) rfl rfl (by decide) rfl rfl (by decide) (Nat.le_of_ble_eq_true rfl) rfl rfl (fun _ => rfl) ?_
    rintro _ _ ⟨rfl, rfl⟩
    dsimp only [Option.toList, List.cons_append, List.nil_append, List.append_nil]
    refine T.callV (pc' := 90) (ci := 0) (q_d dX5_beliefs_0 27 rfl) rfl uX0_hardestBelief wM_X5_194 (c_hardestBelief hH hXb.1 (fun y hy => (hR y hy).1) sol_vals hpos w0) rfl rfl (by decide) rfl rfl (by decide) (Nat.le_of_ble_eq_true rfl) rfl rfl (fun _ => rfl) ?_
    rintro _ _ ⟨rfl, rfl⟩
    dsimp only [Option.toList, List.cons_append, List.nil_append, List.append_nil]
    refine T.iret (q_d dX5_beliefs_0 28 rfl) rfl rfl rfl ?_
    exact ⟨by simp [qBeliefs], pa, sw, hXb⟩
  · refine T.tableIn (tgt := 91) (q_d dX5_beliefs_0 1 rfl) (by decide +kernel) (by decide +kernel) (off := 90) (by decide +kernel) (by decide) ?_
    refine T.aload_n (pc' := 92) (q_d dX5_beliefs_0 29 rfl) rfl rfl rfl ?_
    refine T.callV (pc' := 95) (ci := 5) (q_d dX5_beliefs_0 30 rfl) rfl uX5_standingUnhearing wM_X5_177 (c_standingUnhearing hX) rfl rfl (by decide) rfl rfl (by decide) (Nat.le_of_ble_eq_true rfl) rfl rfl (fun _ => rfl) ?_
    rintro _ M2 ⟨rfl, e8, e9, fT, hTb⟩
    have hXb := hX.tb fT hTb
    have hR := (hTb.2.2.2.2.2.1 e9).2
    dsimp only [Option.toList, List.cons_append, List.nil_append, List.append_nil]
    refine T.aload_n (pc' := 96) (q_d dX5_beliefs_0 31 rfl) rfl rfl rfl ?_
    refine T.getR (pc' := 99) (ci := 5) (k0 := 0) (q_d dX5_beliefs_0 32 rfl) rfl rfl (by decide) rfl inX5 (by decide) rfl wF_X5_10 (rP (P := pX _ sw) (by first | exact hXb.1 | exact hX.1) rfl) ?_
    refine T.callV (pc' := 102) (ci := 3) (q_d dX5_beliefs_0 33 rfl) rfl uX3_sets wM_X5_184 (c_sets2 ho hXb.1 hXb.2.2.1 hXb.2.2.2.1) rfl rfl (by decide) rfl rfl (by decide) (Nat.le_of_ble_eq_true rfl) rfl rfl (fun _ => rfl) ?_
    rintro _ _ ⟨rfl, rfl⟩
    dsimp only [Option.toList, List.cons_append, List.nil_append, List.append_nil]
    refine T.callV (pc' := 105) (ci := 0) (q_d dX5_beliefs_0 34 rfl) rfl uX0_countSure wM_X5_188 (c_countSure hU hXb.1 (fun y hy => (hR y hy).1) sol_vals hpos w0) rfl rfl (by decide) rfl rfl (by decide) (Nat.le_of_ble_eq_true rfl) rfl rfl (fun _ => rfl) ?_
    rintro _ _ ⟨rfl, rfl⟩
    dsimp only [Option.toList, List.cons_append, List.nil_append, List.append_nil]
    refine T.iret (q_d dX5_beliefs_0 35 rfl) rfl rfl rfl ?_
    exact ⟨by simp [qBeliefs], pa, sw, hXb⟩
  · refine T.tableOut (tgt := 106) (q_d dX5_beliefs_0 1 rfl) (sw_out hu h12 (by decide)) (by decide) ?_
    refine T.ldc (pc' := 108) (v := nI 4293967295) (q_d dX5_beliefs_0 36 rfl) rfl wN_X5_64 ?_
    refine T.iret (q_d dX5_beliefs_0 37 rfl) rfl rfl rfl ?_
    exact ⟨by unfold qBeliefs; rw [if_neg (by omega), if_neg (by omega), if_neg (by omega), if_neg (by omega), if_neg (by omega)], pa, sw, hX⟩
end CX5D
