/-! BlindHunts: what is told -/
def qPlaceOf (s : Nat → Nat) (u v : Nat) : Nat := if u < s 0 then (if v = 0 then s (7 + u) else if v = 1 then s (14 + u) else if v = 2 then s (21 + u) else if v = 3 then goes s u 0 else if v = 4 then s 1 >>> u &&& 1 else 4293967295) else 4293967295
def qRoundOf (s : Nat → Nat) (u v : Nat) : Nat := if u ≤ 7 ∧ v ≤ 2 then (if u < s 2 then s (28 + 3 * u + v) else 4293967292) else 4293967295
def qBehind (s : Nat → Nat) (u v w : Nat) : Nat := if (u < 2 ^ s 0 ∧ v < 2 ^ s 0) ∧ (w = 4294967295 ∨ w ≤ 3) then thn s u v (if w = 4294967295 then 4 else w) else 4293967295
def qSure (s : Nat → Nat) (u v : Nat) : Nat := if u < 2 ^ s 0 ∧ v ≤ 1 then (if (solN s 0 3 127).1 u = 1000 then 4293967292 else if v = 0 then (solN s 0 3 127).1 u else (solN s 0 3 127).2 u) else 4293967295
def qDeaf (s : Nat → Nat) (u : Nat) : Nat := if u < 2 ^ s 0 then (if (solN s 4 4 127).1 u = 1000 then 4293967292 else (solN s 4 4 127).1 u) else 4293967295
def qMemory (s : Nat → Nat) (u : Nat) : Nat := if u < 2 ^ s 0 then (if (solN s 0 3 127).1 u = 1000 then 4293967292 else comingN s (solN s 0 3 127).1 (solN s 0 3 127).2 u) else 4293967295
def qBeliefs (s : Nat → Nat) (u : Nat) : Nat := if u = 0 then 2 ^ s 0 - 1 else if u = 1 then nset (solN s 0 3 127).1 (2 ^ s 0 - 1) else if u = 2 then mostTo (solN s 0 3 127).1 (2 ^ s 0 - 1) else if u = 3 then (hardN (solN s 0 3 127).1 (mostTo (solN s 0 3 127).1 (2 ^ s 0 - 1)) (2 ^ s 0)).getD 4293967292 else if u = 4 then nset (solN s 4 4 127).1 (2 ^ s 0 - 1) else 4293967295
def qDangers (s : Nat → Nat) (u : Nat) : Nat := if u < 2 ^ s 0 then (if (solN s 0 3 127).1 u = 1000 then 4293967294 else orTo (fun p => if (solN s 0 3 127).1 (u ||| 1 <<< p) = 1000 then 1 <<< p else 0) (s 0)) else 4293967295
theorem sw_out {v hi : Nat} (hv : v < 4294967296) (h : hi < v) (hh : hi < 2147483648) : (nI v).toInt < 0 ∨ (hi : Int) < (nI v).toInt := by
  rw [nN_sI hv]; unfold sI; split <;> omega
theorem w_neg : ¬ (0 : Int32) ≤ nI 4294967295 := by decide
theorem w_pos {w : Nat} (h : w ≤ 3) : (0 : Int32) ≤ nI w := by
  have := (nN_le (a := 0) (b := w) (by decide) (by omega)).mpr (Nat.zero_le _)
  exact this
section CX5D
variable {l : Launch} {M M' : qM} {b b' : Nat} {s s' : Nat → Nat} {k : Nat} {was : Nat → Nat → Nat} {n : Nat} {t pa : Nat → Nat} {sw : Bool}
theorem RX.c38 (q : RX M b s k was n t pa sw) (h2 : M'.2 = M.2) (ha : ∀ a, a ≠ 38 → M'.1 a = M.1 a) : RX M' b s k was n t pa sw := by
  obtain ⟨q1, q2, q3, q4, q5, q6, q7, q8, q9, q10⟩ := q
  refine ⟨by rw [h2]; exact q1, q2, q3.mono (fun a a1 a2 => ha a (by omega)), q4, by rw [ha 0 (by decide)]; exact q5, q6, fun i hi => ⟨(q7 i hi).1.mono (fun a a1 a2 => by have := q2.ge (show i < 4 by omega); exact ha a (by omega)), (q7 i hi).2⟩, ⟨by rw [ha 18 (by decide)]; exact q8.1, fun i hi => by rw [ha 19 (by decide)]; exact q8.2 i hi⟩, q9, q10.mono (by rw [ha 0 (by decide)]; exact ⟨rfl, rfl, rfl⟩) (fun a a1 a2 => ha a (by omega))⟩
theorem c_placeOf (hX : RX M b s k was n t pa sw) {u v : Nat} (hu : u < 4294967296) (hv : v < 4294967296) : Ct l hdX kX mX5_placeOf [.ref 0, .int (nI u), .int (nI v)] M (OX b (qPlaceOf s u v, (s, k, was, n, t))) := by
  refine Ct.of [some (.ref 0), some (.int (nI u)), some (.int (nI v))] (by decide +kernel) (fun h => absurd h (by decide)) (Nat.le_of_ble_eq_true rfl) rfl ?_
  have w7 := hX.2.2.2.1.1
  have w0 := p2_le w7
  have w1 := hX.2.2.2.1.2.1
  have ho : SO 1 := Or.inl rfl
  obtain ⟨e0, e1, e2, e3, e4, e5, e6, e7⟩ := hX.2.2.1
  by_cases a1 : u < s 0
  · refine T.aload_n (pc' := 1) (q_d dX5_placeOf_0 0 rfl) rfl rfl rfl ?_
    refine T.iload_n (pc' := 2) (q_d dX5_placeOf_0 1 rfl) rfl rfl rfl ?_
    refine T.callV (pc' := 5) (ci := 5) (q_d dX5_placeOf_0 2 rfl) rfl uX5_isPlace wM_X5_141 (c_isPlace hX.1 hX.2.2.1 hX.2.2.2.1 hu) rfl rfl (by decide) rfl rfl (by decide) (Nat.le_of_ble_eq_true rfl) rfl rfl (fun _ => rfl) ?_
    rintro _ _ ⟨rfl, rfl⟩
    dsimp only [Option.toList, List.cons_append, List.nil_append, List.append_nil]
    refine T.if_neN (tgt := 11) (pc' := 8) (q_d dX5_placeOf_0 3 rfl) rfl (by decide) (by split <;> decide) (fun h5 => ?_) (fun h5 => ?_)
    · refine T.iload_n (pc' := 12) (q_d dX5_placeOf_0 6 rfl) rfl rfl rfl ?_
      rcases (by omega : v = 0 ∨ v = 1 ∨ v = 2 ∨ v = 3 ∨ v = 4 ∨ 4 < v) with rfl | rfl | rfl | rfl | rfl | h12
      · refine T.tableIn (tgt := 48) (q_d dX5_placeOf_0 7 rfl) (by decide +kernel) (by decide +kernel) (off := 36) (by decide +kernel) (by decide) ?_
        refine T.aload_n (pc' := 49) (q_d dX5_placeOf_0 8 rfl) rfl rfl rfl ?_
        refine T.getR (pc' := 52) (ci := 5) (k0 := 0) (q_d dX5_placeOf_0 9 rfl) rfl rfl (by decide) rfl inX5 (by decide) rfl wF_X5_10 (rP hX.1 rfl) ?_
        refine T.getR (pc' := 55) (ci := 3) (k0 := 1) (q_d dX5_placeOf_0 10 rfl) rfl rfl (by decide) rfl inX3 (by decide) rfl wF_X5_144 (rP hX.1 rfl) ?_
        refine T.iload_n (pc' := 56) (q_d dX5_placeOf_0 11 rfl) rfl rfl rfl ?_
        refine T.iald (pc' := 57) (q_d dX5_placeOf_0 12 rfl) rfl rfl (by decide) rfl (by omega) (by decide) (e3 u (by omega)) ?_
        refine T.iret (q_d dX5_placeOf_0 13 rfl) rfl rfl rfl ?_
        exact ⟨by simp [qPlaceOf, a1], pa, sw, hX⟩
      · refine T.tableIn (tgt := 58) (q_d dX5_placeOf_0 7 rfl) (by decide +kernel) (by decide +kernel) (off := 46) (by decide +kernel) (by decide) ?_
        refine T.aload_n (pc' := 59) (q_d dX5_placeOf_0 14 rfl) rfl rfl rfl ?_
        refine T.getR (pc' := 62) (ci := 5) (k0 := 0) (q_d dX5_placeOf_0 15 rfl) rfl rfl (by decide) rfl inX5 (by decide) rfl wF_X5_10 (rP hX.1 rfl) ?_
        refine T.getR (pc' := 65) (ci := 3) (k0 := 2) (q_d dX5_placeOf_0 16 rfl) rfl rfl (by decide) rfl inX3 (by decide) rfl wF_X5_91 (rP hX.1 rfl) ?_
        refine T.iload_n (pc' := 66) (q_d dX5_placeOf_0 17 rfl) rfl rfl rfl ?_
        refine T.iald (pc' := 67) (q_d dX5_placeOf_0 18 rfl) rfl rfl (by decide) rfl (by omega) (by decide) (e4 u (by omega)) ?_
        refine T.iret (q_d dX5_placeOf_0 19 rfl) rfl rfl rfl ?_
        exact ⟨by simp [qPlaceOf, a1], pa, sw, hX⟩
      · refine T.tableIn (tgt := 68) (q_d dX5_placeOf_0 7 rfl) (by decide +kernel) (by decide +kernel) (off := 56) (by decide +kernel) (by decide) ?_
        refine T.aload_n (pc' := 69) (q_d dX5_placeOf_0 20 rfl) rfl rfl rfl ?_
        refine T.getR (pc' := 72) (ci := 5) (k0 := 0) (q_d dX5_placeOf_0 21 rfl) rfl rfl (by decide) rfl inX5 (by decide) rfl wF_X5_10 (rP hX.1 rfl) ?_
        refine T.getR (pc' := 75) (ci := 3) (k0 := 3) (q_d dX5_placeOf_0 22 rfl) rfl rfl (by decide) rfl inX3 (by decide) rfl wF_X5_105 (rP hX.1 rfl) ?_
        refine T.iload_n (pc' := 76) (q_d dX5_placeOf_0 23 rfl) rfl rfl rfl ?_
        refine T.iald (pc' := 77) (q_d dX5_placeOf_0 24 rfl) rfl rfl (by decide) rfl (by omega) (by decide) (e5 u (by omega)) ?_
        refine T.iret (q_d dX5_placeOf_0 25 rfl) rfl rfl rfl ?_
        exact ⟨by simp [qPlaceOf, a1], pa, sw, hX⟩
      · refine T.tableIn (tgt := 78) (q_d dX5_placeOf_0 7 rfl) (by decide +kernel) (by decide +kernel) (off := 66) (by decide +kernel) (by decide) ?_
        refine T.aload_n (pc' := 79) (q_d dX5_placeOf_0 26 rfl) rfl rfl rfl ?_
        refine T.getR (pc' := 82) (ci := 5) (k0 := 0) (q_d dX5_placeOf_0 27 rfl) rfl rfl (by decide) rfl inX5 (by decide) rfl wF_X5_10 (rP hX.1 rfl) ?_
        refine T.iload_n (pc' := 83) (q_d dX5_placeOf_0 28 rfl) rfl rfl rfl ?_
        refine T.callV (pc' := 86) (ci := 3) (q_d dX5_placeOf_0 29 rfl) rfl uX3_reach wM_X5_147 (c_reach ho hX.1 hX.2.2.1 hX.2.2.2.1 a1) rfl rfl (by decide) rfl rfl (by decide) (Nat.le_of_ble_eq_true rfl) rfl rfl (fun _ => rfl) ?_
        rintro _ _ ⟨rfl, rfl⟩
        dsimp only [Option.toList, List.cons_append, List.nil_append, List.append_nil]
        refine T.iret (q_d dX5_placeOf_0 30 rfl) rfl rfl rfl ?_
        exact ⟨by simp [qPlaceOf, a1], pa, sw, hX⟩
      · refine T.tableIn (tgt := 87) (q_d dX5_placeOf_0 7 rfl) (by decide +kernel) (by decide +kernel) (off := 75) (by decide +kernel) (by decide) ?_
        refine T.aload_n (pc' := 88) (q_d dX5_placeOf_0 31 rfl) rfl rfl rfl ?_
        refine T.getR (pc' := 91) (ci := 5) (k0 := 0) (q_d dX5_placeOf_0 32 rfl) rfl rfl (by decide) rfl inX5 (by decide) rfl wF_X5_10 (rP hX.1 rfl) ?_
        refine T.getI (pc' := 94) (ci := 3) (k0 := 5) (q_d dX5_placeOf_0 33 rfl) rfl rfl (by decide) rfl inX3 (by decide) rfl wF_X5_118 e1 ?_
        refine T.iload_n (pc' := 95) (q_d dX5_placeOf_0 34 rfl) rfl rfl rfl ?_
        refine T.ishr (pc' := 96) (q_d dX5_placeOf_0 35 rfl) rfl (nN_shr (by omega) (by omega)) ?_
        refine T.iconst (pc' := 97) (v := nI 1) (q_d dX5_placeOf_0 36 rfl) rfl (by decide) ?_
        refine T.iand (pc' := 98) (q_d dX5_placeOf_0 37 rfl) rfl (nN_and _ _) ?_
        refine T.iret (q_d dX5_placeOf_0 38 rfl) rfl rfl rfl ?_
        exact ⟨by simp [qPlaceOf, a1], pa, sw, hX⟩
      · refine T.tableOut (tgt := 99) (q_d dX5_placeOf_0 7 rfl) (sw_out hv h12 (by decide)) (by decide) ?_
        refine T.ldc (pc' := 101) (v := nI 4293967295) (q_d dX5_placeOf_0 39 rfl) rfl wN_X5_64 ?_
        refine T.iret (q_d dX5_placeOf_1 0 rfl) rfl rfl rfl ?_
        exact ⟨by unfold qPlaceOf; rw [if_pos a1, if_neg (by omega), if_neg (by omega), if_neg (by omega), if_neg (by omega), if_neg (by omega)], pa, sw, hX⟩
    · exact absurd h5 (by rw [if_pos a1]; decide)
  · refine T.aload_n (pc' := 1) (q_d dX5_placeOf_0 0 rfl) rfl rfl rfl ?_
    refine T.iload_n (pc' := 2) (q_d dX5_placeOf_0 1 rfl) rfl rfl rfl ?_
    refine T.callV (pc' := 5) (ci := 5) (q_d dX5_placeOf_0 2 rfl) rfl uX5_isPlace wM_X5_141 (c_isPlace hX.1 hX.2.2.1 hX.2.2.2.1 hu) rfl rfl (by decide) rfl rfl (by decide) (Nat.le_of_ble_eq_true rfl) rfl rfl (fun _ => rfl) ?_
    rintro _ _ ⟨rfl, rfl⟩
    dsimp only [Option.toList, List.cons_append, List.nil_append, List.append_nil]
    refine T.if_neN (tgt := 11) (pc' := 8) (q_d dX5_placeOf_0 3 rfl) rfl (by decide) (by split <;> decide) (fun h5 => ?_) (fun h5 => ?_)
    · exact absurd (if_neg a1) h5
    · refine T.ldc (pc' := 10) (v := nI 4293967295) (q_d dX5_placeOf_0 4 rfl) rfl wN_X5_64 ?_
      refine T.iret (q_d dX5_placeOf_0 5 rfl) rfl rfl rfl ?_
      exact ⟨by unfold qPlaceOf; rw [if_neg a1], pa, sw, hX⟩
theorem c_roundOf (hX : RX M b s k was n t pa sw) (hb : b < 2 ^ 30) {u v : Nat} (hu : u < 4294967296) (hv : v < 4294967296) : Ct l hdX kX mX5_roundOf [.ref 0, .int (nI u), .int (nI v)] M (OX b (qRoundOf s u v, (s, k, was, n, t))) := by
  refine Ct.of [some (.ref 0), some (.int (nI u)), some (.int (nI v)), none] (by decide +kernel) (fun h => absurd h (by decide)) (Nat.le_of_ble_eq_true rfl) rfl ?_
  have w2 := hX.2.2.2.1.2.2.1
  have e := inS_iff (lo := 0) (hi := 7) hu (by decide) (by decide)
  have e' := inS_iff (lo := 0) (hi := 2) hv (by decide) (by decide)
  obtain ⟨-, -, e2, -, -, -, -, e7⟩ := hX.2.2.1
  by_cases a1 : u ≤ 7
  · have z1 : inS u 0 7 = true := e.mpr ⟨Nat.zero_le _, a1⟩
    by_cases a2 : v ≤ 2
    · have z2 : inS v 0 2 = true := e'.mpr ⟨Nat.zero_le _, a2⟩
      by_cases a3 : u < s 2
      · have h9 := e7 u (by omega) a3
        have m8 : (s 2 - 1 - u) % 8 < 8 := Nat.mod_lt _ (by decide)
        refine T.iload_n (pc' := 1) (q_d dX5_roundOf_0 0 rfl) rfl rfl rfl ?_
        refine T.iconst (pc' := 2) (v := nI 0) (q_d dX5_roundOf_0 1 rfl) rfl (by decide) ?_
        refine T.bipush (pc' := 4) (v := nI 7) (q_d dX5_roundOf_0 2 rfl) rfl (by decide) ?_
        refine T.callS (pc' := 7) (q_d dX5_roundOf_0 3 rfl) rfl uX5_isWithin wM_X5_60 (c_isWithin hu (by decide) (hi := 7) (by decide)) rfl rfl (by decide) (Nat.le_of_ble_eq_true rfl) rfl rfl (fun _ => rfl) ?_
        rintro _ _ ⟨rfl, rfl⟩
        dsimp only [Option.toList, List.cons_append, List.nil_append, List.append_nil]
        refine T.if_eqN (tgt := 19) (pc' := 10) (q_d dX5_roundOf_0 4 rfl) rfl (by decide) (by split <;> decide) (fun h7 => ?_) (fun h7 => ?_)
        · exact absurd h7 (by rw [if_pos z1]; decide)
        · refine T.iload_n (pc' := 11) (q_d dX5_roundOf_0 5 rfl) rfl rfl rfl ?_
          refine T.iconst (pc' := 12) (v := nI 0) (q_d dX5_roundOf_0 6 rfl) rfl (by decide) ?_
          refine T.iconst (pc' := 13) (v := nI 2) (q_d dX5_roundOf_0 7 rfl) rfl (by decide) ?_
          refine T.callS (pc' := 16) (q_d dX5_roundOf_0 8 rfl) rfl uX5_isWithin wM_X5_60 (c_isWithin hv (by decide) (hi := 2) (by decide)) rfl rfl (by decide) (Nat.le_of_ble_eq_true rfl) rfl rfl (fun _ => rfl) ?_
          rintro _ _ ⟨rfl, rfl⟩
          dsimp only [Option.toList, List.cons_append, List.nil_append, List.append_nil]
          refine T.if_neN (tgt := 22) (pc' := 19) (q_d dX5_roundOf_0 9 rfl) rfl (by decide) (by split <;> decide) (fun h16 => ?_) (fun h16 => ?_)
          · refine T.iload_n (pc' := 23) (q_d dX5_roundOf_0 12 rfl) rfl rfl rfl ?_
            refine T.aload_n (pc' := 24) (q_d dX5_roundOf_0 13 rfl) rfl rfl rfl ?_
            refine T.getR (pc' := 27) (ci := 5) (k0 := 0) (q_d dX5_roundOf_0 14 rfl) rfl rfl (by decide) rfl inX5 (by decide) rfl wF_X5_10 (rP hX.1 rfl) ?_
            refine T.getI (pc' := 30) (ci := 3) (k0 := 6) (q_d dX5_roundOf_0 15 rfl) rfl rfl (by decide) rfl inX3 (by decide) rfl wF_X5_121 e2 ?_
            refine T.icmp_ltN (tgt := 36) (pc' := 33) (q_d dX5_roundOf_0 16 rfl) rfl (by decide) (by omega) (by omega) (fun h30 => ?_) (fun h30 => ?_)
            · refine T.aload_n (pc' := 37) (q_d dX5_roundOf_0 19 rfl) rfl rfl rfl ?_
              refine T.getR (pc' := 40) (ci := 5) (k0 := 0) (q_d dX5_roundOf_0 20 rfl) rfl rfl (by decide) rfl inX5 (by decide) rfl wF_X5_10 (rP hX.1 rfl) ?_
              refine T.getI (pc' := 43) (ci := 3) (k0 := 6) (q_d dX5_roundOf_0 21 rfl) rfl rfl (by decide) rfl inX3 (by decide) rfl wF_X5_121 e2 ?_
              refine T.iconst (pc' := 44) (v := nI 1) (q_d dX5_roundOf_0 22 rfl) rfl (by decide) ?_
              refine T.isub (pc' := 45) (q_d dX5_roundOf_0 23 rfl) rfl (nN_sub (by omega)) ?_
              refine T.iload_n (pc' := 46) (q_d dX5_roundOf_0 24 rfl) rfl rfl rfl ?_
              refine T.isub (pc' := 47) (q_d dX5_roundOf_0 25 rfl) rfl (nN_sub (by omega)) ?_
              refine T.callS (pc' := 50) (q_d dX5_roundOf_0 26 rfl) rfl uX3_rowOfRound wM_X5_151 c_rowOfRound rfl rfl (by decide) (Nat.le_of_ble_eq_true rfl) rfl rfl (fun _ => rfl) ?_
              rintro _ _ ⟨rfl, rfl⟩
              dsimp only [Option.toList, List.cons_append, List.nil_append, List.append_nil]
              refine T.istore_n (pc' := 51) (q_d dX5_roundOf_0 27 rfl) rfl rfl (by decide) rfl rfl ?_
              refine T.iload_n (pc' := 52) (q_d dX5_roundOf_0 28 rfl) rfl rfl rfl ?_
              refine T.if_neN (tgt := 65) (pc' := 55) (q_d dX5_roundOf_0 29 rfl) rfl (by decide) (by omega) (fun h52 => ?_) (fun h52 => ?_)
              · refine T.iload_n (pc' := 66) (q_d dX5_roundOf_0 36 rfl) rfl rfl rfl ?_
                refine T.iconst (pc' := 67) (v := nI 1) (q_d dX5_roundOf_0 37 rfl) rfl (by decide) ?_
                refine T.icmp_neN (tgt := 82) (pc' := 70) (q_d dX5_roundOf_0 38 rfl) rfl (by decide) (by omega) (by omega) (fun h67 => ?_) (fun h67 => ?_)
                · refine T.aload_n (pc' := 83) (q_d dX5_roundOf_1 5 rfl) rfl rfl rfl ?_
                  refine T.getR (pc' := 86) (ci := 5) (k0 := 0) (q_d dX5_roundOf_1 6 rfl) rfl rfl (by decide) rfl inX5 (by decide) rfl wF_X5_10 (rP hX.1 rfl) ?_
                  refine T.getR (pc' := 89) (ci := 3) (k0 := 9) (q_d dX5_roundOf_1 7 rfl) rfl rfl (by decide) rfl inX3 (by decide) rfl wF_X5_160 (rP hX.1 rfl) ?_
                  refine T.iload_n (pc' := 90) (q_d dX5_roundOf_1 8 rfl) rfl rfl rfl ?_
                  refine T.iald (pc' := 91) (q_d dX5_roundOf_1 9 rfl) rfl rfl (by decide) rfl (by omega) (by decide) h9.2.2 ?_
                  refine T.iret (q_d dX5_roundOf_1 10 rfl) rfl rfl rfl ?_
                  refine ⟨?_, pa, sw, hX⟩
                  unfold qRoundOf
                  rw [if_pos ⟨a1, a2⟩, if_pos a3]
                  rcases (by omega : v = 0 ∨ v = 1 ∨ v = 2) with e9 | e9 | e9
                  all_goals first
                    | (rw [e9, show 28 + 3 * u + 0 = 28 + 3 * u by omega]; done)
                    | (rw [e9, show 28 + 3 * u + 1 = 29 + 3 * u by omega]; done)
                    | (rw [e9, show 28 + 3 * u + 2 = 30 + 3 * u by omega]; done)
                    | exact absurd e9 (by omega)
                · refine T.aload_n (pc' := 71) (q_d dX5_roundOf_0 39 rfl) rfl rfl rfl ?_
                  refine T.getR (pc' := 74) (ci := 5) (k0 := 0) (q_d dX5_roundOf_1 0 rfl) rfl rfl (by decide) rfl inX5 (by decide) rfl wF_X5_10 (rP hX.1 rfl) ?_
                  refine T.getR (pc' := 77) (ci := 3) (k0 := 8) (q_d dX5_roundOf_1 1 rfl) rfl rfl (by decide) rfl inX3 (by decide) rfl wF_X5_157 (rP hX.1 rfl) ?_
                  refine T.iload_n (pc' := 78) (q_d dX5_roundOf_1 2 rfl) rfl rfl rfl ?_
                  refine T.iald (pc' := 79) (q_d dX5_roundOf_1 3 rfl) rfl rfl (by decide) rfl (by omega) (by decide) h9.2.1 ?_
                  refine T.goto (tgt := 91) (q_d dX5_roundOf_1 4 rfl) (by decide) ?_
                  refine T.iret (q_d dX5_roundOf_1 10 rfl) rfl rfl rfl ?_
                  refine ⟨?_, pa, sw, hX⟩
                  unfold qRoundOf
                  rw [if_pos ⟨a1, a2⟩, if_pos a3]
                  rcases (by omega : v = 0 ∨ v = 1 ∨ v = 2) with e9 | e9 | e9
                  all_goals first
                    | (rw [e9, show 28 + 3 * u + 0 = 28 + 3 * u by omega]; done)
                    | (rw [e9, show 28 + 3 * u + 1 = 29 + 3 * u by omega]; done)
                    | (rw [e9, show 28 + 3 * u + 2 = 30 + 3 * u by omega]; done)
                    | exact absurd e9 (by omega)
              · refine T.aload_n (pc' := 56) (q_d dX5_roundOf_0 30 rfl) rfl rfl rfl ?_
                refine T.getR (pc' := 59) (ci := 5) (k0 := 0) (q_d dX5_roundOf_0 31 rfl) rfl rfl (by decide) rfl inX5 (by decide) rfl wF_X5_10 (rP hX.1 rfl) ?_
                refine T.getR (pc' := 62) (ci := 3) (k0 := 7) (q_d dX5_roundOf_0 32 rfl) rfl rfl (by decide) rfl inX3 (by decide) rfl wF_X5_154 (rP hX.1 rfl) ?_
                refine T.iload_n (pc' := 63) (q_d dX5_roundOf_0 33 rfl) rfl rfl rfl ?_
                refine T.iald (pc' := 64) (q_d dX5_roundOf_0 34 rfl) rfl rfl (by decide) rfl (by omega) (by decide) h9.1 ?_
                refine T.iret (q_d dX5_roundOf_0 35 rfl) rfl rfl rfl ?_
                refine ⟨?_, pa, sw, hX⟩
                unfold qRoundOf
                rw [if_pos ⟨a1, a2⟩, if_pos a3]
                rcases (by omega : v = 0 ∨ v = 1 ∨ v = 2) with e9 | e9 | e9
                all_goals first
                  | (rw [e9, show 28 + 3 * u + 0 = 28 + 3 * u by omega]; done)
                  | (rw [e9, show 28 + 3 * u + 1 = 29 + 3 * u by omega]; done)
                  | (rw [e9, show 28 + 3 * u + 2 = 30 + 3 * u by omega]; done)
                  | exact absurd e9 (by omega)
            · exact absurd a3 (by omega)
          · exact absurd h16 (by rw [if_pos z2]; decide)
      · refine T.iload_n (pc' := 1) (q_d dX5_roundOf_0 0 rfl) rfl rfl rfl ?_
        refine T.iconst (pc' := 2) (v := nI 0) (q_d dX5_roundOf_0 1 rfl) rfl (by decide) ?_
        refine T.bipush (pc' := 4) (v := nI 7) (q_d dX5_roundOf_0 2 rfl) rfl (by decide) ?_
        refine T.callS (pc' := 7) (q_d dX5_roundOf_0 3 rfl) rfl uX5_isWithin wM_X5_60 (c_isWithin hu (by decide) (hi := 7) (by decide)) rfl rfl (by decide) (Nat.le_of_ble_eq_true rfl) rfl rfl (fun _ => rfl) ?_
        rintro _ _ ⟨rfl, rfl⟩
        dsimp only [Option.toList, List.cons_append, List.nil_append, List.append_nil]
        refine T.if_eqN (tgt := 19) (pc' := 10) (q_d dX5_roundOf_0 4 rfl) rfl (by decide) (by split <;> decide) (fun h7 => ?_) (fun h7 => ?_)
        · exact absurd h7 (by rw [if_pos z1]; decide)
        · refine T.iload_n (pc' := 11) (q_d dX5_roundOf_0 5 rfl) rfl rfl rfl ?_
          refine T.iconst (pc' := 12) (v := nI 0) (q_d dX5_roundOf_0 6 rfl) rfl (by decide) ?_
          refine T.iconst (pc' := 13) (v := nI 2) (q_d dX5_roundOf_0 7 rfl) rfl (by decide) ?_
          refine T.callS (pc' := 16) (q_d dX5_roundOf_0 8 rfl) rfl uX5_isWithin wM_X5_60 (c_isWithin hv (by decide) (hi := 2) (by decide)) rfl rfl (by decide) (Nat.le_of_ble_eq_true rfl) rfl rfl (fun _ => rfl) ?_
          rintro _ _ ⟨rfl, rfl⟩
          dsimp only [Option.toList, List.cons_append, List.nil_append, List.append_nil]
          refine T.if_neN (tgt := 22) (pc' := 19) (q_d dX5_roundOf_0 9 rfl) rfl (by decide) (by split <;> decide) (fun h16 => ?_) (fun h16 => ?_)
          · refine T.iload_n (pc' := 23) (q_d dX5_roundOf_0 12 rfl) rfl rfl rfl ?_
            refine T.aload_n (pc' := 24) (q_d dX5_roundOf_0 13 rfl) rfl rfl rfl ?_
            refine T.getR (pc' := 27) (ci := 5) (k0 := 0) (q_d dX5_roundOf_0 14 rfl) rfl rfl (by decide) rfl inX5 (by decide) rfl wF_X5_10 (rP hX.1 rfl) ?_
            refine T.getI (pc' := 30) (ci := 3) (k0 := 6) (q_d dX5_roundOf_0 15 rfl) rfl rfl (by decide) rfl inX3 (by decide) rfl wF_X5_121 e2 ?_
            refine T.icmp_ltN (tgt := 36) (pc' := 33) (q_d dX5_roundOf_0 16 rfl) rfl (by decide) (by omega) (by omega) (fun h30 => ?_) (fun h30 => ?_)
            · exact absurd h30 (by omega)
            · refine T.ldc (pc' := 35) (v := nI 4293967292) (q_d dX5_roundOf_0 17 rfl) rfl wN_X5_150 ?_
              refine T.iret (q_d dX5_roundOf_0 18 rfl) rfl rfl rfl ?_
              exact ⟨by unfold qRoundOf; rw [if_pos ⟨a1, a2⟩, if_neg a3], pa, sw, hX⟩
          · exact absurd h16 (by rw [if_pos z2]; decide)
    · have z2 : ¬ inS v 0 2 = true := fun q => a2 (e'.mp q).2
      refine T.iload_n (pc' := 1) (q_d dX5_roundOf_0 0 rfl) rfl rfl rfl ?_
      refine T.iconst (pc' := 2) (v := nI 0) (q_d dX5_roundOf_0 1 rfl) rfl (by decide) ?_
      refine T.bipush (pc' := 4) (v := nI 7) (q_d dX5_roundOf_0 2 rfl) rfl (by decide) ?_
      refine T.callS (pc' := 7) (q_d dX5_roundOf_0 3 rfl) rfl uX5_isWithin wM_X5_60 (c_isWithin hu (by decide) (hi := 7) (by decide)) rfl rfl (by decide) (Nat.le_of_ble_eq_true rfl) rfl rfl (fun _ => rfl) ?_
      rintro _ _ ⟨rfl, rfl⟩
      dsimp only [Option.toList, List.cons_append, List.nil_append, List.append_nil]
      refine T.if_eqN (tgt := 19) (pc' := 10) (q_d dX5_roundOf_0 4 rfl) rfl (by decide) (by split <;> decide) (fun h7 => ?_) (fun h7 => ?_)
      · exact absurd h7 (by rw [if_pos z1]; decide)
      · refine T.iload_n (pc' := 11) (q_d dX5_roundOf_0 5 rfl) rfl rfl rfl ?_
        refine T.iconst (pc' := 12) (v := nI 0) (q_d dX5_roundOf_0 6 rfl) rfl (by decide) ?_
        refine T.iconst (pc' := 13) (v := nI 2) (q_d dX5_roundOf_0 7 rfl) rfl (by decide) ?_
        refine T.callS (pc' := 16) (q_d dX5_roundOf_0 8 rfl) rfl uX5_isWithin wM_X5_60 (c_isWithin hv (by decide) (hi := 2) (by decide)) rfl rfl (by decide) (Nat.le_of_ble_eq_true rfl) rfl rfl (fun _ => rfl) ?_
        rintro _ _ ⟨rfl, rfl⟩
        dsimp only [Option.toList, List.cons_append, List.nil_append, List.append_nil]
        refine T.if_neN (tgt := 22) (pc' := 19) (q_d dX5_roundOf_0 9 rfl) rfl (by decide) (by split <;> decide) (fun h16 => ?_) (fun h16 => ?_)
        · exact absurd (if_neg z2) h16
        · refine T.ldc (pc' := 21) (v := nI 4293967295) (q_d dX5_roundOf_0 10 rfl) rfl wN_X5_64 ?_
          refine T.iret (q_d dX5_roundOf_0 11 rfl) rfl rfl rfl ?_
          exact ⟨by unfold qRoundOf; rw [if_neg (fun q => a2 q.2)], pa, sw, hX⟩
  · have z1 : ¬ inS u 0 7 = true := fun q => a1 (e.mp q).2
    refine T.iload_n (pc' := 1) (q_d dX5_roundOf_0 0 rfl) rfl rfl rfl ?_
    refine T.iconst (pc' := 2) (v := nI 0) (q_d dX5_roundOf_0 1 rfl) rfl (by decide) ?_
    refine T.bipush (pc' := 4) (v := nI 7) (q_d dX5_roundOf_0 2 rfl) rfl (by decide) ?_
    refine T.callS (pc' := 7) (q_d dX5_roundOf_0 3 rfl) rfl uX5_isWithin wM_X5_60 (c_isWithin hu (by decide) (hi := 7) (by decide)) rfl rfl (by decide) (Nat.le_of_ble_eq_true rfl) rfl rfl (fun _ => rfl) ?_
    rintro _ _ ⟨rfl, rfl⟩
    dsimp only [Option.toList, List.cons_append, List.nil_append, List.append_nil]
    refine T.if_eqN (tgt := 19) (pc' := 10) (q_d dX5_roundOf_0 4 rfl) rfl (by decide) (by split <;> decide) (fun h7 => ?_) (fun h7 => ?_)
    · refine T.ldc (pc' := 21) (v := nI 4293967295) (q_d dX5_roundOf_0 10 rfl) rfl wN_X5_64 ?_
      refine T.iret (q_d dX5_roundOf_0 11 rfl) rfl rfl rfl ?_
      exact ⟨by unfold qRoundOf; rw [if_neg (fun q => a1 q.1)], pa, sw, hX⟩
    · exact absurd (if_neg z1) h7
theorem c_behind (hX : RX M b s k was n t pa sw) {u v w : Nat} (hu : u < 4294967296) (hv : v < 4294967296) (hw9 : w < 4294967296) : Ct l hdX kX mX5_behind [.ref 0, .int (nI u), .int (nI v), .int (nI w)] M (OX b (qBehind s u v w, (s, k, was, n, t))) := by
  refine Ct.of [some (.ref 0), some (.int (nI u)), some (.int (nI v)), some (.int (nI w))] (by decide +kernel) (fun h => absurd h (by decide)) (Nat.le_of_ble_eq_true rfl) rfl ?_
  have e := inS_m1 hw9
  by_cases a1 : u < 2 ^ s 0
  · by_cases a2 : v < 2 ^ s 0
    · by_cases a3 : w = 4294967295 ∨ w ≤ 3
      · have z3 := e.mpr a3
        refine T.aload_n (pc' := 1) (q_d dX5_behind_0 0 rfl) rfl rfl rfl ?_
        refine T.iload_n (pc' := 2) (q_d dX5_behind_0 1 rfl) rfl rfl rfl ?_
        refine T.callV (pc' := 5) (ci := 5) (q_d dX5_behind_0 2 rfl) rfl uX5_isSet wM_X5_114 (c_isSet hX.1 hX.2.2.1 hX.2.2.2.1 hu) rfl rfl (by decide) rfl rfl (by decide) (Nat.le_of_ble_eq_true rfl) rfl rfl (fun _ => rfl) ?_
        rintro _ _ ⟨rfl, rfl⟩
        dsimp only [Option.toList, List.cons_append, List.nil_append, List.append_nil]
        refine T.if_eqN (tgt := 25) (pc' := 8) (q_d dX5_behind_0 3 rfl) rfl (by decide) (by split <;> decide) (fun h5 => ?_) (fun h5 => ?_)
        · exact absurd h5 (by rw [if_pos a1]; decide)
        · refine T.aload_n (pc' := 9) (q_d dX5_behind_0 4 rfl) rfl rfl rfl ?_
          refine T.iload_n (pc' := 10) (q_d dX5_behind_0 5 rfl) rfl rfl rfl ?_
          refine T.callV (pc' := 13) (ci := 5) (q_d dX5_behind_0 6 rfl) rfl uX5_isSet wM_X5_114 (c_isSet hX.1 hX.2.2.1 hX.2.2.2.1 hv) rfl rfl (by decide) rfl rfl (by decide) (Nat.le_of_ble_eq_true rfl) rfl rfl (fun _ => rfl) ?_
          rintro _ _ ⟨rfl, rfl⟩
          dsimp only [Option.toList, List.cons_append, List.nil_append, List.append_nil]
          refine T.if_eqN (tgt := 25) (pc' := 16) (q_d dX5_behind_0 7 rfl) rfl (by decide) (by split <;> decide) (fun h13 => ?_) (fun h13 => ?_)
          · exact absurd h13 (by rw [if_pos a2]; decide)
          · refine T.iload_n (pc' := 17) (q_d dX5_behind_0 8 rfl) rfl rfl rfl ?_
            refine T.iconst (pc' := 18) (v := nI 4294967295) (q_d dX5_behind_0 9 rfl) rfl (by decide) ?_
            refine T.iconst (pc' := 19) (v := nI 3) (q_d dX5_behind_0 10 rfl) rfl (by decide) ?_
            refine T.callS (pc' := 22) (q_d dX5_behind_0 11 rfl) rfl uX5_isWithin wM_X5_60 (c_isWithin hw9 (lo := 4294967295) (by decide) (hi := 3) (by decide)) rfl rfl (by decide) (Nat.le_of_ble_eq_true rfl) rfl rfl (fun _ => rfl) ?_
            rintro _ _ ⟨rfl, rfl⟩
            dsimp only [Option.toList, List.cons_append, List.nil_append, List.append_nil]
            refine T.if_neN (tgt := 28) (pc' := 25) (q_d dX5_behind_0 12 rfl) rfl (by decide) (by split <;> decide) (fun h22 => ?_) (fun h22 => ?_)
            · refine T.aload_n (pc' := 29) (q_d dX5_behind_0 15 rfl) rfl rfl rfl ?_
              refine T.callV (pc' := 32) (ci := 5) (q_d dX5_behind_0 16 rfl) rfl uX5_standingMoves wM_X5_129 (c_standingMoves hX) rfl rfl (by decide) rfl rfl (by decide) (Nat.le_of_ble_eq_true rfl) rfl rfl (fun _ => rfl) ?_
              rintro _ M2 ⟨rfl, e8, e9, e10, f28, fT, hTb⟩
              have hXb := hX.tb fT hTb
              dsimp only [Option.toList, List.cons_append, List.nil_append, List.append_nil]
              refine T.iload_n (pc' := 33) (q_d dX5_behind_0 17 rfl) rfl rfl rfl ?_
              refine T.iload_n (pc' := 34) (q_d dX5_behind_0 18 rfl) rfl rfl rfl ?_
              refine T.iload_n (pc' := 35) (q_d dX5_behind_0 19 rfl) rfl rfl rfl ?_
              refine T.if_ge (tgt := 42) (pc' := 38) (q_d dX5_behind_0 20 rfl) rfl (by decide)  (fun h35 => ?_) (fun h35 => ?_)
              · refine T.iload_n (pc' := 43) (q_d dX5_behind_0 23 rfl) rfl rfl rfl ?_
                refine T.callV (pc' := 46) (ci := 1) (q_d dX5_behind_0 24 rfl) rfl uX1_after wM_X5_163 (c_after hXb.1 hXb.2.2.2.1 (hTb.2.2.2.1 e8) a1 (by first | decide | (rcases a3 with a3 | a3; (rw [a3] at h35; exact absurd h35 w_neg); omega))) rfl rfl (by decide) rfl rfl (by decide) (Nat.le_of_ble_eq_true rfl) rfl rfl (fun _ => rfl) ?_
                rintro _ _ ⟨rfl, rfl⟩
                dsimp only [Option.toList, List.cons_append, List.nil_append, List.append_nil]
                refine T.iret (q_d dX5_behind_0 25 rfl) rfl rfl rfl ?_
                refine ⟨?_, pa, sw, hXb⟩
                unfold qBehind
                rw [if_pos ⟨⟨a1, a2⟩, a3⟩]
                rcases a3 with a3 | a3
                · first
                  | (rw [if_pos a3]; done)
                  | (rw [a3] at h35; exact absurd h35 w_neg)
                · first
                  | (rw [if_neg (by omega)]; done)
                  | exact absurd (w_pos a3) h35
              · refine T.iconst (pc' := 39) (v := nI 4) (q_d dX5_behind_0 21 rfl) rfl (by decide) ?_
                refine T.goto (tgt := 43) (q_d dX5_behind_0 22 rfl) (by decide) ?_
                refine T.callV (pc' := 46) (ci := 1) (q_d dX5_behind_0 24 rfl) rfl uX1_after wM_X5_163 (c_after hXb.1 hXb.2.2.2.1 (hTb.2.2.2.1 e8) a1 (by first | decide | (rcases a3 with a3 | a3; (rw [a3] at h35; exact absurd h35 w_neg); omega))) rfl rfl (by decide) rfl rfl (by decide) (Nat.le_of_ble_eq_true rfl) rfl rfl (fun _ => rfl) ?_
                rintro _ _ ⟨rfl, rfl⟩
                dsimp only [Option.toList, List.cons_append, List.nil_append, List.append_nil]
                refine T.iret (q_d dX5_behind_0 25 rfl) rfl rfl rfl ?_
                refine ⟨?_, pa, sw, hXb⟩
                unfold qBehind
                rw [if_pos ⟨⟨a1, a2⟩, a3⟩]
                rcases a3 with a3 | a3
                · first
                  | (rw [if_pos a3]; done)
                  | (rw [a3] at h35; exact absurd h35 w_neg)
                · first
                  | (rw [if_neg (by omega)]; done)
                  | exact absurd (w_pos a3) h35
            · exact absurd h22 (by rw [if_pos z3]; decide)
      · have z3 : ¬ inS w 4294967295 3 = true := fun q => a3 (e.mp q)
        refine T.aload_n (pc' := 1) (q_d dX5_behind_0 0 rfl) rfl rfl rfl ?_
        refine T.iload_n (pc' := 2) (q_d dX5_behind_0 1 rfl) rfl rfl rfl ?_
        refine T.callV (pc' := 5) (ci := 5) (q_d dX5_behind_0 2 rfl) rfl uX5_isSet wM_X5_114 (c_isSet hX.1 hX.2.2.1 hX.2.2.2.1 hu) rfl rfl (by decide) rfl rfl (by decide) (Nat.le_of_ble_eq_true rfl) rfl rfl (fun _ => rfl) ?_
        rintro _ _ ⟨rfl, rfl⟩
        dsimp only [Option.toList, List.cons_append, List.nil_append, List.append_nil]
        refine T.if_eqN (tgt := 25) (pc' := 8) (q_d dX5_behind_0 3 rfl) rfl (by decide) (by split <;> decide) (fun h5 => ?_) (fun h5 => ?_)
        · exact absurd h5 (by rw [if_pos a1]; decide)
        · refine T.aload_n (pc' := 9) (q_d dX5_behind_0 4 rfl) rfl rfl rfl ?_
          refine T.iload_n (pc' := 10) (q_d dX5_behind_0 5 rfl) rfl rfl rfl ?_
          refine T.callV (pc' := 13) (ci := 5) (q_d dX5_behind_0 6 rfl) rfl uX5_isSet wM_X5_114 (c_isSet hX.1 hX.2.2.1 hX.2.2.2.1 hv) rfl rfl (by decide) rfl rfl (by decide) (Nat.le_of_ble_eq_true rfl) rfl rfl (fun _ => rfl) ?_
          rintro _ _ ⟨rfl, rfl⟩
          dsimp only [Option.toList, List.cons_append, List.nil_append, List.append_nil]
          refine T.if_eqN (tgt := 25) (pc' := 16) (q_d dX5_behind_0 7 rfl) rfl (by decide) (by split <;> decide) (fun h13 => ?_) (fun h13 => ?_)
          · exact absurd h13 (by rw [if_pos a2]; decide)
          · refine T.iload_n (pc' := 17) (q_d dX5_behind_0 8 rfl) rfl rfl rfl ?_
            refine T.iconst (pc' := 18) (v := nI 4294967295) (q_d dX5_behind_0 9 rfl) rfl (by decide) ?_
            refine T.iconst (pc' := 19) (v := nI 3) (q_d dX5_behind_0 10 rfl) rfl (by decide) ?_
            refine T.callS (pc' := 22) (q_d dX5_behind_0 11 rfl) rfl uX5_isWithin wM_X5_60 (c_isWithin hw9 (lo := 4294967295) (by decide) (hi := 3) (by decide)) rfl rfl (by decide) (Nat.le_of_ble_eq_true rfl) rfl rfl (fun _ => rfl) ?_
            rintro _ _ ⟨rfl, rfl⟩
            dsimp only [Option.toList, List.cons_append, List.nil_append, List.append_nil]
            refine T.if_neN (tgt := 28) (pc' := 25) (q_d dX5_behind_0 12 rfl) rfl (by decide) (by split <;> decide) (fun h22 => ?_) (fun h22 => ?_)
            · exact absurd (if_neg z3) h22
            · refine T.ldc (pc' := 27) (v := nI 4293967295) (q_d dX5_behind_0 13 rfl) rfl wN_X5_64 ?_
              refine T.iret (q_d dX5_behind_0 14 rfl) rfl rfl rfl ?_
              exact ⟨by unfold qBehind; rw [if_neg (fun q => a3 q.2)], pa, sw, hX⟩
    · refine T.aload_n (pc' := 1) (q_d dX5_behind_0 0 rfl) rfl rfl rfl ?_
      refine T.iload_n (pc' := 2) (q_d dX5_behind_0 1 rfl) rfl rfl rfl ?_
      refine T.callV (pc' := 5) (ci := 5) (q_d dX5_behind_0 2 rfl) rfl uX5_isSet wM_X5_114 (c_isSet hX.1 hX.2.2.1 hX.2.2.2.1 hu) rfl rfl (by decide) rfl rfl (by decide) (Nat.le_of_ble_eq_true rfl) rfl rfl (fun _ => rfl) ?_
      rintro _ _ ⟨rfl, rfl⟩
      dsimp only [Option.toList, List.cons_append, List.nil_append, List.append_nil]
      refine T.if_eqN (tgt := 25) (pc' := 8) (q_d dX5_behind_0 3 rfl) rfl (by decide) (by split <;> decide) (fun h5 => ?_) (fun h5 => ?_)
      · exact absurd h5 (by rw [if_pos a1]; decide)
      · refine T.aload_n (pc' := 9) (q_d dX5_behind_0 4 rfl) rfl rfl rfl ?_
        refine T.iload_n (pc' := 10) (q_d dX5_behind_0 5 rfl) rfl rfl rfl ?_
        refine T.callV (pc' := 13) (ci := 5) (q_d dX5_behind_0 6 rfl) rfl uX5_isSet wM_X5_114 (c_isSet hX.1 hX.2.2.1 hX.2.2.2.1 hv) rfl rfl (by decide) rfl rfl (by decide) (Nat.le_of_ble_eq_true rfl) rfl rfl (fun _ => rfl) ?_
        rintro _ _ ⟨rfl, rfl⟩
        dsimp only [Option.toList, List.cons_append, List.nil_append, List.append_nil]
        refine T.if_eqN (tgt := 25) (pc' := 16) (q_d dX5_behind_0 7 rfl) rfl (by decide) (by split <;> decide) (fun h13 => ?_) (fun h13 => ?_)
        · refine T.ldc (pc' := 27) (v := nI 4293967295) (q_d dX5_behind_0 13 rfl) rfl wN_X5_64 ?_
          refine T.iret (q_d dX5_behind_0 14 rfl) rfl rfl rfl ?_
          exact ⟨by unfold qBehind; rw [if_neg (fun q => a2 q.1.2)], pa, sw, hX⟩
        · exact absurd (if_neg a2) h13
  · refine T.aload_n (pc' := 1) (q_d dX5_behind_0 0 rfl) rfl rfl rfl ?_
    refine T.iload_n (pc' := 2) (q_d dX5_behind_0 1 rfl) rfl rfl rfl ?_
    refine T.callV (pc' := 5) (ci := 5) (q_d dX5_behind_0 2 rfl) rfl uX5_isSet wM_X5_114 (c_isSet hX.1 hX.2.2.1 hX.2.2.2.1 hu) rfl rfl (by decide) rfl rfl (by decide) (Nat.le_of_ble_eq_true rfl) rfl rfl (fun _ => rfl) ?_
    rintro _ _ ⟨rfl, rfl⟩
    dsimp only [Option.toList, List.cons_append, List.nil_append, List.append_nil]
    refine T.if_eqN (tgt := 25) (pc' := 8) (q_d dX5_behind_0 3 rfl) rfl (by decide) (by split <;> decide) (fun h5 => ?_) (fun h5 => ?_)
    · refine T.ldc (pc' := 27) (v := nI 4293967295) (q_d dX5_behind_0 13 rfl) rfl wN_X5_64 ?_
      refine T.iret (q_d dX5_behind_0 14 rfl) rfl rfl rfl ?_
      exact ⟨by unfold qBehind; rw [if_neg (fun q => a1 q.1.1)], pa, sw, hX⟩
    · exact absurd (if_neg a1) h5
theorem c_sure (hX : RX M b s k was n t pa sw) {u v : Nat} (hu : u < 4294967296) (hv : v < 4294967296) : Ct l hdX kX mX5_sure [.ref 0, .int (nI u), .int (nI v)] M (OX b (qSure s u v, (s, k, was, n, t))) := by
  refine Ct.of [some (.ref 0), some (.int (nI u)), some (.int (nI v)), none] (by decide +kernel) (fun h => absurd h (by decide)) (Nat.le_of_ble_eq_true rfl) rfl ?_
  have e := inS_iff (lo := 0) (hi := 1) hv (by decide) (by decide)
  have w0 := p2_le hX.2.2.2.1.1
  have nv := sol_vals (s := s) (g0 := 0) (g1 := 3) u
  have nl := nc_lt nv
  have nm := nc_m1 nv
  by_cases a1 : u < 2 ^ s 0
  · by_cases a2 : v ≤ 1
    · have z2 : inS v 0 1 = true := e.mpr ⟨Nat.zero_le _, a2⟩
      refine T.aload_n (pc' := 1) (q_d dX5_sure_0 0 rfl) rfl rfl rfl ?_
      refine T.iload_n (pc' := 2) (q_d dX5_sure_0 1 rfl) rfl rfl rfl ?_
      refine T.callV (pc' := 5) (ci := 5) (q_d dX5_sure_0 2 rfl) rfl uX5_isSet wM_X5_114 (c_isSet hX.1 hX.2.2.1 hX.2.2.2.1 hu) rfl rfl (by decide) rfl rfl (by decide) (Nat.le_of_ble_eq_true rfl) rfl rfl (fun _ => rfl) ?_
      rintro _ _ ⟨rfl, rfl⟩
      dsimp only [Option.toList, List.cons_append, List.nil_append, List.append_nil]
      refine T.if_eqN (tgt := 17) (pc' := 8) (q_d dX5_sure_0 3 rfl) rfl (by decide) (by split <;> decide) (fun h5 => ?_) (fun h5 => ?_)
      · exact absurd h5 (by rw [if_pos a1]; decide)
      · refine T.iload_n (pc' := 9) (q_d dX5_sure_0 4 rfl) rfl rfl rfl ?_
        refine T.iconst (pc' := 10) (v := nI 0) (q_d dX5_sure_0 5 rfl) rfl (by decide) ?_
        refine T.iconst (pc' := 11) (v := nI 1) (q_d dX5_sure_0 6 rfl) rfl (by decide) ?_
        refine T.callS (pc' := 14) (q_d dX5_sure_0 7 rfl) rfl uX5_isWithin wM_X5_60 (c_isWithin hv (by decide) (hi := 1) (by decide)) rfl rfl (by decide) (Nat.le_of_ble_eq_true rfl) rfl rfl (fun _ => rfl) ?_
        rintro _ _ ⟨rfl, rfl⟩
        dsimp only [Option.toList, List.cons_append, List.nil_append, List.append_nil]
        refine T.if_neN (tgt := 20) (pc' := 17) (q_d dX5_sure_0 8 rfl) rfl (by decide) (by split <;> decide) (fun h14 => ?_) (fun h14 => ?_)
        · refine T.aload_n (pc' := 21) (q_d dX5_sure_0 11 rfl) rfl rfl rfl ?_
          refine T.callV (pc' := 24) (ci := 5) (q_d dX5_sure_0 12 rfl) rfl uX5_standingHearing wM_X5_167 (c_standingHearing hX) rfl rfl (by decide) rfl rfl (by decide) (Nat.le_of_ble_eq_true rfl) rfl rfl (fun _ => rfl) ?_
          rintro _ M2 ⟨rfl, e8, e9, fT, hTb⟩
          have hXb := hX.tb fT hTb
          have hn := (hTb.2.2.2.2.1 e9).2 u (by omega)
          dsimp only [Option.toList, List.cons_append, List.nil_append, List.append_nil]
          refine T.astore_n (pc' := 25) (q_d dX5_sure_0 13 rfl) rfl rfl (by decide) rfl rfl ?_
          refine T.aload_n (pc' := 26) (q_d dX5_sure_0 14 rfl) rfl rfl rfl ?_
          refine T.getR (pc' := 29) (ci := 0) (k0 := 0) (q_d dX5_sure_0 15 rfl) rfl rfl (by decide) rfl inX0 (by decide) rfl wF_X5_171 (rP (P := pX _ sw) (by first | exact hXb.1 | exact hX.1) rfl) ?_
          refine T.iload_n (pc' := 30) (q_d dX5_sure_0 16 rfl) rfl rfl rfl ?_
          refine T.iald (pc' := 31) (q_d dX5_sure_0 17 rfl) rfl rfl (by decide) rfl (by omega) (by decide) hn.1 ?_
          refine T.iconst (pc' := 32) (v := nI 4294967295) (q_d dX5_sure_0 18 rfl) rfl (by decide) ?_
          refine T.icmp_neN (tgt := 38) (pc' := 35) (q_d dX5_sure_0 19 rfl) rfl (by decide) (by omega) (by omega) (fun h32 => ?_) (fun h32 => ?_)
          · refine T.iload_n (pc' := 39) (q_d dX5_sure_0 22 rfl) rfl rfl rfl ?_
            refine T.if_neN (tgt := 51) (pc' := 42) (q_d dX5_sure_0 23 rfl) rfl (by decide) (by omega) (fun h39 => ?_) (fun h39 => ?_)
            · refine T.aload_n (pc' := 52) (q_d dX5_sure_0 29 rfl) rfl rfl rfl ?_
              refine T.getR (pc' := 55) (ci := 0) (k0 := 1) (q_d dX5_sure_0 30 rfl) rfl rfl (by decide) rfl inX0 (by decide) rfl wF_X5_174 (rP (P := pX _ sw) (by first | exact hXb.1 | exact hX.1) rfl) ?_
              refine T.iload_n (pc' := 56) (q_d dX5_sure_0 31 rfl) rfl rfl rfl ?_
              refine T.iald (pc' := 57) (q_d dX5_sure_0 32 rfl) rfl rfl (by decide) rfl (by omega) (by decide) hn.2 ?_
              refine T.iret (q_d dX5_sure_0 33 rfl) rfl rfl rfl ?_
              have hne : (solN s 0 3 127).1 u ≠ 1000 := by omega
              refine ⟨?_, pa, sw, hXb⟩
              unfold qSure
              rw [if_pos ⟨a1, a2⟩, if_neg hne]
              first
                | (rw [if_pos h39, nc_id hne]; done)
                | (rw [if_neg h39]; done)
            · refine T.aload_n (pc' := 43) (q_d dX5_sure_0 24 rfl) rfl rfl rfl ?_
              refine T.getR (pc' := 46) (ci := 0) (k0 := 0) (q_d dX5_sure_0 25 rfl) rfl rfl (by decide) rfl inX0 (by decide) rfl wF_X5_171 (rP (P := pX _ sw) (by first | exact hXb.1 | exact hX.1) rfl) ?_
              refine T.iload_n (pc' := 47) (q_d dX5_sure_0 26 rfl) rfl rfl rfl ?_
              refine T.iald (pc' := 48) (q_d dX5_sure_0 27 rfl) rfl rfl (by decide) rfl (by omega) (by decide) hn.1 ?_
              refine T.goto (tgt := 57) (q_d dX5_sure_0 28 rfl) (by decide) ?_
              refine T.iret (q_d dX5_sure_0 33 rfl) rfl rfl rfl ?_
              have hne : (solN s 0 3 127).1 u ≠ 1000 := by omega
              refine ⟨?_, pa, sw, hXb⟩
              unfold qSure
              rw [if_pos ⟨a1, a2⟩, if_neg hne]
              first
                | (rw [if_pos h39, nc_id hne]; done)
                | (rw [if_neg h39]; done)
          · refine T.ldc (pc' := 37) (v := nI 4293967292) (q_d dX5_sure_0 20 rfl) rfl wN_X5_150 ?_
            refine T.iret (q_d dX5_sure_0 21 rfl) rfl rfl rfl ?_
            exact ⟨by unfold qSure; rw [if_pos ⟨a1, a2⟩, if_pos (by omega)], pa, sw, hXb⟩
        · exact absurd h14 (by rw [if_pos z2]; decide)
    · have z2 : ¬ inS v 0 1 = true := fun q => a2 (e.mp q).2
      refine T.aload_n (pc' := 1) (q_d dX5_sure_0 0 rfl) rfl rfl rfl ?_
      refine T.iload_n (pc' := 2) (q_d dX5_sure_0 1 rfl) rfl rfl rfl ?_
      refine T.callV (pc' := 5) (ci := 5) (q_d dX5_sure_0 2 rfl) rfl uX5_isSet wM_X5_114 (c_isSet hX.1 hX.2.2.1 hX.2.2.2.1 hu) rfl rfl (by decide) rfl rfl (by decide) (Nat.le_of_ble_eq_true rfl) rfl rfl (fun _ => rfl) ?_
      rintro _ _ ⟨rfl, rfl⟩
      dsimp only [Option.toList, List.cons_append, List.nil_append, List.append_nil]
      refine T.if_eqN (tgt := 17) (pc' := 8) (q_d dX5_sure_0 3 rfl) rfl (by decide) (by split <;> decide) (fun h5 => ?_) (fun h5 => ?_)
      · exact absurd h5 (by rw [if_pos a1]; decide)
      · refine T.iload_n (pc' := 9) (q_d dX5_sure_0 4 rfl) rfl rfl rfl ?_
        refine T.iconst (pc' := 10) (v := nI 0) (q_d dX5_sure_0 5 rfl) rfl (by decide) ?_
        refine T.iconst (pc' := 11) (v := nI 1) (q_d dX5_sure_0 6 rfl) rfl (by decide) ?_
        refine T.callS (pc' := 14) (q_d dX5_sure_0 7 rfl) rfl uX5_isWithin wM_X5_60 (c_isWithin hv (by decide) (hi := 1) (by decide)) rfl rfl (by decide) (Nat.le_of_ble_eq_true rfl) rfl rfl (fun _ => rfl) ?_
        rintro _ _ ⟨rfl, rfl⟩
        dsimp only [Option.toList, List.cons_append, List.nil_append, List.append_nil]
        refine T.if_neN (tgt := 20) (pc' := 17) (q_d dX5_sure_0 8 rfl) rfl (by decide) (by split <;> decide) (fun h14 => ?_) (fun h14 => ?_)
        · exact absurd (if_neg z2) h14
        · refine T.ldc (pc' := 19) (v := nI 4293967295) (q_d dX5_sure_0 9 rfl) rfl wN_X5_64 ?_
          refine T.iret (q_d dX5_sure_0 10 rfl) rfl rfl rfl ?_
          exact ⟨by unfold qSure; rw [if_neg (fun q => a2 q.2)], pa, sw, hX⟩
  · refine T.aload_n (pc' := 1) (q_d dX5_sure_0 0 rfl) rfl rfl rfl ?_
    refine T.iload_n (pc' := 2) (q_d dX5_sure_0 1 rfl) rfl rfl rfl ?_
    refine T.callV (pc' := 5) (ci := 5) (q_d dX5_sure_0 2 rfl) rfl uX5_isSet wM_X5_114 (c_isSet hX.1 hX.2.2.1 hX.2.2.2.1 hu) rfl rfl (by decide) rfl rfl (by decide) (Nat.le_of_ble_eq_true rfl) rfl rfl (fun _ => rfl) ?_
    rintro _ _ ⟨rfl, rfl⟩
    dsimp only [Option.toList, List.cons_append, List.nil_append, List.append_nil]
    refine T.if_eqN (tgt := 17) (pc' := 8) (q_d dX5_sure_0 3 rfl) rfl (by decide) (by split <;> decide) (fun h5 => ?_) (fun h5 => ?_)
    · refine T.ldc (pc' := 19) (v := nI 4293967295) (q_d dX5_sure_0 9 rfl) rfl wN_X5_64 ?_
      refine T.iret (q_d dX5_sure_0 10 rfl) rfl rfl rfl ?_
      exact ⟨by unfold qSure; rw [if_neg (fun q => a1 q.1)], pa, sw, hX⟩
    · exact absurd (if_neg a1) h5
theorem c_deaf (hX : RX M b s k was n t pa sw) {u : Nat} (hu : u < 4294967296) : Ct l hdX kX mX5_deaf [.ref 0, .int (nI u)] M (OX b (qDeaf s u, (s, k, was, n, t))) := by
  refine Ct.of [some (.ref 0), some (.int (nI u)), none] (by decide +kernel) (fun h => absurd h (by decide)) (Nat.le_of_ble_eq_true rfl) rfl ?_
  have w0 := p2_le hX.2.2.2.1.1
  have nv := sol_vals (s := s) (g0 := 4) (g1 := 4) u
  have nl := nc_lt nv
  have nm := nc_m1 nv
  by_cases a1 : u < 2 ^ s 0
  · refine T.aload_n (pc' := 1) (q_d dX5_deaf_0 0 rfl) rfl rfl rfl ?_
    refine T.iload_n (pc' := 2) (q_d dX5_deaf_0 1 rfl) rfl rfl rfl ?_
    refine T.callV (pc' := 5) (ci := 5) (q_d dX5_deaf_0 2 rfl) rfl uX5_isSet wM_X5_114 (c_isSet hX.1 hX.2.2.1 hX.2.2.2.1 hu) rfl rfl (by decide) rfl rfl (by decide) (Nat.le_of_ble_eq_true rfl) rfl rfl (fun _ => rfl) ?_
    rintro _ _ ⟨rfl, rfl⟩
    dsimp only [Option.toList, List.cons_append, List.nil_append, List.append_nil]
    refine T.if_neN (tgt := 11) (pc' := 8) (q_d dX5_deaf_0 3 rfl) rfl (by decide) (by split <;> decide) (fun h5 => ?_) (fun h5 => ?_)
    · refine T.aload_n (pc' := 12) (q_d dX5_deaf_0 6 rfl) rfl rfl rfl ?_
      refine T.callV (pc' := 15) (ci := 5) (q_d dX5_deaf_0 7 rfl) rfl uX5_standingUnhearing wM_X5_177 (c_standingUnhearing hX) rfl rfl (by decide) rfl rfl (by decide) (Nat.le_of_ble_eq_true rfl) rfl rfl (fun _ => rfl) ?_
      rintro _ M2 ⟨rfl, e8, e9, fT, hTb⟩
      have hXb := hX.tb fT hTb
      have hn := (hTb.2.2.2.2.2.1 e9).2 u (by omega)
      dsimp only [Option.toList, List.cons_append, List.nil_append, List.append_nil]
      refine T.getR (pc' := 18) (ci := 0) (k0 := 0) (q_d dX5_deaf_0 8 rfl) rfl rfl (by decide) rfl inX0 (by decide) rfl wF_X5_171 (rP (P := pX _ sw) (by first | exact hXb.1 | exact hX.1) rfl) ?_
      refine T.iload_n (pc' := 19) (q_d dX5_deaf_0 9 rfl) rfl rfl rfl ?_
      refine T.iald (pc' := 20) (q_d dX5_deaf_0 10 rfl) rfl rfl (by decide) rfl (by omega) (by decide) hn.1 ?_
      refine T.istore_n (pc' := 21) (q_d dX5_deaf_0 11 rfl) rfl rfl (by decide) rfl rfl ?_
      refine T.iload_n (pc' := 22) (q_d dX5_deaf_0 12 rfl) rfl rfl rfl ?_
      refine T.iconst (pc' := 23) (v := nI 4294967295) (q_d dX5_deaf_0 13 rfl) rfl (by decide) ?_
      refine T.icmp_neN (tgt := 31) (pc' := 26) (q_d dX5_deaf_0 14 rfl) rfl (by decide) (by omega) (by omega) (fun h23 => ?_) (fun h23 => ?_)
      · refine T.iload_n (pc' := 32) (q_d dX5_deaf_0 17 rfl) rfl rfl rfl ?_
        refine T.iret (q_d dX5_deaf_0 18 rfl) rfl rfl rfl ?_
        refine ⟨?_, pa, sw, hXb⟩
        unfold qDeaf
        rw [if_pos a1]
        first
          | (rw [if_pos (by omega)]; done)
          | (have hne : (solN s 4 4 127).1 u ≠ 1000 := by omega
             rw [if_neg hne, nc_id hne])
      · refine T.ldc (pc' := 28) (v := nI 4293967292) (q_d dX5_deaf_0 15 rfl) rfl wN_X5_150 ?_
        refine T.goto (tgt := 32) (q_d dX5_deaf_0 16 rfl) (by decide) ?_
        refine T.iret (q_d dX5_deaf_0 18 rfl) rfl rfl rfl ?_
        refine ⟨?_, pa, sw, hXb⟩
        unfold qDeaf
        rw [if_pos a1]
        first
          | (rw [if_pos (by omega)]; done)
          | (have hne : (solN s 4 4 127).1 u ≠ 1000 := by omega
             rw [if_neg hne, nc_id hne])
    · exact absurd h5 (by rw [if_pos a1]; decide)
  · refine T.aload_n (pc' := 1) (q_d dX5_deaf_0 0 rfl) rfl rfl rfl ?_
    refine T.iload_n (pc' := 2) (q_d dX5_deaf_0 1 rfl) rfl rfl rfl ?_
    refine T.callV (pc' := 5) (ci := 5) (q_d dX5_deaf_0 2 rfl) rfl uX5_isSet wM_X5_114 (c_isSet hX.1 hX.2.2.1 hX.2.2.2.1 hu) rfl rfl (by decide) rfl rfl (by decide) (Nat.le_of_ble_eq_true rfl) rfl rfl (fun _ => rfl) ?_
    rintro _ _ ⟨rfl, rfl⟩
    dsimp only [Option.toList, List.cons_append, List.nil_append, List.append_nil]
    refine T.if_neN (tgt := 11) (pc' := 8) (q_d dX5_deaf_0 3 rfl) rfl (by decide) (by split <;> decide) (fun h5 => ?_) (fun h5 => ?_)
    · exact absurd (if_neg a1) h5
    · refine T.ldc (pc' := 10) (v := nI 4293967295) (q_d dX5_deaf_0 4 rfl) rfl wN_X5_64 ?_
      refine T.iret (q_d dX5_deaf_0 5 rfl) rfl rfl rfl ?_
      exact ⟨by unfold qDeaf; rw [if_neg a1], pa, sw, hX⟩
theorem c_memory (hX : RX M b s k was n t pa sw) {u : Nat} (hu : u < 4294967296) : Ct l hdX kX mX5_memory [.ref 0, .int (nI u)] M (OX b (qMemory s u, (s, k, was, n, t))) := by
  refine Ct.of [some (.ref 0), some (.int (nI u)), none] (by decide +kernel) (fun h => absurd h (by decide)) (Nat.le_of_ble_eq_true rfl) rfl ?_
  have w0 := p2_le hX.2.2.2.1.1
  have nv := sol_vals (s := s) (g0 := 0) (g1 := 3) u
  have nl := nc_lt nv
  have nm := nc_m1 nv
  by_cases a1 : u < 2 ^ s 0
  · refine T.aload_n (pc' := 1) (q_d dX5_memory_0 0 rfl) rfl rfl rfl ?_
    refine T.iload_n (pc' := 2) (q_d dX5_memory_0 1 rfl) rfl rfl rfl ?_
    refine T.callV (pc' := 5) (ci := 5) (q_d dX5_memory_0 2 rfl) rfl uX5_isSet wM_X5_114 (c_isSet hX.1 hX.2.2.1 hX.2.2.2.1 hu) rfl rfl (by decide) rfl rfl (by decide) (Nat.le_of_ble_eq_true rfl) rfl rfl (fun _ => rfl) ?_
    rintro _ _ ⟨rfl, rfl⟩
    dsimp only [Option.toList, List.cons_append, List.nil_append, List.append_nil]
    refine T.if_neN (tgt := 11) (pc' := 8) (q_d dX5_memory_0 3 rfl) rfl (by decide) (by split <;> decide) (fun h5 => ?_) (fun h5 => ?_)
    · refine T.aload_n (pc' := 12) (q_d dX5_memory_0 6 rfl) rfl rfl rfl ?_
      refine T.callV (pc' := 15) (ci := 5) (q_d dX5_memory_0 7 rfl) rfl uX5_standingHearing wM_X5_167 (c_standingHearing hX) rfl rfl (by decide) rfl rfl (by decide) (Nat.le_of_ble_eq_true rfl) rfl rfl (fun _ => rfl) ?_
      rintro _ M2 ⟨rfl, e8, e9, fT, hTb⟩
      have hXb := hX.tb fT hTb
      have hn := (hTb.2.2.2.2.1 e9).2 u (by omega)
      dsimp only [Option.toList, List.cons_append, List.nil_append, List.append_nil]
      refine T.astore_n (pc' := 16) (q_d dX5_memory_0 8 rfl) rfl rfl (by decide) rfl rfl ?_
      refine T.aload_n (pc' := 17) (q_d dX5_memory_0 9 rfl) rfl rfl rfl ?_
      refine T.getR (pc' := 20) (ci := 0) (k0 := 0) (q_d dX5_memory_0 10 rfl) rfl rfl (by decide) rfl inX0 (by decide) rfl wF_X5_171 (rP (P := pX _ sw) (by first | exact hXb.1 | exact hX.1) rfl) ?_
      refine T.iload_n (pc' := 21) (q_d dX5_memory_0 11 rfl) rfl rfl rfl ?_
      refine T.iald (pc' := 22) (q_d dX5_memory_0 12 rfl) rfl rfl (by decide) rfl (by omega) (by decide) hn.1 ?_
      refine T.iconst (pc' := 23) (v := nI 4294967295) (q_d dX5_memory_0 13 rfl) rfl (by decide) ?_
      refine T.icmp_neN (tgt := 29) (pc' := 26) (q_d dX5_memory_0 14 rfl) rfl (by decide) (by omega) (by omega) (fun h23 => ?_) (fun h23 => ?_)
      · refine T.aload_n (pc' := 30) (q_d dX5_memory_0 17 rfl) rfl rfl rfl ?_
        refine T.aload_n (pc' := 31) (q_d dX5_memory_0 18 rfl) rfl rfl rfl ?_
        refine T.iload_n (pc' := 32) (q_d dX5_memory_0 19 rfl) rfl rfl rfl ?_
        refine T.callV (pc' := 35) (ci := 5) (q_d dX5_memory_0 20 rfl) rfl uX5_countComing wM_X5_180 (c_countComing hXb.1 hXb.2.2.1 hXb.2.2.2.1 (hTb.2.2.2.1 e8) (hTb.2.2.2.2.1 e9).2 a1 (by omega)) rfl rfl (by decide) rfl rfl (by decide) (Nat.le_of_ble_eq_true rfl) rfl rfl (fun _ => rfl) ?_
        rintro _ M3 ⟨rfl, m2, m3⟩
        dsimp only [Option.toList, List.cons_append, List.nil_append, List.append_nil]
        refine T.iret (q_d dX5_memory_0 21 rfl) rfl rfl rfl ?_
        refine ⟨by unfold qMemory; rw [if_pos a1, if_neg (by omega)], pa, sw, ?_⟩
        exact hXb.c38 m2 m3
      · refine T.ldc (pc' := 28) (v := nI 4293967292) (q_d dX5_memory_0 15 rfl) rfl wN_X5_150 ?_
        refine T.iret (q_d dX5_memory_0 16 rfl) rfl rfl rfl ?_
        exact ⟨by unfold qMemory; rw [if_pos a1, if_pos (by omega)], pa, sw, hXb⟩
    · exact absurd h5 (by rw [if_pos a1]; decide)
  · refine T.aload_n (pc' := 1) (q_d dX5_memory_0 0 rfl) rfl rfl rfl ?_
    refine T.iload_n (pc' := 2) (q_d dX5_memory_0 1 rfl) rfl rfl rfl ?_
    refine T.callV (pc' := 5) (ci := 5) (q_d dX5_memory_0 2 rfl) rfl uX5_isSet wM_X5_114 (c_isSet hX.1 hX.2.2.1 hX.2.2.2.1 hu) rfl rfl (by decide) rfl rfl (by decide) (Nat.le_of_ble_eq_true rfl) rfl rfl (fun _ => rfl) ?_
    rintro _ _ ⟨rfl, rfl⟩
    dsimp only [Option.toList, List.cons_append, List.nil_append, List.append_nil]
    refine T.if_neN (tgt := 11) (pc' := 8) (q_d dX5_memory_0 3 rfl) rfl (by decide) (by split <;> decide) (fun h5 => ?_) (fun h5 => ?_)
    · exact absurd (if_neg a1) h5
    · refine T.ldc (pc' := 10) (v := nI 4293967295) (q_d dX5_memory_0 4 rfl) rfl wN_X5_64 ?_
      refine T.iret (q_d dX5_memory_0 5 rfl) rfl rfl rfl ?_
      exact ⟨by unfold qMemory; rw [if_neg a1], pa, sw, hX⟩
theorem c_beliefs (hX : RX M b s k was n t pa sw) {u : Nat} (hu : u < 4294967296) : Ct l hdX kX mX5_beliefs [.ref 0, .int (nI u)] M (OX b (qBeliefs s u, (s, k, was, n, t))) := by
  refine Ct.of [some (.ref 0), some (.int (nI u))] (by decide +kernel) (fun h => absurd h (by decide)) (Nat.le_of_ble_eq_true rfl) rfl ?_
  have w0 := p2_le hX.2.2.2.1.1
  have ho : SO 1 := Or.inl rfl
  have hpos : 1 ≤ 2 ^ s 0 := Nat.two_pow_pos _
  have hH : HO 29 0 3 := Or.inl ⟨rfl, rfl, rfl⟩
  have hU : HO 32 4 4 := Or.inr ⟨rfl, rfl, rfl⟩
  refine T.iload_n (pc' := 1) (q_d dX5_beliefs_0 0 rfl) rfl rfl rfl ?_
  rcases (by omega : u = 0 ∨ u = 1 ∨ u = 2 ∨ u = 3 ∨ u = 4 ∨ 4 < u) with rfl | rfl | rfl | rfl | rfl | h12
  · refine T.tableIn (tgt := 36) (q_d dX5_beliefs_0 1 rfl) (by decide +kernel) (by decide +kernel) (off := 35) (by decide +kernel) (by decide) ?_
    refine T.aload_n (pc' := 37) (q_d dX5_beliefs_0 2 rfl) rfl rfl rfl ?_
    refine T.getR (pc' := 40) (ci := 5) (k0 := 0) (q_d dX5_beliefs_0 3 rfl) rfl rfl (by decide) rfl inX5 (by decide) rfl wF_X5_10 (rP (P := pX _ sw) (by first | exact hXb.1 | exact hX.1) rfl) ?_
    refine T.callV (pc' := 43) (ci := 3) (q_d dX5_beliefs_0 4 rfl) rfl uX3_sets wM_X5_184 (c_sets2 ho hX.1 hX.2.2.1 hX.2.2.2.1) rfl rfl (by decide) rfl rfl (by decide) (Nat.le_of_ble_eq_true rfl) rfl rfl (fun _ => rfl) ?_
    rintro _ _ ⟨rfl, rfl⟩
    dsimp only [Option.toList, List.cons_append, List.nil_append, List.append_nil]
    refine T.iconst (pc' := 44) (v := nI 1) (q_d dX5_beliefs_0 5 rfl) rfl (by decide) ?_
    refine T.isub (pc' := 45) (q_d dX5_beliefs_0 6 rfl) rfl (nN_sub (by omega)) ?_
    refine T.iret (q_d dX5_beliefs_0 7 rfl) rfl rfl rfl ?_
    exact ⟨by simp [qBeliefs], pa, sw, hX⟩
  · refine T.tableIn (tgt := 46) (q_d dX5_beliefs_0 1 rfl) (by decide +kernel) (by decide +kernel) (off := 45) (by decide +kernel) (by decide) ?_
    refine T.aload_n (pc' := 47) (q_d dX5_beliefs_0 8 rfl) rfl rfl rfl ?_
    refine T.callV (pc' := 50) (ci := 5) (q_d dX5_beliefs_0 9 rfl) rfl uX5_standingHearing wM_X5_167 (c_standingHearing hX) rfl rfl (by decide) rfl rfl (by decide) (Nat.le_of_ble_eq_true rfl) rfl rfl (fun _ => rfl) ?_
    rintro _ M2 ⟨rfl, e8, e9, fT, hTb⟩
    have hXb := hX.tb fT hTb
    have hR := (hTb.2.2.2.2.1 e9).2
    dsimp only [Option.toList, List.cons_append, List.nil_append, List.append_nil]
    refine T.aload_n (pc' := 51) (q_d dX5_beliefs_0 10 rfl) rfl rfl rfl ?_
    refine T.getR (pc' := 54) (ci := 5) (k0 := 0) (q_d dX5_beliefs_0 11 rfl) rfl rfl (by decide) rfl inX5 (by decide) rfl wF_X5_10 (rP (P := pX _ sw) (by first | exact hXb.1 | exact hX.1) rfl) ?_
    refine T.callV (pc' := 57) (ci := 3) (q_d dX5_beliefs_0 12 rfl) rfl uX3_sets wM_X5_184 (c_sets2 ho hXb.1 hXb.2.2.1 hXb.2.2.2.1) rfl rfl (by decide) rfl rfl (by decide) (Nat.le_of_ble_eq_true rfl) rfl rfl (fun _ => rfl) ?_
    rintro _ _ ⟨rfl, rfl⟩
    dsimp only [Option.toList, List.cons_append, List.nil_append, List.append_nil]
    refine T.callV (pc' := 60) (ci := 0) (q_d dX5_beliefs_0 13 rfl) rfl uX0_countSure wM_X5_188 (c_countSure hH hXb.1 (fun y hy => (hR y hy).1) sol_vals hpos w0) rfl rfl (by decide) rfl rfl (by decide) (Nat.le_of_ble_eq_true rfl) rfl rfl (fun _ => rfl) ?_
    rintro _ _ ⟨rfl, rfl⟩
    dsimp only [Option.toList, List.cons_append, List.nil_append, List.append_nil]
    refine T.iret (q_d dX5_beliefs_0 14 rfl) rfl rfl rfl ?_
    exact ⟨by simp [qBeliefs], pa, sw, hXb⟩
  · refine T.tableIn (tgt := 61) (q_d dX5_beliefs_0 1 rfl) (by decide +kernel) (by decide +kernel) (off := 60) (by decide +kernel) (by decide) ?_
    refine T.aload_n (pc' := 62) (q_d dX5_beliefs_0 15 rfl) rfl rfl rfl ?_
    refine T.callV (pc' := 65) (ci := 5) (q_d dX5_beliefs_0 16 rfl) rfl uX5_standingHearing wM_X5_167 (c_standingHearing hX) rfl rfl (by decide) rfl rfl (by decide) (Nat.le_of_ble_eq_true rfl) rfl rfl (fun _ => rfl) ?_
    rintro _ M2 ⟨rfl, e8, e9, fT, hTb⟩
    have hXb := hX.tb fT hTb
    have hR := (hTb.2.2.2.2.1 e9).2
    dsimp only [Option.toList, List.cons_append, List.nil_append, List.append_nil]
    refine T.aload_n (pc' := 66) (q_d dX5_beliefs_0 17 rfl) rfl rfl rfl ?_
    refine T.getR (pc' := 69) (ci := 5) (k0 := 0) (q_d dX5_beliefs_0 18 rfl) rfl rfl (by decide) rfl inX5 (by decide) rfl wF_X5_10 (rP (P := pX _ sw) (by first | exact hXb.1 | exact hX.1) rfl) ?_
    refine T.callV (pc' := 72) (ci := 3) (q_d dX5_beliefs_0 19 rfl) rfl uX3_sets wM_X5_184 (c_sets2 ho hXb.1 hXb.2.2.1 hXb.2.2.2.1) rfl rfl (by decide) rfl rfl (by decide) (Nat.le_of_ble_eq_true rfl) rfl rfl (fun _ => rfl) ?_
    rintro _ _ ⟨rfl, rfl⟩
    dsimp only [Option.toList, List.cons_append, List.nil_append, List.append_nil]
    refine T.callV (pc' := 75) (ci := 0) (q_d dX5_beliefs_0 20 rfl) rfl uX0_mostNeeded wM_X5_191 (c_mostNeeded hH hXb.1 (fun y hy => (hR y hy).1) sol_vals hpos w0) rfl rfl (by decide) rfl rfl (by decide) (Nat.le_of_ble_eq_true rfl) rfl rfl (fun _ => rfl) ?_
    rintro _ _ ⟨rfl, rfl⟩
    dsimp only [Option.toList, List.cons_append, List.nil_append, List.append_nil]
    refine T.iret (q_d dX5_beliefs_0 21 rfl) rfl rfl rfl ?_
    exact ⟨by simp [qBeliefs], pa, sw, hXb⟩
  · refine T.tableIn (tgt := 76) (q_d dX5_beliefs_0 1 rfl) (by decide +kernel) (by decide +kernel) (off := 75) (by decide +kernel) (by decide) ?_
    refine T.aload_n (pc' := 77) (q_d dX5_beliefs_0 22 rfl) rfl rfl rfl ?_
    refine T.callV (pc' := 80) (ci := 5) (q_d dX5_beliefs_0 23 rfl) rfl uX5_standingHearing wM_X5_167 (c_standingHearing hX) rfl rfl (by decide) rfl rfl (by decide) (Nat.le_of_ble_eq_true rfl) rfl rfl (fun _ => rfl) ?_
    rintro _ M2 ⟨rfl, e8, e9, fT, hTb⟩
    have hXb := hX.tb fT hTb
    have hR := (hTb.2.2.2.2.1 e9).2
    dsimp only [Option.toList, List.cons_append, List.nil_append, List.append_nil]
    refine T.aload_n (pc' := 81) (q_d dX5_beliefs_0 24 rfl) rfl rfl rfl ?_
    refine T.getR (pc' := 84) (ci := 5) (k0 := 0) (q_d dX5_beliefs_0 25 rfl) rfl rfl (by decide) rfl inX5 (by decide) rfl wF_X5_10 (rP (P := pX _ sw) (by first | exact hXb.1 | exact hX.1) rfl) ?_
    refine T.callV (pc' := 87) (ci := 3) (q_d dX5_beliefs_0 26 rfl) rfl uX3_sets wM_X5_184 (c_sets2 ho hXb.1 hXb.2.2.1 hXb.2.2.2.1) rfl rfl (by decide) rfl rfl (by decide) (Nat.le_of_ble_eq_true rfl) rfl rfl (fun _ => rfl) ?_
    rintro _ _ ⟨rfl, rfl⟩
    dsimp only [Option.toList, List.cons_append, List.nil_append, List.append_nil]
    refine T.callV (pc' := 90) (ci := 0) (q_d dX5_beliefs_0 27 rfl) rfl uX0_hardestBelief wM_X5_194 (c_hardestBelief hH hXb.1 (fun y hy => (hR y hy).1) sol_vals hpos w0) rfl rfl (by decide) rfl rfl (by decide) (Nat.le_of_ble_eq_true rfl) rfl rfl (fun _ => rfl) ?_
    rintro _ _ ⟨rfl, rfl⟩
    dsimp only [Option.toList, List.cons_append, List.nil_append, List.append_nil]
    refine T.iret (q_d dX5_beliefs_0 28 rfl) rfl rfl rfl ?_
    exact ⟨by simp [qBeliefs], pa, sw, hXb⟩
  · refine T.tableIn (tgt := 91) (q_d dX5_beliefs_0 1 rfl) (by decide +kernel) (by decide +kernel) (off := 90) (by decide +kernel) (by decide) ?_
    refine T.aload_n (pc' := 92) (q_d dX5_beliefs_0 29 rfl) rfl rfl rfl ?_
    refine T.callV (pc' := 95) (ci := 5) (q_d dX5_beliefs_0 30 rfl) rfl uX5_standingUnhearing wM_X5_177 (c_standingUnhearing hX) rfl rfl (by decide) rfl rfl (by decide) (Nat.le_of_ble_eq_true rfl) rfl rfl (fun _ => rfl) ?_
    rintro _ M2 ⟨rfl, e8, e9, fT, hTb⟩
    have hXb := hX.tb fT hTb
    have hR := (hTb.2.2.2.2.2.1 e9).2
    dsimp only [Option.toList, List.cons_append, List.nil_append, List.append_nil]
    refine T.aload_n (pc' := 96) (q_d dX5_beliefs_0 31 rfl) rfl rfl rfl ?_
    refine T.getR (pc' := 99) (ci := 5) (k0 := 0) (q_d dX5_beliefs_0 32 rfl) rfl rfl (by decide) rfl inX5 (by decide) rfl wF_X5_10 (rP (P := pX _ sw) (by first | exact hXb.1 | exact hX.1) rfl) ?_
    refine T.callV (pc' := 102) (ci := 3) (q_d dX5_beliefs_0 33 rfl) rfl uX3_sets wM_X5_184 (c_sets2 ho hXb.1 hXb.2.2.1 hXb.2.2.2.1) rfl rfl (by decide) rfl rfl (by decide) (Nat.le_of_ble_eq_true rfl) rfl rfl (fun _ => rfl) ?_
    rintro _ _ ⟨rfl, rfl⟩
    dsimp only [Option.toList, List.cons_append, List.nil_append, List.append_nil]
    refine T.callV (pc' := 105) (ci := 0) (q_d dX5_beliefs_0 34 rfl) rfl uX0_countSure wM_X5_188 (c_countSure hU hXb.1 (fun y hy => (hR y hy).1) sol_vals hpos w0) rfl rfl (by decide) rfl rfl (by decide) (Nat.le_of_ble_eq_true rfl) rfl rfl (fun _ => rfl) ?_
    rintro _ _ ⟨rfl, rfl⟩
    dsimp only [Option.toList, List.cons_append, List.nil_append, List.append_nil]
    refine T.iret (q_d dX5_beliefs_0 35 rfl) rfl rfl rfl ?_
    exact ⟨by simp [qBeliefs], pa, sw, hXb⟩
  · refine T.tableOut (tgt := 106) (q_d dX5_beliefs_0 1 rfl) (sw_out hu h12 (by decide)) (by decide) ?_
    refine T.ldc (pc' := 108) (v := nI 4293967295) (q_d dX5_beliefs_0 36 rfl) rfl wN_X5_64 ?_
    refine T.iret (q_d dX5_beliefs_0 37 rfl) rfl rfl rfl ?_
    exact ⟨by unfold qBeliefs; rw [if_neg (by omega), if_neg (by omega), if_neg (by omega), if_neg (by omega), if_neg (by omega)], pa, sw, hX⟩
theorem c_dangers (hX : RX M b s k was n t pa sw) {u : Nat} (hu : u < 4294967296) : Ct l hdX kX mX5_dangers [.ref 0, .int (nI u)] M (OX b (qDangers s u, (s, k, was, n, t))) := by
  refine Ct.of [some (.ref 0), some (.int (nI u)), none, none, none, none] (by decide +kernel) (fun h => absurd h (by decide)) (Nat.le_of_ble_eq_true rfl) rfl ?_
  have w7 := hX.2.2.2.1.1
  have w0 := p2_le w7
  have nv := sol_vals (s := s) (g0 := 0) (g1 := 3)
  have nv1 := nv u
  have nl := nc_lt nv1
  have nm := nc_m1 nv1
  by_cases a1 : u < 2 ^ s 0
  · have loop : ∀ d i (M' : qM), i + d = s 0 → RX M' b s k was n t pa sw → RHs M' 29 (solN s 0 3 127) → (solN s 0 3 127).1 u ≠ 1000 → T l hdX kX mX5_dangers (OX b (qDangers s u, (s, k, was, n, t))) 0 0 34 [some (.ref 0), some (.int (nI u)), some (.ref 29), some (.int (nI (orTo (fun p => if (solN s 0 3 127).1 (u ||| 1 <<< p) = 1000 then 1 <<< p else 0) i))), some (.int (nI i)), none] [] M' := by
      intro d
      induction d with
      | zero =>
        intro i M' hi hXb hR hne
        have e0 := hXb.2.2.1.1
        have ei : i = s 0 := by omega
        refine T.iload (pc' := 36) (q_d dX5_dangers_0 21 rfl) rfl rfl ?_
        refine T.aload_n (pc' := 37) (q_d dX5_dangers_0 22 rfl) rfl rfl rfl ?_
        refine T.getR (pc' := 40) (ci := 5) (k0 := 0) (q_d dX5_dangers_0 23 rfl) rfl rfl (by decide) rfl inX5 (by decide) rfl wF_X5_10 (rP hXb.1 rfl) ?_
        refine T.getI (pc' := 43) (ci := 3) (k0 := 0) (q_d dX5_dangers_0 24 rfl) rfl rfl (by decide) rfl inX3 (by decide) rfl wF_X5_65 e0 ?_
        refine T.icmp_geN (tgt := 76) (pc' := 46) (q_d dX5_dangers_0 25 rfl) rfl (by decide) (by omega) (by omega) (fun h43 => ?_) (fun h43 => ?_)
        · refine T.iload_n (pc' := 77) (q_d dX5_dangers_1 4 rfl) rfl rfl rfl ?_
          refine T.iret (q_d dX5_dangers_1 5 rfl) rfl rfl rfl ?_
          exact ⟨by unfold qDangers; rw [if_pos a1, if_neg hne, ei], pa, sw, hXb⟩
        · exact absurd h43 (by omega)
      | succ d ih =>
        intro i M' hi hXb hR hne
        have e0 := hXb.2.2.1.1
        have hor : u ||| 1 <<< i < 2 ^ s 0 := Nat.or_lt_two_pow a1 (by rw [Nat.one_shiftLeft]; exact Nat.pow_lt_pow_right (by decide) (by omega))
        have nv2 := nv (u ||| 1 <<< i)
        have nl2 := nc_lt nv2
        have nm2 := nc_m1 nv2
        have hn := (hR (u ||| 1 <<< i) (by omega)).1
        refine T.iload (pc' := 36) (q_d dX5_dangers_0 21 rfl) rfl rfl ?_
        refine T.aload_n (pc' := 37) (q_d dX5_dangers_0 22 rfl) rfl rfl rfl ?_
        refine T.getR (pc' := 40) (ci := 5) (k0 := 0) (q_d dX5_dangers_0 23 rfl) rfl rfl (by decide) rfl inX5 (by decide) rfl wF_X5_10 (rP hXb.1 rfl) ?_
        refine T.getI (pc' := 43) (ci := 3) (k0 := 0) (q_d dX5_dangers_0 24 rfl) rfl rfl (by decide) rfl inX3 (by decide) rfl wF_X5_65 e0 ?_
        refine T.icmp_geN (tgt := 76) (pc' := 46) (q_d dX5_dangers_0 25 rfl) rfl (by decide) (by omega) (by omega) (fun h43 => ?_) (fun h43 => ?_)
        · exact absurd h43 (by omega)
        · refine T.iconst (pc' := 47) (v := nI 1) (q_d dX5_dangers_0 26 rfl) rfl (by decide) ?_
          refine T.iload (pc' := 49) (q_d dX5_dangers_0 27 rfl) rfl rfl ?_
          refine T.ishl (pc' := 50) (q_d dX5_dangers_0 28 rfl) rfl (nN_shl _ (by omega)) ?_
          refine T.istore (pc' := 52) (q_d dX5_dangers_0 29 rfl) rfl (by decide) rfl rfl ?_
          refine T.aload_n (pc' := 53) (q_d dX5_dangers_0 30 rfl) rfl rfl rfl ?_
          refine T.getR (pc' := 56) (ci := 0) (k0 := 0) (q_d dX5_dangers_0 31 rfl) rfl rfl (by decide) rfl inX0 (by decide) rfl wF_X5_171 (rP hXb.1 rfl) ?_
          refine T.iload_n (pc' := 57) (q_d dX5_dangers_0 32 rfl) rfl rfl rfl ?_
          refine T.iload (pc' := 59) (q_d dX5_dangers_0 33 rfl) rfl rfl ?_
          refine T.ior (pc' := 60) (q_d dX5_dangers_0 34 rfl) rfl (nN_or _ _) ?_
          refine T.iald (pc' := 61) (q_d dX5_dangers_0 35 rfl) rfl rfl (by decide) rfl (by omega) (by decide) hn ?_
          refine T.iconst (pc' := 62) (v := nI 4294967295) (q_d dX5_dangers_0 36 rfl) rfl (by decide) ?_
          refine T.icmp_neN (tgt := 70) (pc' := 65) (q_d dX5_dangers_0 37 rfl) rfl (by decide) (by omega) (by omega) (fun h62 => ?_) (fun h62 => ?_)
          · refine T.iinc (pc' := 73) (q_d dX5_dangers_1 2 rfl) rfl rfl (nN_p _ 1) (by decide) rfl rfl ?_
            refine T.goto (tgt := 34) (q_d dX5_dangers_1 3 rfl) (by decide) ?_
            refine T.drop (loc' := [some (.ref 0), some (.int (nI u)), some (.ref 29), some (.int (nI (orTo (fun p => if (solN s 0 3 127).1 (u ||| 1 <<< p) = 1000 then 1 <<< p else 0) (i + 1)))), some (.int (nI (i + 1))), none]) ⟨rfl, rfl, rfl, ?_, rfl, trivial⟩ (ih (i + 1) M' (by omega) hXb hR hne)
            first
              | (show some (Value.int _) = _
                 rw [orTo, if_pos (by omega)]; done)
              | (show some (Value.int _) = _
                 rw [orTo, if_neg (by omega), Nat.or_zero]; done)
          · refine T.iload_n (pc' := 66) (q_d dX5_dangers_0 38 rfl) rfl rfl rfl ?_
            refine T.iload (pc' := 68) (q_d dX5_dangers_0 39 rfl) rfl rfl ?_
            refine T.ior (pc' := 69) (q_d dX5_dangers_1 0 rfl) rfl (nN_or _ _) ?_
            refine T.istore_n (pc' := 70) (q_d dX5_dangers_1 1 rfl) rfl rfl (by decide) rfl rfl ?_
            refine T.iinc (pc' := 73) (q_d dX5_dangers_1 2 rfl) rfl rfl (nN_p _ 1) (by decide) rfl rfl ?_
            refine T.goto (tgt := 34) (q_d dX5_dangers_1 3 rfl) (by decide) ?_
            refine T.drop (loc' := [some (.ref 0), some (.int (nI u)), some (.ref 29), some (.int (nI (orTo (fun p => if (solN s 0 3 127).1 (u ||| 1 <<< p) = 1000 then 1 <<< p else 0) (i + 1)))), some (.int (nI (i + 1))), none]) ⟨rfl, rfl, rfl, ?_, rfl, trivial⟩ (ih (i + 1) M' (by omega) hXb hR hne)
            first
              | (show some (Value.int _) = _
                 rw [orTo, if_pos (by omega)]; done)
              | (show some (Value.int _) = _
                 rw [orTo, if_neg (by omega), Nat.or_zero]; done)
    refine T.aload_n (pc' := 1) (q_d dX5_dangers_0 0 rfl) rfl rfl rfl ?_
    refine T.iload_n (pc' := 2) (q_d dX5_dangers_0 1 rfl) rfl rfl rfl ?_
    refine T.callV (pc' := 5) (ci := 5) (q_d dX5_dangers_0 2 rfl) rfl uX5_isSet wM_X5_114 (c_isSet hX.1 hX.2.2.1 hX.2.2.2.1 hu) rfl rfl (by decide) rfl rfl (by decide) (Nat.le_of_ble_eq_true rfl) rfl rfl (fun _ => rfl) ?_
    rintro _ _ ⟨rfl, rfl⟩
    dsimp only [Option.toList, List.cons_append, List.nil_append, List.append_nil]
    refine T.if_neN (tgt := 11) (pc' := 8) (q_d dX5_dangers_0 3 rfl) rfl (by decide) (by split <;> decide) (fun h5 => ?_) (fun h5 => ?_)
    · refine T.aload_n (pc' := 12) (q_d dX5_dangers_0 6 rfl) rfl rfl rfl ?_
      refine T.callV (pc' := 15) (ci := 5) (q_d dX5_dangers_0 7 rfl) rfl uX5_standingHearing wM_X5_167 (c_standingHearing hX) rfl rfl (by decide) rfl rfl (by decide) (Nat.le_of_ble_eq_true rfl) rfl rfl (fun _ => rfl) ?_
      rintro _ M2 ⟨rfl, e8, e9, fT, hTb⟩
      have hXb := hX.tb fT hTb
      have hn := (hTb.2.2.2.2.1 e9).2 u (by omega)
      dsimp only [Option.toList, List.cons_append, List.nil_append, List.append_nil]
      refine T.astore_n (pc' := 16) (q_d dX5_dangers_0 8 rfl) rfl rfl (by decide) rfl rfl ?_
      refine T.aload_n (pc' := 17) (q_d dX5_dangers_0 9 rfl) rfl rfl rfl ?_
      refine T.getR (pc' := 20) (ci := 0) (k0 := 0) (q_d dX5_dangers_0 10 rfl) rfl rfl (by decide) rfl inX0 (by decide) rfl wF_X5_171 (rP (P := pX _ sw) (by first | exact hXb.1 | exact hX.1) rfl) ?_
      refine T.iload_n (pc' := 21) (q_d dX5_dangers_0 11 rfl) rfl rfl rfl ?_
      refine T.iald (pc' := 22) (q_d dX5_dangers_0 12 rfl) rfl rfl (by decide) rfl (by omega) (by decide) hn.1 ?_
      refine T.iconst (pc' := 23) (v := nI 4294967295) (q_d dX5_dangers_0 13 rfl) rfl (by decide) ?_
      refine T.icmp_neN (tgt := 29) (pc' := 26) (q_d dX5_dangers_0 14 rfl) rfl (by decide) (by omega) (by omega) (fun h23 => ?_) (fun h23 => ?_)
      · refine T.iconst (pc' := 30) (v := nI 0) (q_d dX5_dangers_0 17 rfl) rfl (by decide) ?_
        refine T.istore_n (pc' := 31) (q_d dX5_dangers_0 18 rfl) rfl rfl (by decide) rfl rfl ?_
        refine T.iconst (pc' := 32) (v := nI 0) (q_d dX5_dangers_0 19 rfl) rfl (by decide) ?_
        refine T.istore (pc' := 34) (q_d dX5_dangers_0 20 rfl) rfl (by decide) rfl rfl ?_
        exact loop (s 0) 0 M2 (by omega) hXb (hTb.2.2.2.2.1 e9).2 (by omega)
      · refine T.ldc (pc' := 28) (v := nI 4293967294) (q_d dX5_dangers_0 15 rfl) rfl wN_X5_87 ?_
        refine T.iret (q_d dX5_dangers_0 16 rfl) rfl rfl rfl ?_
        exact ⟨by unfold qDangers; rw [if_pos a1, if_pos (by omega)], pa, sw, hXb⟩
    · exact absurd h5 (by rw [if_pos a1]; decide)
  · refine T.aload_n (pc' := 1) (q_d dX5_dangers_0 0 rfl) rfl rfl rfl ?_
    refine T.iload_n (pc' := 2) (q_d dX5_dangers_0 1 rfl) rfl rfl rfl ?_
    refine T.callV (pc' := 5) (ci := 5) (q_d dX5_dangers_0 2 rfl) rfl uX5_isSet wM_X5_114 (c_isSet hX.1 hX.2.2.1 hX.2.2.2.1 hu) rfl rfl (by decide) rfl rfl (by decide) (Nat.le_of_ble_eq_true rfl) rfl rfl (fun _ => rfl) ?_
    rintro _ _ ⟨rfl, rfl⟩
    dsimp only [Option.toList, List.cons_append, List.nil_append, List.append_nil]
    refine T.if_neN (tgt := 11) (pc' := 8) (q_d dX5_dangers_0 3 rfl) rfl (by decide) (by split <;> decide) (fun h5 => ?_) (fun h5 => ?_)
    · exact absurd (if_neg a1) h5
    · refine T.ldc (pc' := 10) (v := nI 4293967295) (q_d dX5_dangers_0 4 rfl) rfl wN_X5_64 ?_
      refine T.iret (q_d dX5_dangers_0 5 rfl) rfl rfl rfl ?_
      exact ⟨by unfold qDangers; rw [if_neg a1], pa, sw, hX⟩
end CX5D
