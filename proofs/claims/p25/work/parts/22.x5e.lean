/-! BlindHunts: ways, counts, undo, texts -/
def qCount (s : Nat → Nat) (k n u : Nat) : Nat := if u = 0 then s 0 else if u = 1 then rdN s 14 else if u = 2 then rdN s 21 else if u = 3 then s 1 else if u = 4 then s 2 else if u = 5 then s 3 else if u = 6 then k else if u = 7 then n else if 20 ≤ u ∧ u ≤ 22 then s (4 + (u - 20)) else 4293967295
def oUndo (s : Nat → Nat) (k : Nat) (was : Nat → Nat → Nat) (n : Nat) (t : Nat → Nat) : Nat × St := if k = 0 then (4293967294, (s, k, was, n, t)) else (k - 1, (was (k - 1), k - 1, was, n, t))
section CX5E
variable {l : Launch} {M M' : qM} {b b' : Nat} {s s' : Nat → Nat} {k : Nat} {was : Nat → Nat → Nat} {n : Nat} {t pa : Nat → Nat} {sw sw' : Bool}
theorem RX.swp (q : RX M b s k was n t pa sw) (h1 : M'.1 = M.1) (h2 : M'.2.2 = pX pa sw') : RX M' b s k was n t pa sw' := by
  obtain ⟨q1, q2, q3, q4, q5, q6, q7, q8, q9, q10⟩ := q
  exact ⟨h2, q2, q3.mono (fun a _ _ => by rw [h1]), q4, by rw [h1]; exact q5, q6, fun i hi => ⟨(q7 i hi).1.mono (fun a _ _ => by rw [h1]), (q7 i hi).2⟩, ⟨by rw [h1]; exact q8.1, fun i hi => by rw [h1]; exact q8.2 i hi⟩, q9, q10.mono (by rw [h1]; exact ⟨rfl, rfl, rfl⟩) (fun a _ _ => by rw [h1])⟩
theorem c_count (hX : RX M b s k was n t pa sw) (hb : b < 2 ^ 30) {u : Nat} (hu : u < 4294967296) : Ct l hdX kX mX5_count [.ref 0, .int (nI u)] M (OX b (qCount s k n u, (s, k, was, n, t))) := by
  refine Ct.of [some (.ref 0), some (.int (nI u))] (by decide +kernel) (fun h => absurd h (by decide)) (Nat.le_of_ble_eq_true rfl) rfl ?_
  have ho : SO 1 := Or.inl rfl
  have e := inS_iff (lo := 20) (hi := 22) hu (by decide) (by decide)
  have hX0 := hX
  obtain ⟨q1, q2, q3, q4, q5, q6, q7, q8, q9, q10⟩ := hX
  obtain ⟨e0, e1, e2, e3, e4, e5, e6, e7⟩ := q3
  have w0 := p2_le q4.1
  have h3 : s 3 ≤ 1 := by have := q4.2.2.2.2.2.2.2.2.2.2.1; split at this <;> omega
  refine T.iload_n (pc' := 1) (q_d dX5_count_0 0 rfl) rfl rfl rfl ?_
  rcases (by omega : u = 0 ∨ u = 1 ∨ u = 2 ∨ u = 3 ∨ u = 4 ∨ u = 5 ∨ u = 6 ∨ u = 7 ∨ 7 < u) with rfl | rfl | rfl | rfl | rfl | rfl | rfl | rfl | h12
  · refine T.tableIn (tgt := 48) (q_d dX5_count_0 1 rfl) (by decide +kernel) (by decide +kernel) (off := 47) (by decide +kernel) (by decide) ?_
    refine T.aload_n (pc' := 49) (q_d dX5_count_0 2 rfl) rfl rfl rfl ?_
    refine T.getR (pc' := 52) (ci := 5) (k0 := 0) (q_d dX5_count_0 3 rfl) rfl rfl (by decide) rfl inX5 (by decide) rfl wF_X5_10 (rP q1 rfl) ?_
    refine T.getI (pc' := 55) (ci := 3) (k0 := 0) (q_d dX5_count_0 4 rfl) rfl rfl (by decide) rfl inX3 (by decide) rfl wF_X5_65 e0 ?_
    refine T.iret (q_d dX5_count_0 5 rfl) rfl rfl rfl ?_
    exact ⟨by simp [qCount, rdN], pa, sw, hX0⟩
  · refine T.tableIn (tgt := 56) (q_d dX5_count_0 1 rfl) (by decide +kernel) (by decide +kernel) (off := 55) (by decide +kernel) (by decide) ?_
    refine T.aload_n (pc' := 57) (q_d dX5_count_0 6 rfl) rfl rfl rfl ?_
    refine T.getR (pc' := 60) (ci := 5) (k0 := 0) (q_d dX5_count_0 7 rfl) rfl rfl (by decide) rfl inX5 (by decide) rfl wF_X5_10 (rP q1 rfl) ?_
    refine T.aload_n (pc' := 61) (q_d dX5_count_0 8 rfl) rfl rfl rfl ?_
    refine T.getR (pc' := 64) (ci := 5) (k0 := 0) (q_d dX5_count_0 9 rfl) rfl rfl (by decide) rfl inX5 (by decide) rfl wF_X5_10 (rP q1 rfl) ?_
    refine T.getR (pc' := 67) (ci := 3) (k0 := 2) (q_d dX5_count_0 10 rfl) rfl rfl (by decide) rfl inX3 (by decide) rfl wF_X5_91 (rP q1 rfl) ?_
    refine T.callV (pc' := 70) (ci := 3) (q_d dX5_count_0 11 rfl) rfl uX3_countRoads wM_X5_95 (c_countRoads ho hX0.2.2.1 q4 (SO.a2 ho) (by decide) e4 (fun i hi => Nat.lt_of_lt_of_le (q4.2.2.2.2.2.2.2.1 i hi) w0)) rfl rfl (by decide) rfl rfl (by decide) (Nat.le_of_ble_eq_true rfl) rfl rfl (fun _ => rfl) ?_
    rintro _ _ ⟨rfl, rfl⟩
    dsimp only [Option.toList, List.cons_append, List.nil_append, List.append_nil]
    refine T.iret (q_d dX5_count_0 12 rfl) rfl rfl rfl ?_
    exact ⟨by simp [qCount, rdN], pa, sw, hX0⟩
  · refine T.tableIn (tgt := 71) (q_d dX5_count_0 1 rfl) (by decide +kernel) (by decide +kernel) (off := 70) (by decide +kernel) (by decide) ?_
    refine T.aload_n (pc' := 72) (q_d dX5_count_0 13 rfl) rfl rfl rfl ?_
    refine T.getR (pc' := 75) (ci := 5) (k0 := 0) (q_d dX5_count_0 14 rfl) rfl rfl (by decide) rfl inX5 (by decide) rfl wF_X5_10 (rP q1 rfl) ?_
    refine T.aload_n (pc' := 76) (q_d dX5_count_0 15 rfl) rfl rfl rfl ?_
    refine T.getR (pc' := 79) (ci := 5) (k0 := 0) (q_d dX5_count_0 16 rfl) rfl rfl (by decide) rfl inX5 (by decide) rfl wF_X5_10 (rP q1 rfl) ?_
    refine T.getR (pc' := 82) (ci := 3) (k0 := 3) (q_d dX5_count_0 17 rfl) rfl rfl (by decide) rfl inX3 (by decide) rfl wF_X5_105 (rP q1 rfl) ?_
    refine T.callV (pc' := 85) (ci := 3) (q_d dX5_count_0 18 rfl) rfl uX3_countRoads wM_X5_95 (c_countRoads ho hX0.2.2.1 q4 (SO.a3 ho) (by decide) e5 (fun i hi => Nat.lt_of_lt_of_le (q4.2.2.2.2.2.2.2.2.1 i hi) w0)) rfl rfl (by decide) rfl rfl (by decide) (Nat.le_of_ble_eq_true rfl) rfl rfl (fun _ => rfl) ?_
    rintro _ _ ⟨rfl, rfl⟩
    dsimp only [Option.toList, List.cons_append, List.nil_append, List.append_nil]
    refine T.iret (q_d dX5_count_0 19 rfl) rfl rfl rfl ?_
    exact ⟨by simp [qCount, rdN], pa, sw, hX0⟩
  · refine T.tableIn (tgt := 86) (q_d dX5_count_0 1 rfl) (by decide +kernel) (by decide +kernel) (off := 85) (by decide +kernel) (by decide) ?_
    refine T.aload_n (pc' := 87) (q_d dX5_count_0 20 rfl) rfl rfl rfl ?_
    refine T.getR (pc' := 90) (ci := 5) (k0 := 0) (q_d dX5_count_0 21 rfl) rfl rfl (by decide) rfl inX5 (by decide) rfl wF_X5_10 (rP q1 rfl) ?_
    refine T.getI (pc' := 93) (ci := 3) (k0 := 5) (q_d dX5_count_0 22 rfl) rfl rfl (by decide) rfl inX3 (by decide) rfl wF_X5_118 e1 ?_
    refine T.iret (q_d dX5_count_0 23 rfl) rfl rfl rfl ?_
    exact ⟨by simp [qCount, rdN], pa, sw, hX0⟩
  · refine T.tableIn (tgt := 94) (q_d dX5_count_0 1 rfl) (by decide +kernel) (by decide +kernel) (off := 93) (by decide +kernel) (by decide) ?_
    refine T.aload_n (pc' := 95) (q_d dX5_count_0 24 rfl) rfl rfl rfl ?_
    refine T.getR (pc' := 98) (ci := 5) (k0 := 0) (q_d dX5_count_0 25 rfl) rfl rfl (by decide) rfl inX5 (by decide) rfl wF_X5_10 (rP q1 rfl) ?_
    refine T.getI (pc' := 101) (ci := 3) (k0 := 6) (q_d dX5_count_0 26 rfl) rfl rfl (by decide) rfl inX3 (by decide) rfl wF_X5_121 e2 ?_
    refine T.iret (q_d dX5_count_0 27 rfl) rfl rfl rfl ?_
    exact ⟨by simp [qCount, rdN], pa, sw, hX0⟩
  · refine T.tableIn (tgt := 102) (q_d dX5_count_0 1 rfl) (by decide +kernel) (by decide +kernel) (off := 101) (by decide +kernel) (by decide) ?_
    refine T.aload_n (pc' := 103) (q_d dX5_count_0 28 rfl) rfl rfl rfl ?_
    refine T.getR (pc' := 106) (ci := 5) (k0 := 0) (q_d dX5_count_0 29 rfl) rfl rfl (by decide) rfl inX5 (by decide) rfl wF_X5_10 (rP q1 rfl) ?_
    refine T.callV (pc' := 109) (ci := 3) (q_d dX5_count_0 30 rfl) rfl uX3_isCaught wM_X5_215 (c_isCaught ho hX0.2.2.1 q4 hb) rfl rfl (by decide) rfl rfl (by decide) (Nat.le_of_ble_eq_true rfl) rfl rfl (fun _ => rfl) ?_
    rintro _ _ ⟨rfl, rfl⟩
    dsimp only [Option.toList, List.cons_append, List.nil_append, List.append_nil]
    refine T.if_eqN (tgt := 116) (pc' := 112) (q_d dX5_count_0 31 rfl) rfl (by decide) (by omega) (fun h109 => ?_) (fun h109 => ?_)
    · refine T.iconst (pc' := 117) (v := nI 0) (q_d dX5_count_0 34 rfl) rfl (by decide) ?_
      refine T.iret (q_d dX5_count_0 35 rfl) rfl rfl rfl ?_
      first
        | exact ⟨by simp [qCount]; omega, pa, sw, hX0⟩
        | exact ⟨by rw [show qCount s k n 5 = s 3 by simp [qCount], show s 3 = 1 by omega], pa, sw, hX0⟩
        | exact ⟨by rw [show qCount s k n 5 = s 3 by simp [qCount], show s 3 = 0 by omega], pa, sw, hX0⟩
    · refine T.iconst (pc' := 113) (v := nI 1) (q_d dX5_count_0 32 rfl) rfl (by decide) ?_
      refine T.goto (tgt := 117) (q_d dX5_count_0 33 rfl) (by decide) ?_
      refine T.iret (q_d dX5_count_0 35 rfl) rfl rfl rfl ?_
      first
        | exact ⟨by simp [qCount]; omega, pa, sw, hX0⟩
        | exact ⟨by rw [show qCount s k n 5 = s 3 by simp [qCount], show s 3 = 1 by omega], pa, sw, hX0⟩
        | exact ⟨by rw [show qCount s k n 5 = s 3 by simp [qCount], show s 3 = 0 by omega], pa, sw, hX0⟩
  · refine T.tableIn (tgt := 118) (q_d dX5_count_0 1 rfl) (by decide +kernel) (by decide +kernel) (off := 117) (by decide +kernel) (by decide) ?_
    refine T.aload_n (pc' := 119) (q_d dX5_count_0 36 rfl) rfl rfl rfl ?_
    refine T.getI (pc' := 122) (ci := 5) (k0 := 3) (q_d dX5_count_0 37 rfl) rfl rfl (by decide) rfl inX5 (by decide) rfl wF_X5_219 q5 ?_
    refine T.iret (q_d dX5_count_0 38 rfl) rfl rfl rfl ?_
    exact ⟨by simp [qCount, rdN], pa, sw, hX0⟩
  · refine T.tableIn (tgt := 123) (q_d dX5_count_0 1 rfl) (by decide +kernel) (by decide +kernel) (off := 122) (by decide +kernel) (by decide) ?_
    refine T.aload_n (pc' := 124) (q_d dX5_count_0 39 rfl) rfl rfl rfl ?_
    refine T.getR (pc' := 127) (ci := 5) (k0 := 4) (q_d dX5_count_1 0 rfl) rfl rfl (by decide) rfl inX5 (by decide) rfl wF_X5_26 (rP q1 rfl) ?_
    refine T.getI (pc' := 130) (ci := 2) (k0 := 1) (q_d dX5_count_1 1 rfl) rfl rfl (by decide) rfl inX2 (by decide) rfl wF_X5_222 q8.1 ?_
    refine T.iret (q_d dX5_count_1 2 rfl) rfl rfl rfl ?_
    exact ⟨by simp [qCount, rdN], pa, sw, hX0⟩
  · refine T.tableOut (tgt := 131) (q_d dX5_count_0 1 rfl) (sw_out hu h12 (by decide)) (by decide) ?_
    refine T.iload_n (pc' := 132) (q_d dX5_count_1 3 rfl) rfl rfl rfl ?_
    refine T.bipush (pc' := 134) (v := nI 20) (q_d dX5_count_1 4 rfl) rfl (by decide) ?_
    refine T.bipush (pc' := 136) (v := nI 22) (q_d dX5_count_1 5 rfl) rfl (by decide) ?_
    refine T.callS (pc' := 139) (q_d dX5_count_1 6 rfl) rfl uX5_isWithin wM_X5_60 (c_isWithin hu (by decide) (hi := 22) (by decide)) rfl rfl (by decide) (Nat.le_of_ble_eq_true rfl) rfl rfl (fun _ => rfl) ?_
    rintro _ _ ⟨rfl, rfl⟩
    dsimp only [Option.toList, List.cons_append, List.nil_append, List.append_nil]
    refine T.if_eqN (tgt := 157) (pc' := 142) (q_d dX5_count_1 7 rfl) rfl (by decide) (by split <;> decide) (fun h139 => ?_) (fun h139 => ?_)
    · refine T.ldc (pc' := 159) (v := nI 4293967295) (q_d dX5_count_1 16 rfl) rfl wN_X5_64 ?_
      refine T.iret (q_d dX5_count_1 17 rfl) rfl rfl rfl ?_
      refine ⟨?_, pa, sw, hX0⟩
      unfold qCount
      rw [if_neg (by omega), if_neg (by omega), if_neg (by omega), if_neg (by omega), if_neg (by omega), if_neg (by omega), if_neg (by omega), if_neg (by omega)]
      first
        | (rw [if_pos z9]; done)
        | (by_cases q : inS u 20 22 = true
           · rw [if_pos q] at h139; exact absurd h139 (by decide)
           · rw [if_neg (fun z => q (e.mpr z))])
    · have z9 : 20 ≤ u ∧ u ≤ 22 := by
        by_cases q : inS u 20 22 = true
        · exact e.mp q
        · exact absurd (if_neg q) h139
      refine T.aload_n (pc' := 143) (q_d dX5_count_1 8 rfl) rfl rfl rfl ?_
      refine T.getR (pc' := 146) (ci := 5) (k0 := 0) (q_d dX5_count_1 9 rfl) rfl rfl (by decide) rfl inX5 (by decide) rfl wF_X5_10 (rP q1 rfl) ?_
      refine T.getR (pc' := 149) (ci := 3) (k0 := 4) (q_d dX5_count_1 10 rfl) rfl rfl (by decide) rfl inX3 (by decide) rfl wF_X5_111 (rP q1 rfl) ?_
      refine T.iload_n (pc' := 150) (q_d dX5_count_1 11 rfl) rfl rfl rfl ?_
      refine T.bipush (pc' := 152) (v := nI 20) (q_d dX5_count_1 12 rfl) rfl (by decide) ?_
      refine T.isub (pc' := 153) (q_d dX5_count_1 13 rfl) rfl (nN_sub (by omega)) ?_
      refine T.iald (pc' := 154) (q_d dX5_count_1 14 rfl) rfl rfl (by decide) rfl (by omega) (by decide) (e6 (u - 20) (by omega)) ?_
      refine T.goto (tgt := 159) (q_d dX5_count_1 15 rfl) (by decide) ?_
      refine T.iret (q_d dX5_count_1 17 rfl) rfl rfl rfl ?_
      refine ⟨?_, pa, sw, hX0⟩
      unfold qCount
      rw [if_neg (by omega), if_neg (by omega), if_neg (by omega), if_neg (by omega), if_neg (by omega), if_neg (by omega), if_neg (by omega), if_neg (by omega)]
      first
        | (rw [if_pos z9]; done)
        | (by_cases q : inS u 20 22 = true
           · rw [if_pos q] at h139; exact absurd h139 (by decide)
           · rw [if_neg (fun z => q (e.mpr z))])
theorem c_undo (hX : RX M b s k was n t pa sw) : Ct l hdX kX mX5_undo [.ref 0] M (OX b (oUndo s k was n t)) := by
  refine Ct.of [some (.ref 0)] (by decide +kernel) (fun h => absurd h (by decide)) (Nat.le_of_ble_eq_true rfl) rfl ?_
  have hX0 := hX
  obtain ⟨q1, q2, q3, q4, q5, q6, q7, q8, q9, q10⟩ := hX
  by_cases h0 : k = 0
  · refine T.aload_n (pc' := 1) (q_d dX5_undo_0 0 rfl) rfl rfl rfl ?_
    refine T.getI (pc' := 4) (ci := 5) (k0 := 3) (q_d dX5_undo_0 1 rfl) rfl rfl (by decide) rfl inX5 (by decide) rfl wF_X5_219 q5 ?_
    refine T.if_gtN (tgt := 10) (pc' := 7) (q_d dX5_undo_0 2 rfl) rfl (by decide) (by omega) (fun h4 => ?_) (fun h4 => ?_)
    · exact absurd h4 (by omega)
    · refine T.ldc (pc' := 9) (v := nI 4293967294) (q_d dX5_undo_0 3 rfl) rfl wN_X5_87 ?_
      refine T.iret (q_d dX5_undo_0 4 rfl) rfl rfl rfl ?_
      exact ⟨by unfold oUndo; rw [if_pos h0], pa, sw, by unfold oUndo; rw [if_pos h0]; exact hX0⟩
  · have hk1 : k - 1 < k := by omega
    have hk4 : k - 1 < 4 := by omega
    have hg := q2.ge hk4
    have hr : RS (qI M 0 3 (k - 1)) (pa (k - 1)) (was (k - 1)) := (q7 (k - 1) hk1).1.mono (fun a a1 a2 => by funext j; exact qI_ne (Or.inl (by omega)))
    refine T.aload_n (pc' := 1) (q_d dX5_undo_0 0 rfl) rfl rfl rfl ?_
    refine T.getI (pc' := 4) (ci := 5) (k0 := 3) (q_d dX5_undo_0 1 rfl) rfl rfl (by decide) rfl inX5 (by decide) rfl wF_X5_219 q5 ?_
    refine T.if_gtN (tgt := 10) (pc' := 7) (q_d dX5_undo_0 2 rfl) rfl (by decide) (by omega) (fun h4 => ?_) (fun h4 => ?_)
    · refine T.aload_n (pc' := 11) (q_d dX5_undo_0 5 rfl) rfl rfl rfl ?_
      refine T.dup (pc' := 12) (q_d dX5_undo_0 6 rfl) rfl rfl ?_
      refine T.getI (pc' := 15) (ci := 5) (k0 := 3) (q_d dX5_undo_0 7 rfl) rfl rfl (by decide) rfl inX5 (by decide) rfl wF_X5_219 q5 ?_
      refine T.iconst (pc' := 16) (v := nI 1) (q_d dX5_undo_0 8 rfl) rfl (by decide) ?_
      refine T.isub (pc' := 17) (q_d dX5_undo_0 9 rfl) rfl (nN_sub (by omega)) ?_
      refine T.putI (pc' := 20) (ci := 5) (k0 := 3) (q_d dX5_undo_0 10 rfl) rfl rfl (by decide) rfl inX5 tyX5 tyX5_ok nmX5 (by decide) rfl wF_X5_219 rfl rfl rfl ?_
      refine T.aload_n (pc' := 21) (q_d dX5_undo_0 11 rfl) rfl rfl rfl ?_
      refine T.getR (pc' := 24) (ci := 5) (k0 := 0) (q_d dX5_undo_0 12 rfl) rfl rfl (by decide) rfl inX5 (by decide) rfl wF_X5_10 (rP (P := pX pa sw) (by first | exact (show M2.2.2 = _ by rw [g2.1]; exact q1) | exact q1) rfl) ?_
      refine T.aload_n (pc' := 25) (q_d dX5_undo_0 13 rfl) rfl rfl rfl ?_
      refine T.getR (pc' := 28) (ci := 5) (k0 := 2) (q_d dX5_undo_0 14 rfl) rfl rfl (by decide) rfl inX5 (by decide) rfl wF_X5_19 (rP (P := pX pa sw) (by first | exact (show M2.2.2 = _ by rw [g2.1]; exact q1) | exact q1) rfl) ?_
      refine T.aload_n (pc' := 29) (q_d dX5_undo_0 15 rfl) rfl rfl rfl ?_
      refine T.getI (pc' := 32) (ci := 5) (k0 := 3) (q_d dX5_undo_0 16 rfl) rfl rfl (by decide) rfl inX5 (by decide) rfl wF_X5_219 qI_eq ?_
      refine T.qald (pc' := 33) (q_d dX5_undo_0 17 rfl) rfl (Or.inl rfl) rfl (by decide) rfl (by omega) (by decide) (rP q1 (if_pos hk4)) ?_
      refine T.callV (pc' := 36) (ci := 3) (q_d dX5_undo_0 18 rfl) rfl uX3_takeFrom wM_X5_225 (c_takeFrom (Or.inl rfl) (q2.so hk4) (show 1 + 8 ≤ pa (k - 1) ∨ pa (k - 1) + 8 ≤ 1 from Or.inl (by omega)) q1 hr) rfl rfl (by decide) rfl rfl (by decide) (Nat.le_of_ble_eq_true rfl) rfl rfl (fun _ => rfl) ?_
      rintro _ M2 ⟨rfl, g1, g2⟩
      dsimp only [Option.toList, List.cons_append, List.nil_append, List.append_nil]
      refine T.aload_n (pc' := 37) (q_d dX5_undo_0 19 rfl) rfl rfl rfl ?_
      refine T.callV (pc' := 40) (ci := 5) (q_d dX5_undo_0 20 rfl) rfl uX5_forgetTables wM_X5_73 c_forgetTables rfl rfl (by decide) rfl rfl (by decide) (Nat.le_of_ble_eq_true rfl) rfl rfl (fun _ => rfl) ?_
      rintro _ _ ⟨rfl, e8⟩
      subst e8
      have hY : RX (qI M 0 3 (k - 1)) b s (k - 1) was n t pa sw := ⟨q1, q2, q3.mono (fun a a1 a2 => by funext j; exact qI_ne (Or.inl (by omega))), q4, qI_eq, by omega, fun i hi => ⟨(q7 i (by omega)).1.mono (fun a a1 a2 => by have := q2.ge (show i < 4 by omega); funext j; exact qI_ne (Or.inl (by omega))), (q7 i (by omega)).2⟩, ⟨by rw [qI_ne (Or.inl (by decide))]; exact q8.1, fun i hi => by rw [qI_ne (Or.inl (by decide))]; exact q8.2 i hi⟩, q9, q10.mono ⟨qI_ne (Or.inr (by decide)), qI_ne (Or.inr (by decide)), qI_ne (Or.inr (by decide))⟩ (fun a a1 a2 => by funext j; exact qI_ne (Or.inl (by omega)))⟩
      obtain ⟨hF, hT⟩ := hY.forget
      have e3 : (qI (qI (qI M2 0 8 0) 0 9 0) 0 10 0).1 0 3 = k - 1 := by rw [qI_ne (Or.inr (by decide)), qI_ne (Or.inr (by decide)), qI_ne (Or.inr (by decide)), g2.2 0 (by decide), qI_eq]
      have hG : RX (qI (qI (qI M2 0 8 0) 0 9 0) 0 10 0) b (was (k - 1)) (k - 1) was n t pa sw := by
        refine hF.now (g1.mono (fun a a1 a2 => ?_)) (q7 (k - 1) hk1).2 (Nat.le_refl _) ⟨g2.1, fun a a1 => ?_⟩ (hT _)
        · funext j; rw [qI_ne (Or.inl (by omega)), qI_ne (Or.inl (by omega)), qI_ne (Or.inl (by omega))]
        · funext j
          by_cases e : a = 0 ∧ (j = 8 ∨ j = 9 ∨ j = 10)
          · obtain ⟨rfl, e | e | e⟩ := e <;> subst e <;> simp [qI]
          · by_cases ea : a = 0
            · subst ea
              rw [qI_ne (Or.inr (by omega)), qI_ne (Or.inr (by omega)), qI_ne (Or.inr (by omega)), qI_ne (Or.inr (by omega)), qI_ne (Or.inr (by omega)), qI_ne (Or.inr (by omega)), g2.2 0 (by decide)]
            · rw [qI_ne (Or.inl ea), qI_ne (Or.inl ea), qI_ne (Or.inl ea), qI_ne (Or.inl ea), qI_ne (Or.inl ea), qI_ne (Or.inl ea), g2.2 a a1]
      dsimp only [Option.toList, List.cons_append, List.nil_append, List.append_nil]
      refine T.aload_n (pc' := 41) (q_d dX5_undo_0 21 rfl) rfl rfl rfl ?_
      refine T.getI (pc' := 44) (ci := 5) (k0 := 3) (q_d dX5_undo_0 22 rfl) rfl rfl (by decide) rfl inX5 (by decide) rfl wF_X5_219 e3 ?_
      refine T.iret (q_d dX5_undo_0 23 rfl) rfl rfl rfl ?_
      exact ⟨by unfold oUndo; rw [if_neg h0], pa, sw, by unfold oUndo; rw [if_neg h0]; exact hG⟩
    · exact absurd h4 (by omega)
end CX5E
