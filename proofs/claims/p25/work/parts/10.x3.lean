/-! BlindHunts$State, and Integer.bitCount -/
section CX3
variable {l : Launch} {M : qM} {o b : Nat} {s : Nat → Nat} {pa : Nat → Nat} {sw : Bool}
theorem c_bitCount {a : Nat} (ha : a < 128) : Ct l hdX kX mJ6_bitCount_0f7a4 [.int (nI a)] M (RI M (ones a)) := by
  refine Ct.of [some (.int (nI a))] (by decide +kernel) (fun h => absurd h (by decide)) (Nat.le_of_ble_eq_true rfl) rfl ?_
  refine T.iload_n (pc' := 1) (q_d dJ6_bitCount_0f7a4_0 0 rfl) rfl rfl rfl ?_
  refine T.iload_n (pc' := 2) (q_d dJ6_bitCount_0f7a4_0 1 rfl) rfl rfl rfl ?_
  refine T.iconst (pc' := 3) (v := nI 1) (q_d dJ6_bitCount_0f7a4_0 2 rfl) rfl (by decide) ?_
  refine T.iushr (pc' := 4) (q_d dJ6_bitCount_0f7a4_0 3 rfl) rfl rfl ?_
  refine T.ldcw (pc' := 7) (v := nI 1431655765) (q_d dJ6_bitCount_0f7a4_0 4 rfl) rfl wN_J6_265 ?_
  refine T.iand (pc' := 8) (q_d dJ6_bitCount_0f7a4_0 5 rfl) rfl rfl ?_
  refine T.isub (pc' := 9) (q_d dJ6_bitCount_0f7a4_0 6 rfl) rfl rfl ?_
  refine T.istore_n (pc' := 10) (q_d dJ6_bitCount_0f7a4_0 7 rfl) rfl rfl (by decide) rfl rfl ?_
  refine T.iload_n (pc' := 11) (q_d dJ6_bitCount_0f7a4_0 8 rfl) rfl rfl rfl ?_
  refine T.ldcw (pc' := 14) (v := nI 858993459) (q_d dJ6_bitCount_0f7a4_0 9 rfl) rfl wN_J6_266 ?_
  refine T.iand (pc' := 15) (q_d dJ6_bitCount_0f7a4_0 10 rfl) rfl rfl ?_
  refine T.iload_n (pc' := 16) (q_d dJ6_bitCount_0f7a4_0 11 rfl) rfl rfl rfl ?_
  refine T.iconst (pc' := 17) (v := nI 2) (q_d dJ6_bitCount_0f7a4_0 12 rfl) rfl (by decide) ?_
  refine T.iushr (pc' := 18) (q_d dJ6_bitCount_0f7a4_0 13 rfl) rfl rfl ?_
  refine T.ldcw (pc' := 21) (v := nI 858993459) (q_d dJ6_bitCount_0f7a4_0 14 rfl) rfl wN_J6_266 ?_
  refine T.iand (pc' := 22) (q_d dJ6_bitCount_0f7a4_0 15 rfl) rfl rfl ?_
  refine T.iadd (pc' := 23) (q_d dJ6_bitCount_0f7a4_0 16 rfl) rfl rfl ?_
  refine T.istore_n (pc' := 24) (q_d dJ6_bitCount_0f7a4_0 17 rfl) rfl rfl (by decide) rfl rfl ?_
  refine T.iload_n (pc' := 25) (q_d dJ6_bitCount_0f7a4_0 18 rfl) rfl rfl rfl ?_
  refine T.iload_n (pc' := 26) (q_d dJ6_bitCount_0f7a4_0 19 rfl) rfl rfl rfl ?_
  refine T.iconst (pc' := 27) (v := nI 4) (q_d dJ6_bitCount_0f7a4_0 20 rfl) rfl (by decide) ?_
  refine T.iushr (pc' := 28) (q_d dJ6_bitCount_0f7a4_0 21 rfl) rfl rfl ?_
  refine T.iadd (pc' := 29) (q_d dJ6_bitCount_0f7a4_0 22 rfl) rfl rfl ?_
  refine T.ldcw (pc' := 32) (v := nI 252645135) (q_d dJ6_bitCount_0f7a4_0 23 rfl) rfl wN_J6_267 ?_
  refine T.iand (pc' := 33) (q_d dJ6_bitCount_0f7a4_0 24 rfl) rfl rfl ?_
  refine T.istore_n (pc' := 34) (q_d dJ6_bitCount_0f7a4_0 25 rfl) rfl rfl (by decide) rfl rfl ?_
  refine T.iload_n (pc' := 35) (q_d dJ6_bitCount_0f7a4_0 26 rfl) rfl rfl rfl ?_
  refine T.iload_n (pc' := 36) (q_d dJ6_bitCount_0f7a4_0 27 rfl) rfl rfl rfl ?_
  refine T.bipush (pc' := 38) (v := nI 8) (q_d dJ6_bitCount_0f7a4_0 28 rfl) rfl (by decide) ?_
  refine T.iushr (pc' := 39) (q_d dJ6_bitCount_0f7a4_0 29 rfl) rfl rfl ?_
  refine T.iadd (pc' := 40) (q_d dJ6_bitCount_0f7a4_0 30 rfl) rfl rfl ?_
  refine T.istore_n (pc' := 41) (q_d dJ6_bitCount_0f7a4_0 31 rfl) rfl rfl (by decide) rfl rfl ?_
  refine T.iload_n (pc' := 42) (q_d dJ6_bitCount_0f7a4_0 32 rfl) rfl rfl rfl ?_
  refine T.iload_n (pc' := 43) (q_d dJ6_bitCount_0f7a4_0 33 rfl) rfl rfl rfl ?_
  refine T.bipush (pc' := 45) (v := nI 16) (q_d dJ6_bitCount_0f7a4_0 34 rfl) rfl (by decide) ?_
  refine T.iushr (pc' := 46) (q_d dJ6_bitCount_0f7a4_0 35 rfl) rfl rfl ?_
  refine T.iadd (pc' := 47) (q_d dJ6_bitCount_0f7a4_0 36 rfl) rfl rfl ?_
  refine T.istore_n (pc' := 48) (q_d dJ6_bitCount_0f7a4_0 37 rfl) rfl rfl (by decide) rfl rfl ?_
  refine T.iload_n (pc' := 49) (q_d dJ6_bitCount_0f7a4_0 38 rfl) rfl rfl rfl ?_
  refine T.bipush (pc' := 51) (v := nI 63) (q_d dJ6_bitCount_0f7a4_0 39 rfl) rfl (by decide) ?_
  refine T.iand (pc' := 52) (q_d dJ6_bitCount_0f7a4_1 0 rfl) rfl rfl ?_
  refine T.iret (q_d dJ6_bitCount_0f7a4_1 1 rfl) rfl rfl rfl ?_
  refine ⟨rfl, congrArg (fun x => some (Value.int x)) ?_⟩
  revert a
  decide +kernel
theorem c_sets (ho : SO o) (hP : M.2.2 = pX pa sw) (hs : RS M o s) (hw : WF b s) : Ct l hdX kX mX3_sets [.ref o] M (RI M (1 <<< s 0)) := by
  refine Ct.of [some (.ref o)] (by decide +kernel) (fun h => absurd h (by decide)) (Nat.le_of_ble_eq_true rfl) rfl ?_
  have h0 := hs.1
  have w0 := hw.1
  refine T.iconst (pc' := 1) (v := nI 1) (q_d dX3_sets_0 0 rfl) rfl (by decide) ?_
  refine T.aload_n (pc' := 2) (q_d dX3_sets_0 1 rfl) rfl rfl rfl ?_
  refine T.getI (pc' := 5) (ci := 3) (k0 := 0) (q_d dX3_sets_0 2 rfl) rfl (SO.o ho) (Nat.lt_of_le_of_lt (Nat.le_add_right _ _) (SO.lt ho)) rfl inX3 (by decide) rfl wF_X3_33 rfl ?_
  refine T.ishl (pc' := 6) (q_d dX3_sets_0 3 rfl) rfl (nN_shl _ (by omega)) ?_
  refine T.iret (q_d dX3_sets_0 4 rfl) rfl rfl rfl ?_
  exact ⟨rfl, by rw [h0]⟩
theorem c_hasRoad (ho : SO o) (hP : M.2.2 = pX pa sw) (hs : RS M o s) (hw : WF b s) {i j : Nat} (hi : i < 7) (hj : j < 7) : Ct l hdX kX mX3_hasRoad [.ref o, .int (nI i), .int (nI j)] M (RI M (s (14 + i) >>> j &&& 1)) := by
  refine Ct.of [some (.ref o), some (.int (nI i)), some (.int (nI j))] (by decide +kernel) (fun h => absurd h (by decide)) (Nat.le_of_ble_eq_true rfl) rfl ?_
  have h1 := hs.2.2.2.2.1 i hi
  have w1 := hw.2.2.2.2.2.2.2.1 i hi
  have w0 := p2_le hw.1
  have g1 := and1_01 (M.1 (o + 2) i >>> j)
  refine T.aload_n (pc' := 1) (q_d dX3_hasRoad_0 0 rfl) rfl rfl rfl ?_
  refine T.getR (pc' := 4) (ci := 3) (k0 := 2) (q_d dX3_hasRoad_0 1 rfl) rfl (SO.o ho) (Nat.lt_of_le_of_lt (Nat.le_add_right _ _) (SO.lt ho)) rfl inX3 (by decide) rfl wF_X3_15 (rP hP (SO.p2 ho)) ?_
  refine T.iload_n (pc' := 5) (q_d dX3_hasRoad_0 2 rfl) rfl rfl rfl ?_
  refine T.iald (pc' := 6) (q_d dX3_hasRoad_0 3 rfl) rfl (SO.a2 ho) (Nat.lt_of_le_of_lt (by omega) (SO.lt ho)) rfl (by omega) (by decide) rfl ?_
  refine T.iload_n (pc' := 7) (q_d dX3_hasRoad_0 4 rfl) rfl rfl rfl ?_
  refine T.ishr (pc' := 8) (q_d dX3_hasRoad_0 5 rfl) rfl (nN_shr (by omega) (by omega)) ?_
  refine T.iconst (pc' := 9) (v := nI 1) (q_d dX3_hasRoad_0 6 rfl) rfl (by decide) ?_
  refine T.iand (pc' := 10) (q_d dX3_hasRoad_0 7 rfl) rfl (nN_and _ _) ?_
  refine T.iconst (pc' := 11) (v := nI 1) (q_d dX3_hasRoad_0 8 rfl) rfl (by decide) ?_
  refine T.icmp_neN (tgt := 18) (pc' := 14) (q_d dX3_hasRoad_0 9 rfl) rfl (by decide) (by omega) (by omega) (fun h11 => ?_) (fun h11 => ?_)
  · refine T.iconst (pc' := 19) (v := nI 0) (q_d dX3_hasRoad_0 12 rfl) rfl (by decide) ?_
    refine T.zret (q_d dX3_hasRoad_0 13 rfl) rfl (by decide) rfl rfl ?_
    exact ⟨rfl, by rw [← h1]; congr 3; omega⟩
  · refine T.iconst (pc' := 15) (v := nI 1) (q_d dX3_hasRoad_0 10 rfl) rfl (by decide) ?_
    refine T.goto (tgt := 19) (q_d dX3_hasRoad_0 11 rfl) (by decide) ?_
    refine T.zret (q_d dX3_hasRoad_0 13 rfl) rfl (by decide) rfl rfl ?_
    exact ⟨rfl, by rw [← h1]; congr 3; omega⟩
theorem c_hasOpenRoad (ho : SO o) (hP : M.2.2 = pX pa sw) (hs : RS M o s) (hw : WF b s) {i j : Nat} (hi : i < 7) (hj : j < 7) : Ct l hdX kX mX3_hasOpenRoad [.ref o, .int (nI i), .int (nI j)] M (RI M (s (21 + i) >>> j &&& 1)) := by
  refine Ct.of [some (.ref o), some (.int (nI i)), some (.int (nI j))] (by decide +kernel) (fun h => absurd h (by decide)) (Nat.le_of_ble_eq_true rfl) rfl ?_
  have h1 := hs.2.2.2.2.2.1 i hi
  have w1 := hw.2.2.2.2.2.2.2.2.1 i hi
  have w0 := p2_le hw.1
  have g1 := and1_01 (M.1 (o + 3) i >>> j)
  refine T.aload_n (pc' := 1) (q_d dX3_hasOpenRoad_0 0 rfl) rfl rfl rfl ?_
  refine T.getR (pc' := 4) (ci := 3) (k0 := 3) (q_d dX3_hasOpenRoad_0 1 rfl) rfl (SO.o ho) (Nat.lt_of_le_of_lt (Nat.le_add_right _ _) (SO.lt ho)) rfl inX3 (by decide) rfl wF_X3_18 (rP hP (SO.p3 ho)) ?_
  refine T.iload_n (pc' := 5) (q_d dX3_hasOpenRoad_0 2 rfl) rfl rfl rfl ?_
  refine T.iald (pc' := 6) (q_d dX3_hasOpenRoad_0 3 rfl) rfl (SO.a3 ho) (Nat.lt_of_le_of_lt (by omega) (SO.lt ho)) rfl (by omega) (by decide) rfl ?_
  refine T.iload_n (pc' := 7) (q_d dX3_hasOpenRoad_0 4 rfl) rfl rfl rfl ?_
  refine T.ishr (pc' := 8) (q_d dX3_hasOpenRoad_0 5 rfl) rfl (nN_shr (by omega) (by omega)) ?_
  refine T.iconst (pc' := 9) (v := nI 1) (q_d dX3_hasOpenRoad_0 6 rfl) rfl (by decide) ?_
  refine T.iand (pc' := 10) (q_d dX3_hasOpenRoad_0 7 rfl) rfl (nN_and _ _) ?_
  refine T.iconst (pc' := 11) (v := nI 1) (q_d dX3_hasOpenRoad_0 8 rfl) rfl (by decide) ?_
  refine T.icmp_neN (tgt := 18) (pc' := 14) (q_d dX3_hasOpenRoad_0 9 rfl) rfl (by decide) (by omega) (by omega) (fun h11 => ?_) (fun h11 => ?_)
  · refine T.iconst (pc' := 19) (v := nI 0) (q_d dX3_hasOpenRoad_0 12 rfl) rfl (by decide) ?_
    refine T.zret (q_d dX3_hasOpenRoad_0 13 rfl) rfl (by decide) rfl rfl ?_
    exact ⟨rfl, by rw [← h1]; congr 3; omega⟩
  · refine T.iconst (pc' := 15) (v := nI 1) (q_d dX3_hasOpenRoad_0 10 rfl) rfl (by decide) ?_
    refine T.goto (tgt := 19) (q_d dX3_hasOpenRoad_0 11 rfl) (by decide) ?_
    refine T.zret (q_d dX3_hasOpenRoad_0 13 rfl) rfl (by decide) rfl rfl ?_
    exact ⟨rfl, by rw [← h1]; congr 3; omega⟩
theorem c_isCaught (ho : SO o) (hs : RS M o s) (hw : WF b s) (hb : b < 2 ^ 30) : Ct l hdX kX mX3_isCaught [.ref o] M (RI M (s 3)) := by
  refine Ct.of [some (.ref o)] (by decide +kernel) (fun h => absurd h (by decide)) (Nat.le_of_ble_eq_true rfl) rfl ?_
  have h1 := hs.2.1
  have h2 := hs.2.2.1
  have w0 := p2_le hw.1
  have w1 := hw.2.1
  have w2 := hw.2.2.1
  have w3 := hw.2.2.2.2.2.2.2.2.2.2.1
  refine T.aload_n (pc' := 1) (q_d dX3_isCaught_0 0 rfl) rfl rfl rfl ?_
  refine T.getI (pc' := 4) (ci := 3) (k0 := 6) (q_d dX3_isCaught_0 1 rfl) rfl (SO.o ho) (Nat.lt_of_le_of_lt (Nat.le_add_right _ _) (SO.lt ho)) rfl inX3 (by decide) rfl wF_X3_40 rfl ?_
  refine T.if_leN (tgt := 18) (pc' := 7) (q_d dX3_isCaught_0 2 rfl) rfl (by decide) (by omega) (fun h4 => ?_) (fun h4 => ?_)
  · refine T.iconst (pc' := 19) (v := nI 0) (q_d dX3_isCaught_0 8 rfl) rfl (by decide) ?_
    refine T.zret (q_d dX3_isCaught_0 9 rfl) rfl (by decide) rfl rfl ?_
    exact ⟨rfl, by rw [w3]; congr 3; split <;> omega⟩
  · refine T.aload_n (pc' := 8) (q_d dX3_isCaught_0 3 rfl) rfl rfl rfl ?_
    refine T.getI (pc' := 11) (ci := 3) (k0 := 5) (q_d dX3_isCaught_0 4 rfl) rfl (SO.o ho) (Nat.lt_of_le_of_lt (Nat.le_add_right _ _) (SO.lt ho)) rfl inX3 (by decide) rfl wF_X3_37 rfl ?_
    refine T.if_neN (tgt := 18) (pc' := 14) (q_d dX3_isCaught_0 5 rfl) rfl (by decide) (by omega) (fun h11 => ?_) (fun h11 => ?_)
    · refine T.iconst (pc' := 19) (v := nI 0) (q_d dX3_isCaught_0 8 rfl) rfl (by decide) ?_
      refine T.zret (q_d dX3_isCaught_0 9 rfl) rfl (by decide) rfl rfl ?_
      exact ⟨rfl, by rw [w3]; congr 3; split <;> omega⟩
    · refine T.iconst (pc' := 15) (v := nI 1) (q_d dX3_isCaught_0 6 rfl) rfl (by decide) ?_
      refine T.goto (tgt := 19) (q_d dX3_isCaught_0 7 rfl) (by decide) ?_
      refine T.zret (q_d dX3_isCaught_0 9 rfl) rfl (by decide) rfl rfl ?_
      exact ⟨rfl, by rw [w3]; congr 3; split <;> omega⟩
theorem c_rowOfRound {a : Nat} : Ct l hdX kX mX3_rowOfRound [.int (nI a)] M (RI M (a % 8)) := by
  refine Ct.of [some (.int (nI a))] (by decide +kernel) (fun h => absurd h (by decide)) (Nat.le_of_ble_eq_true rfl) rfl ?_
  refine T.iload_n (pc' := 1) (q_d dX3_rowOfRound_0 0 rfl) rfl rfl rfl ?_
  refine T.bipush (pc' := 3) (v := nI 7) (q_d dX3_rowOfRound_0 1 rfl) rfl (by decide) ?_
  refine T.iand (pc' := 4) (q_d dX3_rowOfRound_0 2 rfl) rfl (nN_and _ _) ?_
  refine T.iret (q_d dX3_rowOfRound_0 3 rfl) rfl rfl rfl ?_
  exact ⟨rfl, by rw [show (7 : Nat) = 2 ^ 3 - 1 from rfl, Nat.and_two_pow_sub_one_eq_mod]⟩
theorem c_signalOf (ho : SO o) (hP : M.2.2 = pX pa sw) (hs : RS M o s) (hw : WF b s) {i j : Nat} (hi : i < 7) (hj : j < 7) : Ct l hdX kX mX3_signalOf [.ref o, .int (nI i), .int (nI j)] M (RI M (hears s i j)) := by
  refine Ct.of [some (.ref o), some (.int (nI i)), some (.int (nI j))] (by decide +kernel) (fun h => absurd h (by decide)) (Nat.le_of_ble_eq_true rfl) rfl ?_
  have h1 := hs.2.2.2.2.2.1 j hj
  have hc := hs.2.2.2.1 j hj
  have w1 := hw.2.2.2.2.2.2.2.2.1 j hj
  have w0 := p2_le hw.1
  have w5 := hw.2.2.2.2.1
  refine T.aload_n (pc' := 1) (q_d dX3_signalOf_0 0 rfl) rfl rfl rfl ?_
  refine T.getR (pc' := 4) (ci := 3) (k0 := 4) (q_d dX3_signalOf_0 1 rfl) rfl (SO.o ho) (Nat.lt_of_le_of_lt (Nat.le_add_right _ _) (SO.lt ho)) rfl inX3 (by decide) rfl wF_X3_21 (rP hP (SO.p4 ho)) ?_
  refine T.iconst (pc' := 5) (v := nI 1) (q_d dX3_signalOf_0 2 rfl) rfl (by decide) ?_
  refine T.iald (pc' := 6) (q_d dX3_signalOf_0 3 rfl) rfl (SO.a4 ho) (Nat.lt_of_le_of_lt (by omega) (SO.lt ho)) rfl (by omega) (by decide) (hs.2.2.2.2.2.2.1 1 (by decide)) ?_
  rcases (by omega : s 5 = 0 ∨ s 5 = 1 ∨ s 5 = 2 ∨ s 5 = 3) with e5 | e5 | e5 | e5
  · rw [show s (4 + 1) = 0 from e5]
    refine T.tableIn (tgt := 32) (q_d dX3_signalOf_0 4 rfl) (by decide +kernel) (by decide +kernel) (off := 26) (by decide +kernel) (by decide) ?_
    refine T.iconst (pc' := 33) (v := nI 0) (q_d dX3_signalOf_0 5 rfl) rfl (by decide) ?_
    refine T.iret (q_d dX3_signalOf_0 6 rfl) rfl rfl rfl ?_
    exact ⟨rfl, by unfold hears; rw [if_pos e5]⟩
  · rw [show s (4 + 1) = 1 from e5]
    refine T.tableIn (tgt := 34) (q_d dX3_signalOf_0 4 rfl) (by decide +kernel) (by decide +kernel) (off := 28) (by decide +kernel) (by decide) ?_
    refine T.aload_n (pc' := 35) (q_d dX3_signalOf_0 7 rfl) rfl rfl rfl ?_
    refine T.getR (pc' := 38) (ci := 3) (k0 := 1) (q_d dX3_signalOf_0 8 rfl) rfl (SO.o ho) (Nat.lt_of_le_of_lt (Nat.le_add_right _ _) (SO.lt ho)) rfl inX3 (by decide) rfl wF_X3_9 (rP hP (SO.p1 ho)) ?_
    refine T.iload_n (pc' := 39) (q_d dX3_signalOf_0 9 rfl) rfl rfl rfl ?_
    refine T.iald (pc' := 40) (q_d dX3_signalOf_0 10 rfl) rfl (SO.a1 ho) (Nat.lt_of_le_of_lt (by omega) (SO.lt ho)) rfl (by omega) (by decide) hc ?_
    refine T.iret (q_d dX3_signalOf_0 11 rfl) rfl rfl rfl ?_
    exact ⟨rfl, by unfold hears; rw [if_neg (by omega), if_pos e5]⟩
  · rw [show s (4 + 1) = 2 from e5]
    refine T.tableIn (tgt := 41) (q_d dX3_signalOf_0 4 rfl) (by decide +kernel) (by decide +kernel) (off := 35) (by decide +kernel) (by decide) ?_
    refine T.iload_n (pc' := 42) (q_d dX3_signalOf_0 12 rfl) rfl rfl rfl ?_
    refine T.iload_n (pc' := 43) (q_d dX3_signalOf_0 13 rfl) rfl rfl rfl ?_
    refine T.icmp_neN (tgt := 50) (pc' := 46) (q_d dX3_signalOf_0 14 rfl) rfl (by decide) (by omega) (by omega) (fun h43 => ?_) (fun h43 => ?_)
    · refine T.iconst (pc' := 51) (v := nI 1) (q_d dX3_signalOf_0 17 rfl) rfl (by decide) ?_
      refine T.iret (q_d dX3_signalOf_0 18 rfl) rfl rfl rfl ?_
      exact ⟨rfl, by unfold hears; rw [if_neg (by omega), if_neg (by omega), if_pos e5]; first | rw [if_pos (by omega)] | rw [if_neg (by omega)]⟩
    · refine T.iconst (pc' := 47) (v := nI 0) (q_d dX3_signalOf_0 15 rfl) rfl (by decide) ?_
      refine T.goto (tgt := 51) (q_d dX3_signalOf_0 16 rfl) (by decide) ?_
      refine T.iret (q_d dX3_signalOf_0 18 rfl) rfl rfl rfl ?_
      exact ⟨rfl, by unfold hears; rw [if_neg (by omega), if_neg (by omega), if_pos e5]; first | rw [if_pos (by omega)] | rw [if_neg (by omega)]⟩
  · rw [show s (4 + 1) = 3 from e5]
    refine T.tableOut (tgt := 52) (q_d dX3_signalOf_0 4 rfl) (Or.inr (by decide +kernel)) (by decide) ?_
    refine T.aload_n (pc' := 53) (q_d dX3_signalOf_0 19 rfl) rfl rfl rfl ?_
    refine T.getR (pc' := 56) (ci := 3) (k0 := 3) (q_d dX3_signalOf_0 20 rfl) rfl (SO.o ho) (Nat.lt_of_le_of_lt (Nat.le_add_right _ _) (SO.lt ho)) rfl inX3 (by decide) rfl wF_X3_18 (rP hP (SO.p3 ho)) ?_
    refine T.iload_n (pc' := 57) (q_d dX3_signalOf_0 21 rfl) rfl rfl rfl ?_
    refine T.iald (pc' := 58) (q_d dX3_signalOf_0 22 rfl) rfl (SO.a3 ho) (Nat.lt_of_le_of_lt (by omega) (SO.lt ho)) rfl (by omega) (by decide) h1 ?_
    refine T.callS (pc' := 61) (q_d dX3_signalOf_0 23 rfl) rfl uJ6_bitCount_0f7a4 wM_X3_47 (c_bitCount (a := s (21 + j)) (by omega)) rfl rfl (by decide) (Nat.le_of_ble_eq_true rfl) rfl rfl (fun _ => rfl) ?_
    rintro _ _ ⟨rfl, rfl⟩
    dsimp only [Option.toList, List.cons_append, List.nil_append, List.append_nil]
    refine T.iconst (pc' := 62) (v := nI 3) (q_d dX3_signalOf_0 24 rfl) rfl (by decide) ?_
    refine T.mmin (pc' := 65) (q_d dX3_signalOf_0 25 rfl) rfl wM_X3_53 wT_Math_min wZ_Math wC_Math_min (by decide) (Nat.le_of_ble_eq_true rfl) (by decide) (by decide) rfl ?_
    refine T.iret (q_d dX3_signalOf_0 26 rfl) rfl rfl rfl ?_
    refine ⟨rfl, ?_⟩
    have g9 := ones_le (s (21 + j))
    unfold hears
    rw [if_neg (show ¬ s 5 = 0 by omega), if_neg (show ¬ s 5 = 1 by omega), if_neg (show ¬ s 5 = 2 by omega)]
    congr 2
    by_cases g8 : 3 < ones (s (21 + j))
    · rw [if_pos g8, if_pos ((nN_lt (by decide) (by omega)).mpr g8)]
    · rw [if_neg g8, if_neg (fun h => g8 ((nN_lt (by decide) (by omega)).mp h))]
theorem c_reach (ho : SO o) (hP : M.2.2 = pX pa sw) (hs : RS M o s) (hw : WF b s) {p : Nat} (hp : p < s 0) : Ct l hdX kX mX3_reach [.ref o, .int (nI p)] M (RI M (goes s p 0)) := by
  refine Ct.of [some (.ref o), some (.int (nI p)), none, none, none, none, none] (by decide +kernel) (fun h => absurd h (by decide)) (Nat.le_of_ble_eq_true rfl) rfl ?_
  have h0 := hs.1
  have w7 := hw.1
  have w0 := p2_le hw.1
  have w1 := hw.2.2.2.2.2.2.2.2.1 p (by omega)
  have w4 := hw.2.2.2.1
  have loop : ∀ d i far, i + d = s 0 → far = s (21 + p) ||| orTo (fun q => if s (21 + p) >>> q &&& 1 = 1 then s (21 + q) else 0) i → s (21 + p) ≠ 0 → s 4 = 2 →
      T l hdX kX mX3_reach (RI M (goes s p 0)) 0 0 48 [some (.ref o), some (.int (nI p)), some (.int (nI (s (21 + p)))), some (.int (nI (1 <<< p))), some (.int (nI (s 4))), some (.int (nI far)), some (.int (nI i))] [] M := by
    intro d
    induction d with
    | zero =>
      intro i far hi hf hn h4
      refine T.iload (pc' := 50) (q_d dX3_reach_0 33 rfl) rfl rfl ?_
      refine T.aload_n (pc' := 51) (q_d dX3_reach_0 34 rfl) rfl rfl rfl ?_
      refine T.getI (pc' := 54) (ci := 3) (k0 := 0) (q_d dX3_reach_0 35 rfl) rfl (SO.o ho) (Nat.lt_of_le_of_lt (Nat.le_add_right _ _) (SO.lt ho)) rfl inX3 (by decide) rfl wF_X3_33 h0 ?_
      refine T.icmp_geN (tgt := 85) (pc' := 57) (q_d dX3_reach_0 36 rfl) rfl (by decide) (by omega) (by omega) (fun h54 => ?_) (fun h54 => ?_)
      · refine T.iload (pc' := 87) (q_d dX3_reach_1 13 rfl) rfl rfl ?_
        refine T.iret (q_d dX3_reach_1 14 rfl) rfl rfl rfl ?_
        exact ⟨rfl, by unfold goes; rw [if_neg (by omega), if_neg (by omega), if_pos h4, if_neg hn, hf, show i = s 0 by omega]⟩
      · exact absurd h54 (by omega)
    | succ d ih =>
      intro i far hi hf hn h4
      have g1 := and1_lt (s (21 + p) >>> i)
      have g2 := hs.2.2.2.2.2.1 i (by omega)
      refine T.iload (pc' := 50) (q_d dX3_reach_0 33 rfl) rfl rfl ?_
      refine T.aload_n (pc' := 51) (q_d dX3_reach_0 34 rfl) rfl rfl rfl ?_
      refine T.getI (pc' := 54) (ci := 3) (k0 := 0) (q_d dX3_reach_0 35 rfl) rfl (SO.o ho) (Nat.lt_of_le_of_lt (Nat.le_add_right _ _) (SO.lt ho)) rfl inX3 (by decide) rfl wF_X3_33 h0 ?_
      refine T.icmp_geN (tgt := 85) (pc' := 57) (q_d dX3_reach_0 36 rfl) rfl (by decide) (by omega) (by omega) (fun h54 => ?_) (fun h54 => ?_)
      · exact absurd h54 (by omega)
      · refine T.iload_n (pc' := 58) (q_d dX3_reach_0 37 rfl) rfl rfl rfl ?_
        refine T.iload (pc' := 60) (q_d dX3_reach_0 38 rfl) rfl rfl ?_
        refine T.ishr (pc' := 61) (q_d dX3_reach_0 39 rfl) rfl (nN_shr (by omega) (by omega)) ?_
        refine T.iconst (pc' := 62) (v := nI 1) (q_d dX3_reach_1 0 rfl) rfl (by decide) ?_
        refine T.iand (pc' := 63) (q_d dX3_reach_1 1 rfl) rfl (nN_and _ _) ?_
        refine T.iconst (pc' := 64) (v := nI 1) (q_d dX3_reach_1 2 rfl) rfl (by decide) ?_
        refine T.icmp_neN (tgt := 79) (pc' := 67) (q_d dX3_reach_1 3 rfl) rfl (by decide) (by omega) (by omega) (fun h64 => ?_) (fun h64 => ?_)
        · refine T.iinc (pc' := 82) (q_d dX3_reach_1 11 rfl) rfl rfl (nN_p _ 1) (by decide) rfl rfl ?_
          refine T.goto (tgt := 48) (q_d dX3_reach_1 12 rfl) (by decide) ?_
          exact ih (i + 1) _ (by omega) (by simp only [orTo]; first | rw [if_pos h64, hf, Nat.or_assoc] | rw [if_neg h64, Nat.or_zero, hf]) hn h4
        · refine T.iload (pc' := 69) (q_d dX3_reach_1 4 rfl) rfl rfl ?_
          refine T.aload_n (pc' := 70) (q_d dX3_reach_1 5 rfl) rfl rfl rfl ?_
          refine T.getR (pc' := 73) (ci := 3) (k0 := 3) (q_d dX3_reach_1 6 rfl) rfl (SO.o ho) (Nat.lt_of_le_of_lt (Nat.le_add_right _ _) (SO.lt ho)) rfl inX3 (by decide) rfl wF_X3_18 (rP hP (SO.p3 ho)) ?_
          refine T.iload (pc' := 75) (q_d dX3_reach_1 7 rfl) rfl rfl ?_
          refine T.iald (pc' := 76) (q_d dX3_reach_1 8 rfl) rfl (SO.a3 ho) (Nat.lt_of_le_of_lt (by omega) (SO.lt ho)) rfl (by omega) (by decide) g2 ?_
          refine T.ior (pc' := 77) (q_d dX3_reach_1 9 rfl) rfl (nN_or _ _) ?_
          refine T.istore (pc' := 79) (q_d dX3_reach_1 10 rfl) rfl (by decide) rfl rfl ?_
          refine T.iinc (pc' := 82) (q_d dX3_reach_1 11 rfl) rfl rfl (nN_p _ 1) (by decide) rfl rfl ?_
          refine T.goto (tgt := 48) (q_d dX3_reach_1 12 rfl) (by decide) ?_
          exact ih (i + 1) _ (by omega) (by simp only [orTo]; first | rw [if_pos h64, hf, Nat.or_assoc] | rw [if_neg h64, Nat.or_zero, hf]) hn h4
  refine T.aload_n (pc' := 1) (q_d dX3_reach_0 0 rfl) rfl rfl rfl ?_
  refine T.getR (pc' := 4) (ci := 3) (k0 := 3) (q_d dX3_reach_0 1 rfl) rfl (SO.o ho) (Nat.lt_of_le_of_lt (Nat.le_add_right _ _) (SO.lt ho)) rfl inX3 (by decide) rfl wF_X3_18 (rP hP (SO.p3 ho)) ?_
  refine T.iload_n (pc' := 5) (q_d dX3_reach_0 2 rfl) rfl rfl rfl ?_
  refine T.iald (pc' := 6) (q_d dX3_reach_0 3 rfl) rfl (SO.a3 ho) (Nat.lt_of_le_of_lt (by omega) (SO.lt ho)) rfl (by omega) (by decide) (hs.2.2.2.2.2.1 p (by omega)) ?_
  refine T.istore_n (pc' := 7) (q_d dX3_reach_0 4 rfl) rfl rfl (by decide) rfl rfl ?_
  refine T.iconst (pc' := 8) (v := nI 1) (q_d dX3_reach_0 5 rfl) rfl (by decide) ?_
  refine T.iload_n (pc' := 9) (q_d dX3_reach_0 6 rfl) rfl rfl rfl ?_
  refine T.ishl (pc' := 10) (q_d dX3_reach_0 7 rfl) rfl (nN_shl _ (by omega)) ?_
  refine T.istore_n (pc' := 11) (q_d dX3_reach_0 8 rfl) rfl rfl (by decide) rfl rfl ?_
  refine T.aload_n (pc' := 12) (q_d dX3_reach_0 9 rfl) rfl rfl rfl ?_
  refine T.getR (pc' := 15) (ci := 3) (k0 := 4) (q_d dX3_reach_0 10 rfl) rfl (SO.o ho) (Nat.lt_of_le_of_lt (Nat.le_add_right _ _) (SO.lt ho)) rfl inX3 (by decide) rfl wF_X3_21 (rP hP (SO.p4 ho)) ?_
  refine T.iconst (pc' := 16) (v := nI 0) (q_d dX3_reach_0 11 rfl) rfl (by decide) ?_
  refine T.iald (pc' := 17) (q_d dX3_reach_0 12 rfl) rfl (SO.a4 ho) (Nat.lt_of_le_of_lt (by omega) (SO.lt ho)) rfl (by omega) (by decide) (show M.1 (o + 4) 0 = s 4 from hs.2.2.2.2.2.2.1 0 (by decide)) ?_
  refine T.istore (pc' := 19) (q_d dX3_reach_0 13 rfl) rfl (by decide) rfl rfl ?_
  refine T.iload_n (pc' := 20) (q_d dX3_reach_0 14 rfl) rfl rfl rfl ?_
  refine T.if_neN (tgt := 25) (pc' := 23) (q_d dX3_reach_0 15 rfl) rfl (by decide) (by omega) (fun h20 => ?_) (fun h20 => ?_)
  · refine T.iload (pc' := 27) (q_d dX3_reach_0 18 rfl) rfl rfl ?_
    refine T.if_neN (tgt := 32) (pc' := 30) (q_d dX3_reach_0 19 rfl) rfl (by decide) (by omega) (fun h27 => ?_) (fun h27 => ?_)
    · refine T.iload (pc' := 34) (q_d dX3_reach_0 22 rfl) rfl rfl ?_
      refine T.iconst (pc' := 35) (v := nI 2) (q_d dX3_reach_0 23 rfl) rfl (by decide) ?_
      refine T.icmp_eqN (tgt := 42) (pc' := 38) (q_d dX3_reach_0 24 rfl) rfl (by decide) (by omega) (by omega) (fun h35 => ?_) (fun h35 => ?_)
      · refine T.iload_n (pc' := 43) (q_d dX3_reach_0 29 rfl) rfl rfl rfl ?_
        refine T.istore (pc' := 45) (q_d dX3_reach_0 30 rfl) rfl (by decide) rfl rfl ?_
        refine T.iconst (pc' := 46) (v := nI 0) (q_d dX3_reach_0 31 rfl) rfl (by decide) ?_
        refine T.istore (pc' := 48) (q_d dX3_reach_0 32 rfl) rfl (by decide) rfl rfl ?_
        exact loop (s 0) 0 _ (by omega) (by simp [orTo]) h20 h35
      · refine T.iload_n (pc' := 39) (q_d dX3_reach_0 25 rfl) rfl rfl rfl ?_
        refine T.iload_n (pc' := 40) (q_d dX3_reach_0 26 rfl) rfl rfl rfl ?_
        refine T.ior (pc' := 41) (q_d dX3_reach_0 27 rfl) rfl (nN_or _ _) ?_
        refine T.iret (q_d dX3_reach_0 28 rfl) rfl rfl rfl ?_
        refine ⟨rfl, ?_⟩
        unfold goes
        rcases (by omega : s 4 = 1 ∨ s 4 = 3) with e | e
        · rw [if_neg h27, if_pos e]
        · rw [if_neg h27, if_neg (by omega), if_neg h35, dif_zero (by omega)]
    · refine T.iload_n (pc' := 31) (q_d dX3_reach_0 20 rfl) rfl rfl rfl ?_
      refine T.iret (q_d dX3_reach_0 21 rfl) rfl rfl rfl ?_
      exact ⟨rfl, by unfold goes; rw [if_pos h27, if_neg h20]⟩
  · refine T.iload_n (pc' := 24) (q_d dX3_reach_0 16 rfl) rfl rfl rfl ?_
    refine T.iret (q_d dX3_reach_0 17 rfl) rfl rfl rfl ?_
    exact ⟨rfl, by unfold goes; rw [h20]; simp [dif]⟩
theorem c_countRoads (ho : SO o) (hs : RS M o s) (hw : WF b s) {a : Nat} {r : Nat → Nat} (hh : hdX a = .inr (0, 7)) (ha : a < 71) (hr : ∀ i, i < 7 → M.1 a i = r i) (hr2 : ∀ i, i < 7 → r i < 128) : Ct l hdX kX mX3_countRoads [.ref o, .ref a] M (RI M (sumTo (fun i => ones (r i)) (s 0) / 2)) := by
  refine Ct.of [some (.ref o), some (.ref a), none, none] (by decide +kernel) (fun h => absurd h (by decide)) (Nat.le_of_ble_eq_true rfl) rfl ?_
  have h0 := hs.1
  have w7 := hw.1
  have hle := sumTo_le (f := fun i => ones (r i)) (m := 7) (fun i => ones_le _)
  have loop : ∀ d i, i + d = s 0 → T l hdX kX mX3_countRoads (RI M (sumTo (fun i => ones (r i)) (s 0) / 2)) 0 0 4 [some (.ref o), some (.ref a), some (.int (nI (sumTo (fun i => ones (r i)) i))), some (.int (nI i))] [] M := by
    intro d
    induction d with
    | zero =>
      intro i hi
      have hle2 := hle i
      refine T.iload_n (pc' := 5) (q_d dX3_countRoads_0 4 rfl) rfl rfl rfl ?_
      refine T.aload_n (pc' := 6) (q_d dX3_countRoads_0 5 rfl) rfl rfl rfl ?_
      refine T.getI (pc' := 9) (ci := 3) (k0 := 0) (q_d dX3_countRoads_0 6 rfl) rfl (SO.o ho) (Nat.lt_of_le_of_lt (Nat.le_add_right _ _) (SO.lt ho)) rfl inX3 (by decide) rfl wF_X3_33 h0 ?_
      refine T.icmp_geN (tgt := 27) (pc' := 12) (q_d dX3_countRoads_0 7 rfl) rfl (by decide) (by omega) (by omega) (fun h9 => ?_) (fun h9 => ?_)
      · refine T.iload_n (pc' := 28) (q_d dX3_countRoads_0 17 rfl) rfl rfl rfl ?_
        refine T.iconst (pc' := 29) (v := nI 2) (q_d dX3_countRoads_0 18 rfl) rfl (by decide) ?_
        refine T.idiv (pc' := 30) (q_d dX3_countRoads_0 19 rfl) rfl (by decide) (pk_div (by omega) (by omega) (by omega)) ?_
        refine T.iret (q_d dX3_countRoads_0 20 rfl) rfl rfl rfl ?_
        exact ⟨rfl, by rw [show i = s 0 by omega]⟩
      · exact absurd h9 (by omega)
    | succ d ih =>
      intro i hi
      refine T.iload_n (pc' := 5) (q_d dX3_countRoads_0 4 rfl) rfl rfl rfl ?_
      refine T.aload_n (pc' := 6) (q_d dX3_countRoads_0 5 rfl) rfl rfl rfl ?_
      refine T.getI (pc' := 9) (ci := 3) (k0 := 0) (q_d dX3_countRoads_0 6 rfl) rfl (SO.o ho) (Nat.lt_of_le_of_lt (Nat.le_add_right _ _) (SO.lt ho)) rfl inX3 (by decide) rfl wF_X3_33 h0 ?_
      refine T.icmp_geN (tgt := 27) (pc' := 12) (q_d dX3_countRoads_0 7 rfl) rfl (by decide) (by omega) (by omega) (fun h9 => ?_) (fun h9 => ?_)
      · exact absurd h9 (by omega)
      · refine T.iload_n (pc' := 13) (q_d dX3_countRoads_0 8 rfl) rfl rfl rfl ?_
        refine T.aload_n (pc' := 14) (q_d dX3_countRoads_0 9 rfl) rfl rfl rfl ?_
        refine T.iload_n (pc' := 15) (q_d dX3_countRoads_0 10 rfl) rfl rfl rfl ?_
        refine T.iald (pc' := 16) (q_d dX3_countRoads_0 11 rfl) rfl hh ha rfl (by omega) (by decide) (hr i (by omega)) ?_
        refine T.callS (pc' := 19) (q_d dX3_countRoads_0 12 rfl) rfl uJ6_bitCount_0f7a4 wM_X3_47 (c_bitCount (hr2 i (by omega))) rfl rfl (by decide) (Nat.le_of_ble_eq_true rfl) rfl rfl (fun _ => rfl) ?_
        rintro _ _ ⟨rfl, rfl⟩
        dsimp only [Option.toList, List.cons_append, List.nil_append, List.append_nil]
        refine T.iadd (pc' := 20) (q_d dX3_countRoads_0 13 rfl) rfl (nI_add _ _) ?_
        refine T.istore_n (pc' := 21) (q_d dX3_countRoads_0 14 rfl) rfl rfl (by decide) rfl rfl ?_
        refine T.iinc (pc' := 24) (q_d dX3_countRoads_0 15 rfl) rfl rfl (nN_p _ 1) (by decide) rfl rfl ?_
        refine T.goto (tgt := 4) (q_d dX3_countRoads_0 16 rfl) (by decide) ?_
        exact ih (i + 1) (by omega)
  refine T.iconst (pc' := 1) (v := nI 0) (q_d dX3_countRoads_0 0 rfl) rfl (by decide) ?_
  refine T.istore_n (pc' := 2) (q_d dX3_countRoads_0 1 rfl) rfl rfl (by decide) rfl rfl ?_
  refine T.iconst (pc' := 3) (v := nI 0) (q_d dX3_countRoads_0 2 rfl) rfl (by decide) ?_
  refine T.istore_n (pc' := 4) (q_d dX3_countRoads_0 3 rfl) rfl rfl (by decide) rfl rfl ?_
  exact loop (s 0) 0 (by omega)
theorem c_turnRoad (ho : SO o) (hP : M.2.2 = pX pa sw) {i j : Nat} (hi : i < 7) (hj : j < 7) (hij : i ≠ j) : Ct l hdX kX mX3_turnRoad [.ref o, .int (nI i), .int (nI j)] M (fun v M' => v = none ∧ M' = qI (qI M (o + 3) i (M.1 (o + 3) i ^^^ 1 <<< j)) (o + 3) j (M.1 (o + 3) j ^^^ 1 <<< i)) := by
  refine Ct.of [some (.ref o), some (.int (nI i)), some (.int (nI j))] (by decide +kernel) (fun h => absurd h (by decide)) (Nat.le_of_ble_eq_true rfl) rfl ?_
  refine T.aload_n (pc' := 1) (q_d dX3_turnRoad_0 0 rfl) rfl rfl rfl ?_
  refine T.getR (pc' := 4) (ci := 3) (k0 := 3) (q_d dX3_turnRoad_0 1 rfl) rfl (SO.o ho) (Nat.lt_of_le_of_lt (Nat.le_add_right _ _) (SO.lt ho)) rfl inX3 (by decide) rfl wF_X3_18 (rP hP (SO.p3 ho)) ?_
  refine T.iload_n (pc' := 5) (q_d dX3_turnRoad_0 2 rfl) rfl rfl rfl ?_
  refine T.dup2 (pc' := 6) (q_d dX3_turnRoad_0 3 rfl) rfl rfl rfl ?_
  refine T.iald (pc' := 7) (q_d dX3_turnRoad_0 4 rfl) rfl (SO.a3 ho) (Nat.lt_of_le_of_lt (by omega) (SO.lt ho)) rfl (by omega) (by decide) rfl ?_
  refine T.iconst (pc' := 8) (v := nI 1) (q_d dX3_turnRoad_0 5 rfl) rfl (by decide) ?_
  refine T.iload_n (pc' := 9) (q_d dX3_turnRoad_0 6 rfl) rfl rfl rfl ?_
  refine T.ishl (pc' := 10) (q_d dX3_turnRoad_0 7 rfl) rfl (nN_shl _ (by omega)) ?_
  refine T.ixor (pc' := 11) (q_d dX3_turnRoad_0 8 rfl) rfl (nN_xor _ _) ?_
  refine T.iast (pc' := 12) (q_d dX3_turnRoad_0 9 rfl) rfl (SO.a3 ho) (Nat.lt_of_le_of_lt (by omega) (SO.lt ho)) rfl (by omega) (by decide) ?_
  refine T.aload_n (pc' := 13) (q_d dX3_turnRoad_0 10 rfl) rfl rfl rfl ?_
  refine T.getR (pc' := 16) (ci := 3) (k0 := 3) (q_d dX3_turnRoad_0 11 rfl) rfl (SO.o ho) (Nat.lt_of_le_of_lt (Nat.le_add_right _ _) (SO.lt ho)) rfl inX3 (by decide) rfl wF_X3_18 (rP hP (SO.p3 ho)) ?_
  refine T.iload_n (pc' := 17) (q_d dX3_turnRoad_0 12 rfl) rfl rfl rfl ?_
  refine T.dup2 (pc' := 18) (q_d dX3_turnRoad_0 13 rfl) rfl rfl rfl ?_
  refine T.iald (pc' := 19) (q_d dX3_turnRoad_0 14 rfl) rfl (SO.a3 ho) (Nat.lt_of_le_of_lt (by omega) (SO.lt ho)) rfl (by omega) (by decide) (qI_ne (Or.inr (Ne.symm hij))) ?_
  refine T.iconst (pc' := 20) (v := nI 1) (q_d dX3_turnRoad_0 15 rfl) rfl (by decide) ?_
  refine T.iload_n (pc' := 21) (q_d dX3_turnRoad_0 16 rfl) rfl rfl rfl ?_
  refine T.ishl (pc' := 22) (q_d dX3_turnRoad_0 17 rfl) rfl (nN_shl _ (by omega)) ?_
  refine T.ixor (pc' := 23) (q_d dX3_turnRoad_0 18 rfl) rfl (nN_xor _ _) ?_
  refine T.iast (pc' := 24) (q_d dX3_turnRoad_0 19 rfl) rfl (SO.a3 ho) (Nat.lt_of_le_of_lt (by omega) (SO.lt ho)) rfl (by omega) (by decide) ?_
  refine T.vret (q_d dX3_turnRoad_0 20 rfl) rfl rfl rfl ?_
  exact ⟨rfl, rfl⟩
theorem c_addRoad (ho : SO o) (hP : M.2.2 = pX pa sw) {i j : Nat} (hi : i < 7) (hj : j < 7) (hij : i ≠ j) : Ct l hdX kX mX3_addRoad [.ref o, .int (nI i), .int (nI j)] M (fun v M' => v = none ∧ M' = qI (qI (qI (qI M (o + 2) i (M.1 (o + 2) i ||| 1 <<< j)) (o + 2) j (M.1 (o + 2) j ||| 1 <<< i)) (o + 3) i (M.1 (o + 3) i ^^^ 1 <<< j)) (o + 3) j (M.1 (o + 3) j ^^^ 1 <<< i)) := by
  refine Ct.of [some (.ref o), some (.int (nI i)), some (.int (nI j))] (by decide +kernel) (fun h => absurd h (by decide)) (Nat.le_of_ble_eq_true rfl) rfl ?_
  refine T.aload_n (pc' := 1) (q_d dX3_addRoad_0 0 rfl) rfl rfl rfl ?_
  refine T.getR (pc' := 4) (ci := 3) (k0 := 2) (q_d dX3_addRoad_0 1 rfl) rfl (SO.o ho) (Nat.lt_of_le_of_lt (Nat.le_add_right _ _) (SO.lt ho)) rfl inX3 (by decide) rfl wF_X3_15 (rP hP (SO.p2 ho)) ?_
  refine T.iload_n (pc' := 5) (q_d dX3_addRoad_0 2 rfl) rfl rfl rfl ?_
  refine T.dup2 (pc' := 6) (q_d dX3_addRoad_0 3 rfl) rfl rfl rfl ?_
  refine T.iald (pc' := 7) (q_d dX3_addRoad_0 4 rfl) rfl (SO.a2 ho) (Nat.lt_of_le_of_lt (by omega) (SO.lt ho)) rfl (by omega) (by decide) rfl ?_
  refine T.iconst (pc' := 8) (v := nI 1) (q_d dX3_addRoad_0 5 rfl) rfl (by decide) ?_
  refine T.iload_n (pc' := 9) (q_d dX3_addRoad_0 6 rfl) rfl rfl rfl ?_
  refine T.ishl (pc' := 10) (q_d dX3_addRoad_0 7 rfl) rfl (nN_shl _ (by omega)) ?_
  refine T.ior (pc' := 11) (q_d dX3_addRoad_0 8 rfl) rfl (nN_or _ _) ?_
  refine T.iast (pc' := 12) (q_d dX3_addRoad_0 9 rfl) rfl (SO.a2 ho) (Nat.lt_of_le_of_lt (by omega) (SO.lt ho)) rfl (by omega) (by decide) ?_
  refine T.aload_n (pc' := 13) (q_d dX3_addRoad_0 10 rfl) rfl rfl rfl ?_
  refine T.getR (pc' := 16) (ci := 3) (k0 := 2) (q_d dX3_addRoad_0 11 rfl) rfl (SO.o ho) (Nat.lt_of_le_of_lt (Nat.le_add_right _ _) (SO.lt ho)) rfl inX3 (by decide) rfl wF_X3_15 (rP hP (SO.p2 ho)) ?_
  refine T.iload_n (pc' := 17) (q_d dX3_addRoad_0 12 rfl) rfl rfl rfl ?_
  refine T.dup2 (pc' := 18) (q_d dX3_addRoad_0 13 rfl) rfl rfl rfl ?_
  refine T.iald (pc' := 19) (q_d dX3_addRoad_0 14 rfl) rfl (SO.a2 ho) (Nat.lt_of_le_of_lt (by omega) (SO.lt ho)) rfl (by omega) (by decide) (qI_ne (Or.inr (Ne.symm hij))) ?_
  refine T.iconst (pc' := 20) (v := nI 1) (q_d dX3_addRoad_0 15 rfl) rfl (by decide) ?_
  refine T.iload_n (pc' := 21) (q_d dX3_addRoad_0 16 rfl) rfl rfl rfl ?_
  refine T.ishl (pc' := 22) (q_d dX3_addRoad_0 17 rfl) rfl (nN_shl _ (by omega)) ?_
  refine T.ior (pc' := 23) (q_d dX3_addRoad_0 18 rfl) rfl (nN_or _ _) ?_
  refine T.iast (pc' := 24) (q_d dX3_addRoad_0 19 rfl) rfl (SO.a2 ho) (Nat.lt_of_le_of_lt (by omega) (SO.lt ho)) rfl (by omega) (by decide) ?_
  refine T.aload_n (pc' := 25) (q_d dX3_addRoad_0 20 rfl) rfl rfl rfl ?_
  refine T.iload_n (pc' := 26) (q_d dX3_addRoad_0 21 rfl) rfl rfl rfl ?_
  refine T.iload_n (pc' := 27) (q_d dX3_addRoad_0 22 rfl) rfl rfl rfl ?_
  refine T.callV (pc' := 30) (ci := 3) (q_d dX3_addRoad_0 23 rfl) rfl uX3_turnRoad wM_X3_43 (c_turnRoad (M := qI (qI M (o + 2) i (M.1 (o + 2) i ||| 1 <<< j)) (o + 2) j (M.1 (o + 2) j ||| 1 <<< i)) ho hP hi hj hij) rfl rfl (Nat.lt_of_le_of_lt (Nat.le_add_right _ _) (SO.lt ho)) (SO.o ho) rfl (by decide) (Nat.le_of_ble_eq_true rfl) rfl rfl (fun _ => rfl) ?_
  rintro _ _ ⟨rfl, rfl⟩
  dsimp only [Option.toList, List.cons_append, List.nil_append, List.append_nil]
  refine T.vret (q_d dX3_addRoad_0 24 rfl) rfl rfl rfl ?_
  refine ⟨rfl, ?_⟩
  rw [qI_ne (Or.inl (by omega)), qI_ne (Or.inl (by omega)), qI_ne (Or.inl (by omega)), qI_ne (Or.inl (by omega))]
theorem c_addPlace (ho : SO o) (hP : M.2.2 = pX pa sw) (hs : RS M o s) (hw : WF b s) (h7 : s 0 < 7) {c : Nat} : Ct l hdX kX mX3_addPlace [.ref o, .int (nI c)] M (fun v M' => v = some (.int (nI (s 0))) ∧ M' = qI (qI M (o + 1) (s 0) c) o 0 (s 0 + 1)) := by
  refine Ct.of [some (.ref o), some (.int (nI c))] (by decide +kernel) (fun h => absurd h (by decide)) (Nat.le_of_ble_eq_true rfl) rfl ?_
  have h0 := hs.1
  refine T.aload_n (pc' := 1) (q_d dX3_addPlace_0 0 rfl) rfl rfl rfl ?_
  refine T.getR (pc' := 4) (ci := 3) (k0 := 1) (q_d dX3_addPlace_0 1 rfl) rfl (SO.o ho) (Nat.lt_of_le_of_lt (Nat.le_add_right _ _) (SO.lt ho)) rfl inX3 (by decide) rfl wF_X3_9 (rP hP (SO.p1 ho)) ?_
  refine T.aload_n (pc' := 5) (q_d dX3_addPlace_0 2 rfl) rfl rfl rfl ?_
  refine T.getI (pc' := 8) (ci := 3) (k0 := 0) (q_d dX3_addPlace_0 3 rfl) rfl (SO.o ho) (Nat.lt_of_le_of_lt (Nat.le_add_right _ _) (SO.lt ho)) rfl inX3 (by decide) rfl wF_X3_33 h0 ?_
  refine T.iload_n (pc' := 9) (q_d dX3_addPlace_0 4 rfl) rfl rfl rfl ?_
  refine T.iast (pc' := 10) (q_d dX3_addPlace_0 5 rfl) rfl (SO.a1 ho) (Nat.lt_of_le_of_lt (by omega) (SO.lt ho)) rfl (by omega) (by decide) ?_
  refine T.aload_n (pc' := 11) (q_d dX3_addPlace_0 6 rfl) rfl rfl rfl ?_
  refine T.dup (pc' := 12) (q_d dX3_addPlace_0 7 rfl) rfl rfl ?_
  refine T.getI (pc' := 15) (ci := 3) (k0 := 0) (q_d dX3_addPlace_0 8 rfl) rfl (SO.o ho) (Nat.lt_of_le_of_lt (Nat.le_add_right _ _) (SO.lt ho)) rfl inX3 (by decide) rfl wF_X3_33 ((qI_ne (Or.inl (by omega))).trans h0) ?_
  refine T.iconst (pc' := 16) (v := nI 1) (q_d dX3_addPlace_0 9 rfl) rfl (by decide) ?_
  refine T.iadd (pc' := 17) (q_d dX3_addPlace_0 10 rfl) rfl (nI_add _ _) ?_
  refine T.putI (pc' := 20) (ci := 3) (k0 := 0) (q_d dX3_addPlace_0 11 rfl) rfl (SO.o ho) (Nat.lt_of_le_of_lt (Nat.le_add_right _ _) (SO.lt ho)) rfl inX3 tyX3 tyX3_ok nmX3 (by decide) rfl wF_X3_33 rfl rfl rfl ?_
  refine T.aload_n (pc' := 21) (q_d dX3_addPlace_0 12 rfl) rfl rfl rfl ?_
  refine T.getI (pc' := 24) (ci := 3) (k0 := 0) (q_d dX3_addPlace_0 13 rfl) rfl (SO.o ho) (Nat.lt_of_le_of_lt (Nat.le_add_right _ _) (SO.lt ho)) rfl inX3 (by decide) rfl wF_X3_33 qI_eq ?_
  refine T.iconst (pc' := 25) (v := nI 1) (q_d dX3_addPlace_0 14 rfl) rfl (by decide) ?_
  refine T.isub (pc' := 26) (q_d dX3_addPlace_0 15 rfl) rfl (nN_sub (by omega)) ?_
  refine T.iret (q_d dX3_addPlace_0 16 rfl) rfl rfl rfl ?_
  exact ⟨by rw [Nat.add_sub_cancel], rfl⟩
theorem c_takeFrom {o2 : Nat} (ho : SO o) (ho2 : SO o2) (hse : o + 8 ≤ o2 ∨ o2 + 8 ≤ o) (hP : M.2.2 = pX pa sw) (hs : RS M o2 s) : Ct l hdX kX mX3_takeFrom [.ref o, .ref o2] M (fun v M' => v = none ∧ RS M' o s ∧ Fr M M' o) := by
  refine Ct.of [some (.ref o), some (.ref o2), none] (by decide +kernel) (fun h => absurd h (by decide)) (Nat.le_of_ble_eq_true rfl) rfl ?_
  have loop3 : ∀ d i (M' : qM), i + d = 8 → Fr M M' o → (M'.1 o 0 = M.1 o2 0 ∧ M'.1 o 5 = M.1 o2 5 ∧ M'.1 o 6 = M.1 o2 6) → (∀ j, j < 7 → M'.1 (o + 1) j = M.1 (o2 + 1) j ∧ M'.1 (o + 2) j = M.1 (o2 + 2) j ∧ M'.1 (o + 3) j = M.1 (o2 + 3) j) → (∀ j, j < 3 → M'.1 (o + 4) j = M.1 (o2 + 4) j) → (∀ j, j < i → M'.1 (o + 5) j = M.1 (o2 + 5) j ∧ M'.1 (o + 6) j = M.1 (o2 + 6) j ∧ M'.1 (o + 7) j = M.1 (o2 + 7) j) →
      T l hdX kX mX3_takeFrom (fun v M' => v = none ∧ RS M' o s ∧ Fr M M' o) 0 0 101 [some (.ref o), some (.ref o2), some (.int (nI i))] [] M' := by
    intro d
    induction d with
    | zero =>
      intro i M' hi hF hq h1 h4 h5
      have hP' : M'.2.2 = pX pa sw := by rw [hF.1]; exact hP
      have hi8 : i = 8 := by omega
      subst hi8
      refine T.iload_n (pc' := 102) (q_d dX3_takeFrom_1 20 rfl) rfl rfl rfl ?_
      refine T.bipush (pc' := 104) (v := nI 8) (q_d dX3_takeFrom_1 21 rfl) rfl (by decide) ?_
      refine T.icmp_geN (tgt := 149) (pc' := 107) (q_d dX3_takeFrom_1 22 rfl) rfl (by decide) (by omega) (by omega) (fun h104 => ?_) (fun h104 => ?_)
      · refine T.vret (q_d dX3_takeFrom_2 9 rfl) rfl rfl rfl ?_
        obtain ⟨e0, e1, e2, e3, e4, e5, e6, e7⟩ := hs
        refine ⟨rfl, ⟨hq.1.trans e0, hq.2.1.trans e1, hq.2.2.trans e2, fun j hj => (h1 j hj).1.trans (e3 j hj), fun j hj => (h1 j hj).2.1.trans (e4 j hj), fun j hj => (h1 j hj).2.2.trans (e5 j hj), fun j hj => (h4 j hj).trans (e6 j hj), fun k hk hk2 => ?_⟩, hF⟩
        have h9 := h5 ((s 2 - 1 - k) % 8) (Nat.mod_lt _ (by decide))
        have h8 := e7 k hk hk2
        exact ⟨h9.1.trans h8.1, h9.2.1.trans h8.2.1, h9.2.2.trans h8.2.2⟩
      · exact absurd h104 (by omega)
    | succ d ih =>
      intro i M' hi hF hq h1 h4 h5
      have hP' : M'.2.2 = pX pa sw := by rw [hF.1]; exact hP
      have r5 : M'.1 (o2 + 5) = M.1 (o2 + 5) := hF.2 _ (by omega)
      have r6 : M'.1 (o2 + 6) = M.1 (o2 + 6) := hF.2 _ (by omega)
      have r7 : M'.1 (o2 + 7) = M.1 (o2 + 7) := hF.2 _ (by omega)
      refine T.iload_n (pc' := 102) (q_d dX3_takeFrom_1 20 rfl) rfl rfl rfl ?_
      refine T.bipush (pc' := 104) (v := nI 8) (q_d dX3_takeFrom_1 21 rfl) rfl (by decide) ?_
      refine T.icmp_geN (tgt := 149) (pc' := 107) (q_d dX3_takeFrom_1 22 rfl) rfl (by decide) (by omega) (by omega) (fun h104 => ?_) (fun h104 => ?_)
      · exact absurd h104 (by omega)
      · refine T.aload_n (pc' := 108) (q_d dX3_takeFrom_1 23 rfl) rfl rfl rfl ?_
        refine T.getR (pc' := 111) (ci := 3) (k0 := 7) (q_d dX3_takeFrom_1 24 rfl) rfl (SO.o ho) (Nat.lt_of_le_of_lt (Nat.le_add_right _ _) (SO.lt ho)) rfl inX3 (by decide) rfl wF_X3_24 (rP hP' (SO.p7 ho)) ?_
        refine T.iload_n (pc' := 112) (q_d dX3_takeFrom_1 25 rfl) rfl rfl rfl ?_
        refine T.aload_n (pc' := 113) (q_d dX3_takeFrom_1 26 rfl) rfl rfl rfl ?_
        refine T.getR (pc' := 116) (ci := 3) (k0 := 7) (q_d dX3_takeFrom_1 27 rfl) rfl (SO.o ho2) (Nat.lt_of_le_of_lt (Nat.le_add_right _ _) (SO.lt ho2)) rfl inX3 (by decide) rfl wF_X3_24 (rP hP' (SO.p7 ho2)) ?_
        refine T.iload_n (pc' := 117) (q_d dX3_takeFrom_1 28 rfl) rfl rfl rfl ?_
        refine T.iald (pc' := 118) (q_d dX3_takeFrom_1 29 rfl) rfl (SO.a5 ho2) (Nat.lt_of_le_of_lt (by omega) (SO.lt ho2)) rfl (by omega) (by decide) (by rw [r5]) ?_
        refine T.iast (pc' := 119) (q_d dX3_takeFrom_1 30 rfl) rfl (SO.a5 ho) (Nat.lt_of_le_of_lt (by omega) (SO.lt ho)) rfl (by omega) (by decide) ?_
        refine T.aload_n (pc' := 120) (q_d dX3_takeFrom_1 31 rfl) rfl rfl rfl ?_
        refine T.getR (pc' := 123) (ci := 3) (k0 := 8) (q_d dX3_takeFrom_1 32 rfl) rfl (SO.o ho) (Nat.lt_of_le_of_lt (Nat.le_add_right _ _) (SO.lt ho)) rfl inX3 (by decide) rfl wF_X3_27 (rP hP' (SO.p8 ho)) ?_
        refine T.iload_n (pc' := 124) (q_d dX3_takeFrom_1 33 rfl) rfl rfl rfl ?_
        refine T.aload_n (pc' := 125) (q_d dX3_takeFrom_1 34 rfl) rfl rfl rfl ?_
        refine T.getR (pc' := 128) (ci := 3) (k0 := 8) (q_d dX3_takeFrom_1 35 rfl) rfl (SO.o ho2) (Nat.lt_of_le_of_lt (Nat.le_add_right _ _) (SO.lt ho2)) rfl inX3 (by decide) rfl wF_X3_27 (rP hP' (SO.p8 ho2)) ?_
        refine T.iload_n (pc' := 129) (q_d dX3_takeFrom_1 36 rfl) rfl rfl rfl ?_
        refine T.iald (pc' := 130) (q_d dX3_takeFrom_1 37 rfl) rfl (SO.a6 ho2) (Nat.lt_of_le_of_lt (by omega) (SO.lt ho2)) rfl (by omega) (by decide) (by rw [qI_ne (Or.inl (by omega)), r6]) ?_
        refine T.iast (pc' := 131) (q_d dX3_takeFrom_1 38 rfl) rfl (SO.a6 ho) (Nat.lt_of_le_of_lt (by omega) (SO.lt ho)) rfl (by omega) (by decide) ?_
        refine T.aload_n (pc' := 132) (q_d dX3_takeFrom_1 39 rfl) rfl rfl rfl ?_
        refine T.getR (pc' := 135) (ci := 3) (k0 := 9) (q_d dX3_takeFrom_2 0 rfl) rfl (SO.o ho) (Nat.lt_of_le_of_lt (Nat.le_add_right _ _) (SO.lt ho)) rfl inX3 (by decide) rfl wF_X3_30 (rP hP' (SO.p9 ho)) ?_
        refine T.iload_n (pc' := 136) (q_d dX3_takeFrom_2 1 rfl) rfl rfl rfl ?_
        refine T.aload_n (pc' := 137) (q_d dX3_takeFrom_2 2 rfl) rfl rfl rfl ?_
        refine T.getR (pc' := 140) (ci := 3) (k0 := 9) (q_d dX3_takeFrom_2 3 rfl) rfl (SO.o ho2) (Nat.lt_of_le_of_lt (Nat.le_add_right _ _) (SO.lt ho2)) rfl inX3 (by decide) rfl wF_X3_30 (rP hP' (SO.p9 ho2)) ?_
        refine T.iload_n (pc' := 141) (q_d dX3_takeFrom_2 4 rfl) rfl rfl rfl ?_
        refine T.iald (pc' := 142) (q_d dX3_takeFrom_2 5 rfl) rfl (SO.a7 ho2) (Nat.lt_of_le_of_lt (by omega) (SO.lt ho2)) rfl (by omega) (by decide) (by rw [qI_ne (Or.inl (by omega)), qI_ne (Or.inl (by omega)), r7]) ?_
        refine T.iast (pc' := 143) (q_d dX3_takeFrom_2 6 rfl) rfl (SO.a7 ho) (Nat.lt_of_le_of_lt (by omega) (SO.lt ho)) rfl (by omega) (by decide) ?_
        refine T.iinc (pc' := 146) (q_d dX3_takeFrom_2 7 rfl) rfl rfl (nN_p _ 1) (by decide) rfl rfl ?_
        refine T.goto (tgt := 101) (q_d dX3_takeFrom_2 8 rfl) (by decide) ?_
        refine ih (i + 1) _ (by omega) ⟨hF.1, fun a ha => ?_⟩ ?_ (fun j hj => ?_) (fun j hj => ?_) (fun j hj => ?_)
        · funext j; rw [qI_ne (Or.inl (by omega)), qI_ne (Or.inl (by omega)), qI_ne (Or.inl (by omega)), hF.2 a ha]
        · rw [qI_ne (Or.inl (by omega)), qI_ne (Or.inl (by omega)), qI_ne (Or.inl (by omega)), qI_ne (Or.inl (by omega)), qI_ne (Or.inl (by omega)), qI_ne (Or.inl (by omega)), qI_ne (Or.inl (by omega)), qI_ne (Or.inl (by omega)), qI_ne (Or.inl (by omega))]; exact hq
        · rw [qI_ne (Or.inl (by omega)), qI_ne (Or.inl (by omega)), qI_ne (Or.inl (by omega)), qI_ne (Or.inl (by omega)), qI_ne (Or.inl (by omega)), qI_ne (Or.inl (by omega)), qI_ne (Or.inl (by omega)), qI_ne (Or.inl (by omega)), qI_ne (Or.inl (by omega))]; exact h1 j hj
        · rw [qI_ne (Or.inl (by omega)), qI_ne (Or.inl (by omega)), qI_ne (Or.inl (by omega))]; exact h4 j hj
        · by_cases e : j = i
          · subst e
            refine ⟨?_, ?_, ?_⟩
            · rw [qI_ne (Or.inl (by omega)), qI_ne (Or.inl (by omega)), qI_eq]
            · rw [qI_ne (Or.inl (by omega)), qI_eq]
            · rw [qI_eq]
          · rw [qI_ne (Or.inl (by omega)), qI_ne (Or.inl (by omega)), qI_ne (Or.inr e), qI_ne (Or.inl (by omega)), qI_ne (Or.inr e), qI_ne (Or.inl (by omega)), qI_ne (Or.inr e), qI_ne (Or.inl (by omega)), qI_ne (Or.inl (by omega))]; exact h5 j (by omega)
  have loop2 : ∀ d i (M' : qM), i + d = 3 → Fr M M' o → (M'.1 o 0 = M.1 o2 0 ∧ M'.1 o 5 = M.1 o2 5 ∧ M'.1 o 6 = M.1 o2 6) → (∀ j, j < 7 → M'.1 (o + 1) j = M.1 (o2 + 1) j ∧ M'.1 (o + 2) j = M.1 (o2 + 2) j ∧ M'.1 (o + 3) j = M.1 (o2 + 3) j) → (∀ j, j < i → M'.1 (o + 4) j = M.1 (o2 + 4) j) →
      T l hdX kX mX3_takeFrom (fun v M' => v = none ∧ RS M' o s ∧ Fr M M' o) 0 0 76 [some (.ref o), some (.ref o2), some (.int (nI i))] [] M' := by
    intro d
    induction d with
    | zero =>
      intro i M' hi hF hq h1 h4
      have hP' : M'.2.2 = pX pa sw := by rw [hF.1]; exact hP
      refine T.iload_n (pc' := 77) (q_d dX3_takeFrom_1 5 rfl) rfl rfl rfl ?_
      refine T.iconst (pc' := 78) (v := nI 3) (q_d dX3_takeFrom_1 6 rfl) rfl (by decide) ?_
      refine T.icmp_geN (tgt := 99) (pc' := 81) (q_d dX3_takeFrom_1 7 rfl) rfl (by decide) (by omega) (by omega) (fun h78 => ?_) (fun h78 => ?_)
      · refine T.iconst (pc' := 100) (v := nI 0) (q_d dX3_takeFrom_1 18 rfl) rfl (by decide) ?_
        refine T.istore_n (pc' := 101) (q_d dX3_takeFrom_1 19 rfl) rfl rfl (by decide) rfl rfl ?_
        exact loop3 8 0 _ (by omega) hF hq h1 (fun j hj => h4 j (by omega)) (fun j hj => absurd hj (by omega))
      · exact absurd h78 (by omega)
    | succ d ih =>
      intro i M' hi hF hq h1 h4
      have hP' : M'.2.2 = pX pa sw := by rw [hF.1]; exact hP
      have r4 : M'.1 (o2 + 4) = M.1 (o2 + 4) := hF.2 _ (by omega)
      refine T.iload_n (pc' := 77) (q_d dX3_takeFrom_1 5 rfl) rfl rfl rfl ?_
      refine T.iconst (pc' := 78) (v := nI 3) (q_d dX3_takeFrom_1 6 rfl) rfl (by decide) ?_
      refine T.icmp_geN (tgt := 99) (pc' := 81) (q_d dX3_takeFrom_1 7 rfl) rfl (by decide) (by omega) (by omega) (fun h78 => ?_) (fun h78 => ?_)
      · exact absurd h78 (by omega)
      · refine T.aload_n (pc' := 82) (q_d dX3_takeFrom_1 8 rfl) rfl rfl rfl ?_
        refine T.getR (pc' := 85) (ci := 3) (k0 := 4) (q_d dX3_takeFrom_1 9 rfl) rfl (SO.o ho) (Nat.lt_of_le_of_lt (Nat.le_add_right _ _) (SO.lt ho)) rfl inX3 (by decide) rfl wF_X3_21 (rP hP' (SO.p4 ho)) ?_
        refine T.iload_n (pc' := 86) (q_d dX3_takeFrom_1 10 rfl) rfl rfl rfl ?_
        refine T.aload_n (pc' := 87) (q_d dX3_takeFrom_1 11 rfl) rfl rfl rfl ?_
        refine T.getR (pc' := 90) (ci := 3) (k0 := 4) (q_d dX3_takeFrom_1 12 rfl) rfl (SO.o ho2) (Nat.lt_of_le_of_lt (Nat.le_add_right _ _) (SO.lt ho2)) rfl inX3 (by decide) rfl wF_X3_21 (rP hP' (SO.p4 ho2)) ?_
        refine T.iload_n (pc' := 91) (q_d dX3_takeFrom_1 13 rfl) rfl rfl rfl ?_
        refine T.iald (pc' := 92) (q_d dX3_takeFrom_1 14 rfl) rfl (SO.a4 ho2) (Nat.lt_of_le_of_lt (by omega) (SO.lt ho2)) rfl (by omega) (by decide) (by rw [r4]) ?_
        refine T.iast (pc' := 93) (q_d dX3_takeFrom_1 15 rfl) rfl (SO.a4 ho) (Nat.lt_of_le_of_lt (by omega) (SO.lt ho)) rfl (by omega) (by decide) ?_
        refine T.iinc (pc' := 96) (q_d dX3_takeFrom_1 16 rfl) rfl rfl (nN_p _ 1) (by decide) rfl rfl ?_
        refine T.goto (tgt := 76) (q_d dX3_takeFrom_1 17 rfl) (by decide) ?_
        refine ih (i + 1) _ (by omega) ⟨hF.1, fun a ha => ?_⟩ ?_ (fun j hj => ?_) (fun j hj => ?_)
        · funext j; rw [qI_ne (Or.inl (by omega)), hF.2 a ha]
        · rw [qI_ne (Or.inl (by omega)), qI_ne (Or.inl (by omega)), qI_ne (Or.inl (by omega))]; exact hq
        · rw [qI_ne (Or.inl (by omega)), qI_ne (Or.inl (by omega)), qI_ne (Or.inl (by omega))]; exact h1 j hj
        · by_cases e : j = i
          · subst e
            rw [qI_eq]
          · rw [qI_ne (Or.inr e)]; exact h4 j (by omega)
  have loop1 : ∀ d i (M' : qM), i + d = 7 → Fr M M' o → (M'.1 o 0 = M.1 o2 0 ∧ M'.1 o 5 = M.1 o2 5 ∧ M'.1 o 6 = M.1 o2 6) → (∀ j, j < i → M'.1 (o + 1) j = M.1 (o2 + 1) j ∧ M'.1 (o + 2) j = M.1 (o2 + 2) j ∧ M'.1 (o + 3) j = M.1 (o2 + 3) j) →
      T l hdX kX mX3_takeFrom (fun v M' => v = none ∧ RS M' o s ∧ Fr M M' o) 0 0 26 [some (.ref o), some (.ref o2), some (.int (nI i))] [] M' := by
    intro d
    induction d with
    | zero =>
      intro i M' hi hF hq h1
      have hP' : M'.2.2 = pX pa sw := by rw [hF.1]; exact hP
      refine T.iload_n (pc' := 27) (q_d dX3_takeFrom_0 14 rfl) rfl rfl rfl ?_
      refine T.bipush (pc' := 29) (v := nI 7) (q_d dX3_takeFrom_0 15 rfl) rfl (by decide) ?_
      refine T.icmp_geN (tgt := 74) (pc' := 32) (q_d dX3_takeFrom_0 16 rfl) rfl (by decide) (by omega) (by omega) (fun h29 => ?_) (fun h29 => ?_)
      · refine T.iconst (pc' := 75) (v := nI 0) (q_d dX3_takeFrom_1 3 rfl) rfl (by decide) ?_
        refine T.istore_n (pc' := 76) (q_d dX3_takeFrom_1 4 rfl) rfl rfl (by decide) rfl rfl ?_
        exact loop2 3 0 _ (by omega) hF hq (fun j hj => h1 j (by omega)) (fun j hj => absurd hj (by omega))
      · exact absurd h29 (by omega)
    | succ d ih =>
      intro i M' hi hF hq h1
      have hP' : M'.2.2 = pX pa sw := by rw [hF.1]; exact hP
      have r1 : M'.1 (o2 + 1) = M.1 (o2 + 1) := hF.2 _ (by omega)
      have r2 : M'.1 (o2 + 2) = M.1 (o2 + 2) := hF.2 _ (by omega)
      have r3 : M'.1 (o2 + 3) = M.1 (o2 + 3) := hF.2 _ (by omega)
      refine T.iload_n (pc' := 27) (q_d dX3_takeFrom_0 14 rfl) rfl rfl rfl ?_
      refine T.bipush (pc' := 29) (v := nI 7) (q_d dX3_takeFrom_0 15 rfl) rfl (by decide) ?_
      refine T.icmp_geN (tgt := 74) (pc' := 32) (q_d dX3_takeFrom_0 16 rfl) rfl (by decide) (by omega) (by omega) (fun h29 => ?_) (fun h29 => ?_)
      · exact absurd h29 (by omega)
      · refine T.aload_n (pc' := 33) (q_d dX3_takeFrom_0 17 rfl) rfl rfl rfl ?_
        refine T.getR (pc' := 36) (ci := 3) (k0 := 1) (q_d dX3_takeFrom_0 18 rfl) rfl (SO.o ho) (Nat.lt_of_le_of_lt (Nat.le_add_right _ _) (SO.lt ho)) rfl inX3 (by decide) rfl wF_X3_9 (rP hP' (SO.p1 ho)) ?_
        refine T.iload_n (pc' := 37) (q_d dX3_takeFrom_0 19 rfl) rfl rfl rfl ?_
        refine T.aload_n (pc' := 38) (q_d dX3_takeFrom_0 20 rfl) rfl rfl rfl ?_
        refine T.getR (pc' := 41) (ci := 3) (k0 := 1) (q_d dX3_takeFrom_0 21 rfl) rfl (SO.o ho2) (Nat.lt_of_le_of_lt (Nat.le_add_right _ _) (SO.lt ho2)) rfl inX3 (by decide) rfl wF_X3_9 (rP hP' (SO.p1 ho2)) ?_
        refine T.iload_n (pc' := 42) (q_d dX3_takeFrom_0 22 rfl) rfl rfl rfl ?_
        refine T.iald (pc' := 43) (q_d dX3_takeFrom_0 23 rfl) rfl (SO.a1 ho2) (Nat.lt_of_le_of_lt (by omega) (SO.lt ho2)) rfl (by omega) (by decide) (by rw [r1]) ?_
        refine T.iast (pc' := 44) (q_d dX3_takeFrom_0 24 rfl) rfl (SO.a1 ho) (Nat.lt_of_le_of_lt (by omega) (SO.lt ho)) rfl (by omega) (by decide) ?_
        refine T.aload_n (pc' := 45) (q_d dX3_takeFrom_0 25 rfl) rfl rfl rfl ?_
        refine T.getR (pc' := 48) (ci := 3) (k0 := 2) (q_d dX3_takeFrom_0 26 rfl) rfl (SO.o ho) (Nat.lt_of_le_of_lt (Nat.le_add_right _ _) (SO.lt ho)) rfl inX3 (by decide) rfl wF_X3_15 (rP hP' (SO.p2 ho)) ?_
        refine T.iload_n (pc' := 49) (q_d dX3_takeFrom_0 27 rfl) rfl rfl rfl ?_
        refine T.aload_n (pc' := 50) (q_d dX3_takeFrom_0 28 rfl) rfl rfl rfl ?_
        refine T.getR (pc' := 53) (ci := 3) (k0 := 2) (q_d dX3_takeFrom_0 29 rfl) rfl (SO.o ho2) (Nat.lt_of_le_of_lt (Nat.le_add_right _ _) (SO.lt ho2)) rfl inX3 (by decide) rfl wF_X3_15 (rP hP' (SO.p2 ho2)) ?_
        refine T.iload_n (pc' := 54) (q_d dX3_takeFrom_0 30 rfl) rfl rfl rfl ?_
        refine T.iald (pc' := 55) (q_d dX3_takeFrom_0 31 rfl) rfl (SO.a2 ho2) (Nat.lt_of_le_of_lt (by omega) (SO.lt ho2)) rfl (by omega) (by decide) (by rw [qI_ne (Or.inl (by omega)), r2]) ?_
        refine T.iast (pc' := 56) (q_d dX3_takeFrom_0 32 rfl) rfl (SO.a2 ho) (Nat.lt_of_le_of_lt (by omega) (SO.lt ho)) rfl (by omega) (by decide) ?_
        refine T.aload_n (pc' := 57) (q_d dX3_takeFrom_0 33 rfl) rfl rfl rfl ?_
        refine T.getR (pc' := 60) (ci := 3) (k0 := 3) (q_d dX3_takeFrom_0 34 rfl) rfl (SO.o ho) (Nat.lt_of_le_of_lt (Nat.le_add_right _ _) (SO.lt ho)) rfl inX3 (by decide) rfl wF_X3_18 (rP hP' (SO.p3 ho)) ?_
        refine T.iload_n (pc' := 61) (q_d dX3_takeFrom_0 35 rfl) rfl rfl rfl ?_
        refine T.aload_n (pc' := 62) (q_d dX3_takeFrom_0 36 rfl) rfl rfl rfl ?_
        refine T.getR (pc' := 65) (ci := 3) (k0 := 3) (q_d dX3_takeFrom_0 37 rfl) rfl (SO.o ho2) (Nat.lt_of_le_of_lt (Nat.le_add_right _ _) (SO.lt ho2)) rfl inX3 (by decide) rfl wF_X3_18 (rP hP' (SO.p3 ho2)) ?_
        refine T.iload_n (pc' := 66) (q_d dX3_takeFrom_0 38 rfl) rfl rfl rfl ?_
        refine T.iald (pc' := 67) (q_d dX3_takeFrom_0 39 rfl) rfl (SO.a3 ho2) (Nat.lt_of_le_of_lt (by omega) (SO.lt ho2)) rfl (by omega) (by decide) (by rw [qI_ne (Or.inl (by omega)), qI_ne (Or.inl (by omega)), r3]) ?_
        refine T.iast (pc' := 68) (q_d dX3_takeFrom_1 0 rfl) rfl (SO.a3 ho) (Nat.lt_of_le_of_lt (by omega) (SO.lt ho)) rfl (by omega) (by decide) ?_
        refine T.iinc (pc' := 71) (q_d dX3_takeFrom_1 1 rfl) rfl rfl (nN_p _ 1) (by decide) rfl rfl ?_
        refine T.goto (tgt := 26) (q_d dX3_takeFrom_1 2 rfl) (by decide) ?_
        refine ih (i + 1) _ (by omega) ⟨hF.1, fun a ha => ?_⟩ ?_ (fun j hj => ?_)
        · funext j; rw [qI_ne (Or.inl (by omega)), qI_ne (Or.inl (by omega)), qI_ne (Or.inl (by omega)), hF.2 a ha]
        · rw [qI_ne (Or.inl (by omega)), qI_ne (Or.inl (by omega)), qI_ne (Or.inl (by omega)), qI_ne (Or.inl (by omega)), qI_ne (Or.inl (by omega)), qI_ne (Or.inl (by omega)), qI_ne (Or.inl (by omega)), qI_ne (Or.inl (by omega)), qI_ne (Or.inl (by omega))]; exact hq
        · by_cases e : j = i
          · subst e
            refine ⟨?_, ?_, ?_⟩
            · rw [qI_ne (Or.inl (by omega)), qI_ne (Or.inl (by omega)), qI_eq]
            · rw [qI_ne (Or.inl (by omega)), qI_eq]
            · rw [qI_eq]
          · rw [qI_ne (Or.inl (by omega)), qI_ne (Or.inl (by omega)), qI_ne (Or.inr e), qI_ne (Or.inl (by omega)), qI_ne (Or.inr e), qI_ne (Or.inl (by omega)), qI_ne (Or.inr e), qI_ne (Or.inl (by omega)), qI_ne (Or.inl (by omega))]; exact h1 j (by omega)
  refine T.aload_n (pc' := 1) (q_d dX3_takeFrom_0 0 rfl) rfl rfl rfl ?_
  refine T.aload_n (pc' := 2) (q_d dX3_takeFrom_0 1 rfl) rfl rfl rfl ?_
  refine T.getI (pc' := 5) (ci := 3) (k0 := 0) (q_d dX3_takeFrom_0 2 rfl) rfl (SO.o ho2) (Nat.lt_of_le_of_lt (Nat.le_add_right _ _) (SO.lt ho2)) rfl inX3 (by decide) rfl wF_X3_33 rfl ?_
  refine T.putI (pc' := 8) (ci := 3) (k0 := 0) (q_d dX3_takeFrom_0 3 rfl) rfl (SO.o ho) (Nat.lt_of_le_of_lt (Nat.le_add_right _ _) (SO.lt ho)) rfl inX3 tyX3 tyX3_ok nmX3 (by decide) rfl wF_X3_33 rfl rfl rfl ?_
  refine T.aload_n (pc' := 9) (q_d dX3_takeFrom_0 4 rfl) rfl rfl rfl ?_
  refine T.aload_n (pc' := 10) (q_d dX3_takeFrom_0 5 rfl) rfl rfl rfl ?_
  refine T.getI (pc' := 13) (ci := 3) (k0 := 5) (q_d dX3_takeFrom_0 6 rfl) rfl (SO.o ho2) (Nat.lt_of_le_of_lt (Nat.le_add_right _ _) (SO.lt ho2)) rfl inX3 (by decide) rfl wF_X3_37 (qI_ne (Or.inl (by omega))) ?_
  refine T.putI (pc' := 16) (ci := 3) (k0 := 5) (q_d dX3_takeFrom_0 7 rfl) rfl (SO.o ho) (Nat.lt_of_le_of_lt (Nat.le_add_right _ _) (SO.lt ho)) rfl inX3 tyX3 tyX3_ok nmX3 (by decide) rfl wF_X3_37 rfl rfl rfl ?_
  refine T.aload_n (pc' := 17) (q_d dX3_takeFrom_0 8 rfl) rfl rfl rfl ?_
  refine T.aload_n (pc' := 18) (q_d dX3_takeFrom_0 9 rfl) rfl rfl rfl ?_
  refine T.getI (pc' := 21) (ci := 3) (k0 := 6) (q_d dX3_takeFrom_0 10 rfl) rfl (SO.o ho2) (Nat.lt_of_le_of_lt (Nat.le_add_right _ _) (SO.lt ho2)) rfl inX3 (by decide) rfl wF_X3_40 ((qI_ne (Or.inl (by omega))).trans (qI_ne (Or.inl (by omega)))) ?_
  refine T.putI (pc' := 24) (ci := 3) (k0 := 6) (q_d dX3_takeFrom_0 11 rfl) rfl (SO.o ho) (Nat.lt_of_le_of_lt (Nat.le_add_right _ _) (SO.lt ho)) rfl inX3 tyX3 tyX3_ok nmX3 (by decide) rfl wF_X3_40 rfl rfl rfl ?_
  refine T.iconst (pc' := 25) (v := nI 0) (q_d dX3_takeFrom_0 12 rfl) rfl (by decide) ?_
  refine T.istore_n (pc' := 26) (q_d dX3_takeFrom_0 13 rfl) rfl rfl (by decide) rfl rfl ?_
  refine loop1 7 0 _ (by omega) ⟨rfl, fun a ha => ?_⟩ ⟨?_, ?_, ?_⟩ (fun j hj => absurd hj (by omega))
  · funext j; rw [qI_ne (Or.inl (by omega)), qI_ne (Or.inl (by omega)), qI_ne (Or.inl (by omega))]
  · rw [qI_ne (Or.inr (by omega)), qI_ne (Or.inr (by omega)), qI_eq]
  · rw [qI_ne (Or.inr (by omega)), qI_eq]
  · rw [qI_eq]
end CX3
