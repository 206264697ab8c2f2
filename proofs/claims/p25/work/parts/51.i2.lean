/-! a new BlindHunts, a new BlindHuntsModel -/
def s00 (j : Nat) : Nat := if j = 6 then 1 else 0
def pa00 (i : Nat) : Nat := 39 + 8 * i
def wiX : List (Nat × Nat × Nat) := [(67, 2, 1), (59, 2, 1), (51, 2, 1), (43, 2, 1), (32, 3, 4), (32, 2, 4), (29, 3, 3), (29, 2, 0), (13, 2, 1), (5, 2, 1)]
def wrX : List (Nat × Nat × Nat) := [(17, 3, 63), (63, 9, 70), (63, 8, 69), (63, 7, 68), (63, 4, 67), (63, 3, 66), (63, 2, 65), (63, 1, 64), (17, 2, 55), (55, 9, 62), (55, 8, 61), (55, 7, 60), (55, 4, 59), (55, 3, 58), (55, 2, 57), (55, 1, 56), (17, 1, 47), (47, 9, 54), (47, 8, 53), (47, 7, 52), (47, 4, 51), (47, 3, 50), (47, 2, 49), (47, 1, 48), (17, 0, 39), (39, 9, 46), (39, 8, 45), (39, 7, 44), (39, 4, 43), (39, 3, 42), (39, 2, 41), (39, 1, 40), (0, 12, 38), (0, 11, 35), (35, 1, 37), (35, 0, 36), (0, 7, 32), (32, 1, 34), (32, 0, 33), (0, 6, 29), (29, 1, 31), (29, 0, 30), (0, 5, 20), (20, 2, 28), (20, 1, 27), (20, 0, 21), (21, 4, 26), (21, 3, 25), (21, 2, 24), (21, 1, 23), (21, 0, 22), (0, 4, 18), (18, 0, 19), (0, 2, 17), (0, 1, 9), (9, 9, 16), (9, 8, 15), (9, 7, 14), (9, 4, 13), (9, 3, 12), (9, 2, 11), (9, 1, 10), (0, 0, 1), (1, 9, 8), (1, 8, 7), (1, 7, 6), (1, 4, 5), (1, 3, 4), (1, 2, 3), (1, 1, 2)]
theorem WF_00 : WF 0 s00 := by
  refine ⟨by decide, by decide, by decide, by decide, by decide, Or.inl rfl, by decide, by decide, by decide, fun i h1 h2 => ⟨if_neg (by omega), if_neg (by omega)⟩, by decide, fun i j h1 h2 => ?_, fun i j h1 h2 => ?_⟩
  · rw [show s00 (14 + i) = 0 from if_neg (by omega), show s00 (14 + j) = 0 from if_neg (by omega), Nat.zero_testBit, Nat.zero_testBit]
  · rw [show s00 (21 + i) = 0 from if_neg (by omega), Nat.zero_testBit] at h2
    exact absurd h2 (by decide)
theorem pX_out {pa : Nat → Nat} {sw : Bool} {a k : Nat} (h : ¬(a < 71 ∧ k < 14)) : pX pa sw a k = none := by
  unfold pX
  split <;> (first | omega | (repeat' split) <;> (first | omega | (rw [List.getD_eq_getElem?_getD, List.getElem?_eq_none (by simp; omega)]; rfl) | rfl) | rfl)
theorem pX_in : ∀ a, a < 71 → ∀ k, k < 14 → qRW wrX a k = pX pa00 false a k := by decide +kernel
theorem wrX_lt : ∀ w ∈ wrX, w.1 < 71 ∧ w.2.1 < 14 := by decide +kernel
theorem pX_new : qRW wrX = pX pa00 false := by
  funext a k
  by_cases h : a < 71 ∧ k < 14
  · exact pX_in a h.1 k h.2
  · rw [pX_out h]
    exact qRW_out (fun x hx q => h ⟨q.1 ▸ (wrX_lt x hx).1, q.2 ▸ (wrX_lt x hx).2⟩)
theorem PaOk_00 : PaOk pa00 := by
  refine ⟨fun i hi => ?_, fun i j _ _ h => ?_⟩
  · unfold pa00; omega
  · unfold pa00 at h; omega
theorem RX_new (was : Nat → Nat → Nat) (t : Nat → Nat) : RX (MM wiX wrX) 0 s00 0 was 0 t pa00 false := by
  refine ⟨pX_new, PaOk_00, ⟨by decide +kernel, by decide +kernel, by decide +kernel, by decide +kernel, by decide +kernel, by decide +kernel, by decide +kernel, fun k _ h => absurd h (Nat.not_lt_zero _)⟩, WF_00, by decide +kernel, by decide, fun i hi => absurd hi (Nat.not_lt_zero _), ⟨by decide +kernel, fun i hi => absurd hi (Nat.not_lt_zero _)⟩, ⟨by decide, fun i hi => absurd hi (Nat.not_lt_zero _)⟩, by decide +kernel, by decide +kernel, by decide +kernel, fun h => absurd h (by decide +kernel), fun h => absurd h (by decide +kernel), fun h => absurd h (by decide +kernel), by decide +kernel, by decide +kernel, by decide +kernel, by decide +kernel, by decide +kernel⟩
section NewX
variable {l : Launch}
set_option maxRecDepth 20000 in
theorem i_X5 : Ct l hdX (1, true, 70, 1869) mX5_init [.ref 0] (MM [] []) (fun v M' => v = none ∧ M' = MM wiX wrX) := by
  refine Ct.of [some (.ref 0), none] (by decide +kernel) (fun _ => rfl) (Nat.le_of_ble_eq_true rfl) rfl ?_
  refine T.aload_n (pc' := 1) (q_d dX5_init_0 0 rfl) rfl rfl rfl ?_
  refine T.objInit (pc' := 4) (q_d dX5_init_0 1 rfl) rfl wM_X5_1 wI_obj wC_obj (by decide) (Nat.le_of_ble_eq_true rfl) ?_
  refine T.aload_n (pc' := 5) (q_d dX5_init_0 2 rfl) rfl rfl rfl ?_
  refine T.newo (pc' := 8) (ci := 3) (N := 10) (q_d dX5_init_0 3 rfl) rfl rfl rfl rfl inX3 tyX3 tyX3_ok wL_X5_7 wO_X3 wZ_X3 (by decide +kernel) (qIW_z (by decide)) (qRW_z (by decide)) (by decide) (by decide) ?_
  refine T.at (cs' := 1) (sl' := 10) rfl rfl ?_
  refine T.top (v' := .ref 1) rfl ?_
  refine T.dup (pc' := 9) (q_d dX5_init_0 4 rfl) rfl rfl ?_
  refine T.callI (pc' := 12) (q_d dX5_init_0 5 rfl) rfl uX3_init wM_X5_9 (i_X3 (n0 := 2) (a := 1) rfl (by decide) rfl rfl rfl rfl rfl rfl rfl (by decide)) rfl rfl (by decide) (Nat.le_of_ble_eq_true rfl) rfl rfl (fun h => absurd h (by decide)) ?_
  rintro _ _ ⟨rfl, rfl⟩
  dsimp only [Option.toList, List.cons_append, List.nil_append, List.append_nil]
  refine T.at (cs' := 8) (sl' := 58) rfl rfl ?_
  refine T.putRF (pc' := 15) (ci := 5) (k0 := 0) (q_d dX5_init_0 6 rfl) rfl rfl (by decide) rfl inX5 tyX5 tyX5_ok nmX5 (by decide) rfl wF_X5_10 rfl rfl rfl (fun _ => rfl) (fun _ => rfl) ?_
  refine T.wR ?_
  refine T.aload_n (pc' := 16) (q_d dX5_init_0 7 rfl) rfl rfl rfl ?_
  refine T.newo (pc' := 19) (ci := 3) (N := 10) (q_d dX5_init_0 8 rfl) rfl rfl rfl rfl inX3 tyX3 tyX3_ok wL_X5_7 wO_X3 wZ_X3 (by decide +kernel) (qIW_z (by decide)) (qRW_z (by decide)) (by decide) (by decide) ?_
  refine T.at (cs' := 9) (sl' := 68) rfl rfl ?_
  refine T.top (v' := .ref 9) rfl ?_
  refine T.dup (pc' := 20) (q_d dX5_init_0 9 rfl) rfl rfl ?_
  refine T.callI (pc' := 23) (q_d dX5_init_0 10 rfl) rfl uX3_init wM_X5_9 (i_X3 (n0 := 10) (a := 9) rfl (by decide) rfl rfl rfl rfl rfl rfl rfl (by decide)) rfl rfl (by decide) (Nat.le_of_ble_eq_true rfl) rfl rfl (fun h => absurd h (by decide)) ?_
  rintro _ _ ⟨rfl, rfl⟩
  dsimp only [Option.toList, List.cons_append, List.nil_append, List.append_nil]
  refine T.at (cs' := 16) (sl' := 116) rfl rfl ?_
  refine T.putRF (pc' := 26) (ci := 5) (k0 := 1) (q_d dX5_init_0 11 rfl) rfl rfl (by decide) rfl inX5 tyX5 tyX5_ok nmX5 (by decide) rfl wF_X5_16 rfl rfl rfl (fun _ => rfl) (fun _ => rfl) ?_
  refine T.wR ?_
  refine T.aload_n (pc' := 27) (q_d dX5_init_0 12 rfl) rfl rfl rfl ?_
  refine T.iconst (pc' := 28) (v := nI 4) (q_d dX5_init_0 13 rfl) rfl (by decide) ?_
  refine T.newS (pc' := 31) (N := 4) (q_d dX5_init_0 14 rfl) rfl rfl wL_X5_7 rfl (by decide) rfl (qRW_z (by decide)) (by decide) (by decide) ?_
  refine T.at (cs' := 17) (sl' := 120) rfl rfl ?_
  refine T.top (v' := .ref 17) rfl ?_
  refine T.putRF (pc' := 34) (ci := 5) (k0 := 2) (q_d dX5_init_0 15 rfl) rfl rfl (by decide) rfl inX5 tyX5 tyX5_ok nmX5 (by decide) rfl wF_X5_19 rfl rfl rfl (fun _ => rfl) (fun _ => rfl) ?_
  refine T.wR ?_
  refine T.aload_n (pc' := 35) (q_d dX5_init_0 16 rfl) rfl rfl rfl ?_
  refine T.newo (pc' := 38) (ci := 2) (N := 9) (q_d dX5_init_0 17 rfl) rfl rfl rfl rfl inX2 tyX2 tyX2_ok wL_X5_23 wO_X2 wZ_X2 (by decide +kernel) (qIW_z (by decide)) (qRW_z (by decide)) (by decide) (by decide) ?_
  refine T.at (cs' := 18) (sl' := 129) rfl rfl ?_
  refine T.top (v' := .ref 18) rfl ?_
  refine T.dup (pc' := 39) (q_d dX5_init_0 18 rfl) rfl rfl ?_
  refine T.callIN (pc' := 42) (q_d dX5_init_0 19 rfl) rfl uX2_init (fun _ h => h.2.2.1) (i_X2 (n0 := 19) (a := 18) rfl (by decide) rfl (by decide)) rfl rfl rfl (by decide) (Nat.le_of_ble_eq_true rfl) rfl rfl (fun h => absurd h (by decide)) ?_
  rintro _ _ ⟨rfl, rfl⟩
  dsimp only [Option.toList, List.cons_append, List.nil_append, List.append_nil]
  refine T.at (cs' := 19) (sl' := 189) rfl rfl ?_
  refine T.putRF (pc' := 45) (ci := 5) (k0 := 4) (q_d dX5_init_0 20 rfl) rfl rfl (by decide) rfl inX5 tyX5 tyX5_ok nmX5 (by decide) rfl wF_X5_26 rfl rfl rfl (fun _ => rfl) (fun _ => rfl) ?_
  refine T.wR ?_
  refine T.aload_n (pc' := 46) (q_d dX5_init_0 21 rfl) rfl rfl rfl ?_
  refine T.newo (pc' := 49) (ci := 1) (N := 6) (q_d dX5_init_0 22 rfl) rfl rfl rfl rfl inX1 tyX1 tyX1_ok wL_X5_30 wO_X1 wZ_X1 (by decide +kernel) (qIW_z (by decide)) (qRW_z (by decide)) (by decide) (by decide) ?_
  refine T.at (cs' := 20) (sl' := 195) rfl rfl ?_
  refine T.top (v' := .ref 20) rfl ?_
  refine T.dup (pc' := 50) (q_d dX5_init_0 23 rfl) rfl rfl ?_
  refine T.callIN (pc' := 53) (q_d dX5_init_0 24 rfl) rfl uX1_init (fun _ h => h.2.2.2.1) (i_X1 (n0 := 21) (a := 20) rfl (by decide) rfl (by decide) rfl rfl (by decide) (by decide)) rfl rfl rfl (by decide) (Nat.le_of_ble_eq_true rfl) rfl rfl (fun h => absurd h (by decide)) ?_
  rintro _ _ ⟨rfl, rfl⟩
  dsimp only [Option.toList, List.cons_append, List.nil_append, List.append_nil]
  refine T.at (cs' := 28) (sl' := 973) rfl rfl ?_
  refine T.putRF (pc' := 56) (ci := 5) (k0 := 5) (q_d dX5_init_0 25 rfl) rfl rfl (by decide) rfl inX5 tyX5 tyX5_ok nmX5 (by decide) rfl wF_X5_33 rfl rfl rfl (fun _ => rfl) (fun _ => rfl) ?_
  refine T.wR ?_
  refine T.aload_n (pc' := 57) (q_d dX5_init_0 26 rfl) rfl rfl rfl ?_
  refine T.newo (pc' := 60) (ci := 0) (N := 4) (q_d dX5_init_0 27 rfl) rfl rfl rfl rfl inX0 tyX0 tyX0_ok wL_X5_37 wO_X0 wZ_X0 (by decide +kernel) (qIW_z (by decide)) (qRW_z (by decide)) (by decide) (by decide) ?_
  refine T.at (cs' := 29) (sl' := 977) rfl rfl ?_
  refine T.top (v' := .ref 29) rfl ?_
  refine T.dup (pc' := 61) (q_d dX5_init_0 28 rfl) rfl rfl ?_
  refine T.iconst (pc' := 62) (v := nI 0) (q_d dX5_init_0 29 rfl) rfl (by decide) ?_
  refine T.iconst (pc' := 63) (v := nI 3) (q_d dX5_init_0 30 rfl) rfl (by decide) ?_
  refine T.callI (pc' := 66) (q_d dX5_init_0 31 rfl) rfl uX0_init wM_X5_39 (i_X0 (n0 := 30) (a := 29) (u := 0) (v := 3) rfl (by decide) rfl rfl (by decide)) rfl rfl (by decide) (Nat.le_of_ble_eq_true rfl) rfl rfl (fun h => absurd h (by decide)) ?_
  rintro _ _ ⟨rfl, rfl⟩
  dsimp only [Option.toList, List.cons_append, List.nil_append, List.append_nil]
  refine T.at (cs' := 31) (sl' := 1233) rfl rfl ?_
  refine T.putRF (pc' := 69) (ci := 5) (k0 := 6) (q_d dX5_init_0 32 rfl) rfl rfl (by decide) rfl inX5 tyX5 tyX5_ok nmX5 (by decide) rfl wF_X5_42 rfl rfl rfl (fun _ => rfl) (fun _ => rfl) ?_
  refine T.wR ?_
  refine T.aload_n (pc' := 70) (q_d dX5_init_0 33 rfl) rfl rfl rfl ?_
  refine T.newo (pc' := 73) (ci := 0) (N := 4) (q_d dX5_init_0 34 rfl) rfl rfl rfl rfl inX0 tyX0 tyX0_ok wL_X5_37 wO_X0 wZ_X0 (by decide +kernel) (qIW_z (by decide)) (qRW_z (by decide)) (by decide) (by decide) ?_
  refine T.at (cs' := 32) (sl' := 1237) rfl rfl ?_
  refine T.top (v' := .ref 32) rfl ?_
  refine T.dup (pc' := 74) (q_d dX5_init_0 35 rfl) rfl rfl ?_
  refine T.iconst (pc' := 75) (v := nI 4) (q_d dX5_init_0 36 rfl) rfl (by decide) ?_
  refine T.iconst (pc' := 76) (v := nI 4) (q_d dX5_init_0 37 rfl) rfl (by decide) ?_
  refine T.callI (pc' := 79) (q_d dX5_init_0 38 rfl) rfl uX0_init wM_X5_39 (i_X0 (n0 := 33) (a := 32) (u := 4) (v := 4) rfl (by decide) rfl rfl (by decide)) rfl rfl (by decide) (Nat.le_of_ble_eq_true rfl) rfl rfl (fun h => absurd h (by decide)) ?_
  rintro _ _ ⟨rfl, rfl⟩
  dsimp only [Option.toList, List.cons_append, List.nil_append, List.append_nil]
  refine T.at (cs' := 34) (sl' := 1493) rfl rfl ?_
  refine T.putRF (pc' := 82) (ci := 5) (k0 := 7) (q_d dX5_init_0 39 rfl) rfl rfl (by decide) rfl inX5 tyX5 tyX5_ok nmX5 (by decide) rfl wF_X5_46 rfl rfl rfl (fun _ => rfl) (fun _ => rfl) ?_
  refine T.wR ?_
  refine T.aload_n (pc' := 83) (q_d dX5_init_1 0 rfl) rfl rfl rfl ?_
  refine T.newo (pc' := 86) (ci := 4) (N := 2) (q_d dX5_init_1 1 rfl) rfl rfl rfl rfl inX4 tyX4 tyX4_ok wL_X5_49 wO_X4 wZ_X4 (by decide +kernel) (qIW_z (by decide)) (qRW_z (by decide)) (by decide) (by decide) ?_
  refine T.at (cs' := 35) (sl' := 1495) rfl rfl ?_
  refine T.top (v' := .ref 35) rfl ?_
  refine T.dup (pc' := 87) (q_d dX5_init_1 2 rfl) rfl rfl ?_
  refine T.callIN (pc' := 90) (q_d dX5_init_1 3 rfl) rfl uX4_init (fun _ h => h.2.2.2.2) (i_X4 (n0 := 36) (a := 35) rfl (by decide) rfl rfl) rfl rfl rfl (by decide) (Nat.le_of_ble_eq_true rfl) rfl rfl (fun h => absurd h (by decide)) ?_
  rintro _ _ ⟨rfl, rfl⟩
  dsimp only [Option.toList, List.cons_append, List.nil_append, List.append_nil]
  refine T.at (cs' := 37) (sl' := 1509) rfl rfl ?_
  refine T.putRF (pc' := 93) (ci := 5) (k0 := 11) (q_d dX5_init_1 4 rfl) rfl rfl (by decide) rfl inX5 tyX5 tyX5_ok nmX5 (by decide) rfl wF_X5_52 rfl rfl rfl (fun _ => rfl) (fun _ => rfl) ?_
  refine T.wR ?_
  refine T.aload_n (pc' := 94) (q_d dX5_init_1 5 rfl) rfl rfl rfl ?_
  refine T.sipush (pc' := 97) (v := nI 128) (q_d dX5_init_1 6 rfl) rfl (by decide) ?_
  refine T.newZ (pc' := 99) (N := 128) (q_d dX5_init_1 7 rfl) rfl rfl wA_boolean rfl (by decide) rfl (qIW_z (by decide)) (by decide) (by decide) ?_
  refine T.at (cs' := 38) (sl' := 1637) rfl rfl ?_
  refine T.top (v' := .ref 38) rfl ?_
  refine T.putRF (pc' := 102) (ci := 5) (k0 := 12) (q_d dX5_init_1 8 rfl) rfl rfl (by decide) rfl inX5 tyX5 tyX5_ok nmX5 (by decide) rfl wF_X5_56 rfl rfl rfl (fun _ => rfl) (fun _ => rfl) ?_
  refine T.wR ?_
  refine T.iconst (pc' := 103) (v := nI 0) (q_d dX5_init_1 9 rfl) rfl (by decide) ?_
  refine T.istore_n (pc' := 104) (q_d dX5_init_1 10 rfl) rfl rfl (by decide) rfl rfl ?_
  refine T.iload_n (pc' := 105) (q_d dX5_init_1 11 rfl) rfl rfl rfl ?_
  refine T.iconst (pc' := 106) (v := nI 4) (q_d dX5_init_1 12 rfl) rfl (by decide) ?_
  refine T.icmp_geN (tgt := 128) (pc' := 109) (q_d dX5_init_1 13 rfl) rfl (by decide) (by omega) (by omega) (fun h106 => ?_) (fun h106 => ?_)
  · exact absurd h106 (by decide)
  · refine T.aload_n (pc' := 110) (q_d dX5_init_1 14 rfl) rfl rfl rfl ?_
    refine T.getR (pc' := 113) (ci := 5) (k0 := 2) (q_d dX5_init_1 15 rfl) rfl rfl (by decide) rfl inX5 (by decide) rfl wF_X5_19 (show _ = some 17 from rfl) ?_
    refine T.iload_n (pc' := 114) (q_d dX5_init_1 16 rfl) rfl rfl rfl ?_
    refine T.newo (pc' := 117) (ci := 3) (N := 10) (q_d dX5_init_1 17 rfl) rfl rfl rfl rfl inX3 tyX3 tyX3_ok wL_X5_7 wO_X3 wZ_X3 (by decide +kernel) (qIW_z (by decide)) (qRW_z (by decide)) (by decide) (by decide) ?_
    refine T.at (cs' := 39) (sl' := 1647) rfl rfl ?_
    refine T.top (v' := .ref 39) rfl ?_
    refine T.dup (pc' := 118) (q_d dX5_init_1 18 rfl) rfl rfl ?_
    refine T.callI (pc' := 121) (q_d dX5_init_1 19 rfl) rfl uX3_init wM_X5_9 (i_X3 (n0 := 40) (a := 39) rfl (by decide) rfl rfl rfl rfl rfl rfl rfl (by decide)) rfl rfl (by decide) (Nat.le_of_ble_eq_true rfl) rfl rfl (fun h => absurd h (by decide)) ?_
    rintro _ _ ⟨rfl, rfl⟩
    dsimp only [Option.toList, List.cons_append, List.nil_append, List.append_nil]
    refine T.at (cs' := 46) (sl' := 1695) rfl rfl ?_
    refine T.qast (pc' := 122) (q_d dX5_init_1 20 rfl) rfl rfl (by decide) rfl (by omega) (by decide) (by decide) rfl rfl rfl ?_
    refine T.wR ?_
    refine T.iinc (pc' := 125) (q_d dX5_init_1 21 rfl) rfl rfl (nN_p _ 1) (by decide) rfl rfl ?_
    refine T.goto (tgt := 104) (q_d dX5_init_1 22 rfl) (by decide) ?_
    refine T.iload_n (pc' := 105) (q_d dX5_init_1 11 rfl) rfl rfl rfl ?_
    refine T.iconst (pc' := 106) (v := nI 4) (q_d dX5_init_1 12 rfl) rfl (by decide) ?_
    refine T.icmp_geN (tgt := 128) (pc' := 109) (q_d dX5_init_1 13 rfl) rfl (by decide) (by omega) (by omega) (fun h106 => ?_) (fun h106 => ?_)
    · exact absurd h106 (by decide)
    · refine T.aload_n (pc' := 110) (q_d dX5_init_1 14 rfl) rfl rfl rfl ?_
      refine T.getR (pc' := 113) (ci := 5) (k0 := 2) (q_d dX5_init_1 15 rfl) rfl rfl (by decide) rfl inX5 (by decide) rfl wF_X5_19 (show _ = some 17 from rfl) ?_
      refine T.iload_n (pc' := 114) (q_d dX5_init_1 16 rfl) rfl rfl rfl ?_
      refine T.newo (pc' := 117) (ci := 3) (N := 10) (q_d dX5_init_1 17 rfl) rfl rfl rfl rfl inX3 tyX3 tyX3_ok wL_X5_7 wO_X3 wZ_X3 (by decide +kernel) (qIW_z (by decide)) (qRW_z (by decide)) (by decide) (by decide) ?_
      refine T.at (cs' := 47) (sl' := 1705) rfl rfl ?_
      refine T.top (v' := .ref 47) rfl ?_
      refine T.dup (pc' := 118) (q_d dX5_init_1 18 rfl) rfl rfl ?_
      refine T.callI (pc' := 121) (q_d dX5_init_1 19 rfl) rfl uX3_init wM_X5_9 (i_X3 (n0 := 48) (a := 47) rfl (by decide) rfl rfl rfl rfl rfl rfl rfl (by decide)) rfl rfl (by decide) (Nat.le_of_ble_eq_true rfl) rfl rfl (fun h => absurd h (by decide)) ?_
      rintro _ _ ⟨rfl, rfl⟩
      dsimp only [Option.toList, List.cons_append, List.nil_append, List.append_nil]
      refine T.at (cs' := 54) (sl' := 1753) rfl rfl ?_
      refine T.qast (pc' := 122) (q_d dX5_init_1 20 rfl) rfl rfl (by decide) rfl (by omega) (by decide) (by decide) rfl rfl rfl ?_
      refine T.wR ?_
      refine T.iinc (pc' := 125) (q_d dX5_init_1 21 rfl) rfl rfl (nN_p _ 1) (by decide) rfl rfl ?_
      refine T.goto (tgt := 104) (q_d dX5_init_1 22 rfl) (by decide) ?_
      refine T.iload_n (pc' := 105) (q_d dX5_init_1 11 rfl) rfl rfl rfl ?_
      refine T.iconst (pc' := 106) (v := nI 4) (q_d dX5_init_1 12 rfl) rfl (by decide) ?_
      refine T.icmp_geN (tgt := 128) (pc' := 109) (q_d dX5_init_1 13 rfl) rfl (by decide) (by omega) (by omega) (fun h106 => ?_) (fun h106 => ?_)
      · exact absurd h106 (by decide)
      · refine T.aload_n (pc' := 110) (q_d dX5_init_1 14 rfl) rfl rfl rfl ?_
        refine T.getR (pc' := 113) (ci := 5) (k0 := 2) (q_d dX5_init_1 15 rfl) rfl rfl (by decide) rfl inX5 (by decide) rfl wF_X5_19 (show _ = some 17 from rfl) ?_
        refine T.iload_n (pc' := 114) (q_d dX5_init_1 16 rfl) rfl rfl rfl ?_
        refine T.newo (pc' := 117) (ci := 3) (N := 10) (q_d dX5_init_1 17 rfl) rfl rfl rfl rfl inX3 tyX3 tyX3_ok wL_X5_7 wO_X3 wZ_X3 (by decide +kernel) (qIW_z (by decide)) (qRW_z (by decide)) (by decide) (by decide) ?_
        refine T.at (cs' := 55) (sl' := 1763) rfl rfl ?_
        refine T.top (v' := .ref 55) rfl ?_
        refine T.dup (pc' := 118) (q_d dX5_init_1 18 rfl) rfl rfl ?_
        refine T.callI (pc' := 121) (q_d dX5_init_1 19 rfl) rfl uX3_init wM_X5_9 (i_X3 (n0 := 56) (a := 55) rfl (by decide) rfl rfl rfl rfl rfl rfl rfl (by decide)) rfl rfl (by decide) (Nat.le_of_ble_eq_true rfl) rfl rfl (fun h => absurd h (by decide)) ?_
        rintro _ _ ⟨rfl, rfl⟩
        dsimp only [Option.toList, List.cons_append, List.nil_append, List.append_nil]
        refine T.at (cs' := 62) (sl' := 1811) rfl rfl ?_
        refine T.qast (pc' := 122) (q_d dX5_init_1 20 rfl) rfl rfl (by decide) rfl (by omega) (by decide) (by decide) rfl rfl rfl ?_
        refine T.wR ?_
        refine T.iinc (pc' := 125) (q_d dX5_init_1 21 rfl) rfl rfl (nN_p _ 1) (by decide) rfl rfl ?_
        refine T.goto (tgt := 104) (q_d dX5_init_1 22 rfl) (by decide) ?_
        refine T.iload_n (pc' := 105) (q_d dX5_init_1 11 rfl) rfl rfl rfl ?_
        refine T.iconst (pc' := 106) (v := nI 4) (q_d dX5_init_1 12 rfl) rfl (by decide) ?_
        refine T.icmp_geN (tgt := 128) (pc' := 109) (q_d dX5_init_1 13 rfl) rfl (by decide) (by omega) (by omega) (fun h106 => ?_) (fun h106 => ?_)
        · exact absurd h106 (by decide)
        · refine T.aload_n (pc' := 110) (q_d dX5_init_1 14 rfl) rfl rfl rfl ?_
          refine T.getR (pc' := 113) (ci := 5) (k0 := 2) (q_d dX5_init_1 15 rfl) rfl rfl (by decide) rfl inX5 (by decide) rfl wF_X5_19 (show _ = some 17 from rfl) ?_
          refine T.iload_n (pc' := 114) (q_d dX5_init_1 16 rfl) rfl rfl rfl ?_
          refine T.newo (pc' := 117) (ci := 3) (N := 10) (q_d dX5_init_1 17 rfl) rfl rfl rfl rfl inX3 tyX3 tyX3_ok wL_X5_7 wO_X3 wZ_X3 (by decide +kernel) (qIW_z (by decide)) (qRW_z (by decide)) (by decide) (by decide) ?_
          refine T.at (cs' := 63) (sl' := 1821) rfl rfl ?_
          refine T.top (v' := .ref 63) rfl ?_
          refine T.dup (pc' := 118) (q_d dX5_init_1 18 rfl) rfl rfl ?_
          refine T.callI (pc' := 121) (q_d dX5_init_1 19 rfl) rfl uX3_init wM_X5_9 (i_X3 (n0 := 64) (a := 63) rfl (by decide) rfl rfl rfl rfl rfl rfl rfl (by decide)) rfl rfl (by decide) (Nat.le_of_ble_eq_true rfl) rfl rfl (fun h => absurd h (by decide)) ?_
          rintro _ _ ⟨rfl, rfl⟩
          dsimp only [Option.toList, List.cons_append, List.nil_append, List.append_nil]
          refine T.at (cs' := 70) (sl' := 1869) rfl rfl ?_
          refine T.qast (pc' := 122) (q_d dX5_init_1 20 rfl) rfl rfl (by decide) rfl (by omega) (by decide) (by decide) rfl rfl rfl ?_
          refine T.wR ?_
          refine T.iinc (pc' := 125) (q_d dX5_init_1 21 rfl) rfl rfl (nN_p _ 1) (by decide) rfl rfl ?_
          refine T.goto (tgt := 104) (q_d dX5_init_1 22 rfl) (by decide) ?_
          refine T.iload_n (pc' := 105) (q_d dX5_init_1 11 rfl) rfl rfl rfl ?_
          refine T.iconst (pc' := 106) (v := nI 4) (q_d dX5_init_1 12 rfl) rfl (by decide) ?_
          refine T.icmp_geN (tgt := 128) (pc' := 109) (q_d dX5_init_1 13 rfl) rfl (by decide) (by omega) (by omega) (fun h106 => ?_) (fun h106 => ?_)
          · refine T.vret (q_d dX5_init_1 23 rfl) rfl rfl rfl ?_
            exact ⟨rfl, rfl⟩
          · exact absurd h106 (by decide)
end NewX
