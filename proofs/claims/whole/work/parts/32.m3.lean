/-! the reference: what is done, on -/
section CM3
variable {l : Launch} {M M' : qM} {b b' : Nat} {s s' : Nat → Nat} {k : Nat} {was : Nat → Nat → Nat} {n : Nat} {t : Nat → Nat}
theorem m_shut (hX : RM M b s k was n t) {u v w : Nat} (hu : u < 4294967296) (hv : v < 4294967296) (hw9 : w < 4294967296) : Ct l hdM kM mX6_shut [.ref 0, .int (nI u), .int (nI v), .int (nI w)] M (OM b (oShut s k was n t u v w)) := by
  refine Ct.of [some (.ref 0), some (.int (nI u)), some (.int (nI v)), some (.int (nI w))] (by decide +kernel) (fun h => absurd h (by decide)) (Nat.le_of_ble_eq_true rfl) rfl ?_
  have w7 := hX.2.2.1.1
  have w0 := p2_le w7
  have e := inS_iff (lo := 0) (hi := 1) hw9 (by decide) (by decide)
  by_cases a0 : u < s 0 ∧ v < s 0 ∧ u ≠ v
  · have g1 := and1_01 (s (14 + u) >>> v)
    have g2 := and1_01 (s (21 + u) >>> v)
    have hl := hX.2.2.1.2.2.2.2.2.2.2.1 u (by omega)
    have hl2 := hX.2.2.1.2.2.2.2.2.2.2.2.1 u (by omega)
    by_cases a1 : w ≤ 1
    · have e1 : inS w 0 1 = true := e.mpr ⟨Nat.zero_le _, a1⟩
      by_cases a2 : s (14 + u) >>> v &&& 1 = 1 ∧ s (21 + u) >>> v &&& 1 = w
      · have er : oShut s k was n t u v w = (rdN (sShut s u v) 21, act s k was n t (sShut s u v)) := by unfold oShut; rw [if_pos ⟨a0, a1⟩, if_pos a2]
        have hW := hX.2.2.1.shut a0.1 a0.2.1 a0.2.2 a2.1
        refine T.aload_n (pc' := 1) (q_d dX6_shut_0 0 rfl) rfl rfl rfl ?_
        refine T.iload_n (pc' := 2) (q_d dX6_shut_0 1 rfl) rfl rfl rfl ?_
        refine T.callV (pc' := 5) (ci := 6) (q_d dX6_shut_0 2 rfl) rfl uX6_isPlace wM_X6_63 (m_isPlace hX hu) rfl rfl (by decide) rfl rfl (by decide) (Nat.le_of_ble_eq_true rfl) rfl rfl (fun _ => rfl) ?_
        rintro _ _ ⟨rfl, rfl⟩
        dsimp only [Option.toList, List.cons_append, List.nil_append, List.append_nil]
        refine T.if_eqN (tgt := 30) (pc' := 8) (q_d dX6_shut_0 3 rfl) rfl (by decide) (by split <;> decide) (fun h5 => ?_) (fun h5 => ?_)
        · exact absurd h5 (by rw [if_pos a0.1]; decide)
        · refine T.aload_n (pc' := 9) (q_d dX6_shut_0 4 rfl) rfl rfl rfl ?_
          refine T.iload_n (pc' := 10) (q_d dX6_shut_0 5 rfl) rfl rfl rfl ?_
          refine T.callV (pc' := 13) (ci := 6) (q_d dX6_shut_0 6 rfl) rfl uX6_isPlace wM_X6_63 (m_isPlace hX hv) rfl rfl (by decide) rfl rfl (by decide) (Nat.le_of_ble_eq_true rfl) rfl rfl (fun _ => rfl) ?_
          rintro _ _ ⟨rfl, rfl⟩
          dsimp only [Option.toList, List.cons_append, List.nil_append, List.append_nil]
          refine T.if_eqN (tgt := 30) (pc' := 16) (q_d dX6_shut_0 7 rfl) rfl (by decide) (by split <;> decide) (fun h13 => ?_) (fun h13 => ?_)
          · exact absurd h13 (by rw [if_pos a0.2.1]; decide)
          · refine T.iload_n (pc' := 17) (q_d dX6_shut_0 8 rfl) rfl rfl rfl ?_
            refine T.iload_n (pc' := 18) (q_d dX6_shut_0 9 rfl) rfl rfl rfl ?_
            refine T.icmp_eqN (tgt := 30) (pc' := 21) (q_d dX6_shut_0 10 rfl) rfl (by decide) (by omega) (by omega) (fun h18 => ?_) (fun h18 => ?_)
            · exact absurd h18 a0.2.2
            · refine T.iload_n (pc' := 22) (q_d dX6_shut_0 11 rfl) rfl rfl rfl ?_
              refine T.iconst (pc' := 23) (v := nI 0) (q_d dX6_shut_0 12 rfl) rfl (by decide) ?_
              refine T.iconst (pc' := 24) (v := nI 1) (q_d dX6_shut_0 13 rfl) rfl (by decide) ?_
              refine T.callS (pc' := 27) (q_d dX6_shut_0 14 rfl) rfl uX6_in wM_X6_43 (m_in hw9 (by decide) (hi := 1) (by decide)) rfl rfl (by decide) (Nat.le_of_ble_eq_true rfl) rfl rfl (fun _ => rfl) ?_
              rintro _ _ ⟨rfl, rfl⟩
              dsimp only [Option.toList, List.cons_append, List.nil_append, List.append_nil]
              refine T.if_neN (tgt := 33) (pc' := 30) (q_d dX6_shut_0 15 rfl) rfl (by decide) (by split <;> decide) (fun h27 => ?_) (fun h27 => ?_)
              · refine T.aload_n (pc' := 34) (q_d dX6_shut_0 18 rfl) rfl rfl rfl ?_
                refine T.getR (pc' := 37) (ci := 6) (k0 := 0) (q_d dX6_shut_0 19 rfl) rfl rfl (by decide) rfl inX6 (by decide) rfl wF_X6_7 (rP (P := pM) (by first | exact hP2 | exact hX.1) rfl) ?_
                refine T.bipush (pc' := 39) (v := nI 14) (q_d dX6_shut_0 20 rfl) rfl (by decide) ?_
                refine T.iload_n (pc' := 40) (q_d dX6_shut_0 21 rfl) rfl rfl rfl ?_
                refine T.iadd (pc' := 41) (q_d dX6_shut_0 22 rfl) rfl (nI_add _ _) ?_
                refine T.iald (pc' := 42) (q_d dX6_shut_0 23 rfl) rfl rfl (by decide) rfl (by omega) (by decide) (hX.2.1 (14 + u) (by omega)) ?_
                refine T.iload_n (pc' := 43) (q_d dX6_shut_0 24 rfl) rfl rfl rfl ?_
                refine T.ishr (pc' := 44) (q_d dX6_shut_0 25 rfl) rfl (nN_shr (by omega) (by omega)) ?_
                refine T.iconst (pc' := 45) (v := nI 1) (q_d dX6_shut_0 26 rfl) rfl (by decide) ?_
                refine T.iand (pc' := 46) (q_d dX6_shut_0 27 rfl) rfl (nN_and _ _) ?_
                refine T.if_eqN (tgt := 66) (pc' := 49) (q_d dX6_shut_0 28 rfl) rfl (by decide) (by omega) (fun h46 => ?_) (fun h46 => ?_)
                · exact absurd a2.1 (by omega)
                · refine T.aload_n (pc' := 50) (q_d dX6_shut_0 29 rfl) rfl rfl rfl ?_
                  refine T.getR (pc' := 53) (ci := 6) (k0 := 0) (q_d dX6_shut_0 30 rfl) rfl rfl (by decide) rfl inX6 (by decide) rfl wF_X6_7 (rP (P := pM) (by first | exact hP2 | exact hX.1) rfl) ?_
                  refine T.bipush (pc' := 55) (v := nI 21) (q_d dX6_shut_0 31 rfl) rfl (by decide) ?_
                  refine T.iload_n (pc' := 56) (q_d dX6_shut_0 32 rfl) rfl rfl rfl ?_
                  refine T.iadd (pc' := 57) (q_d dX6_shut_0 33 rfl) rfl (nI_add _ _) ?_
                  refine T.iald (pc' := 58) (q_d dX6_shut_0 34 rfl) rfl rfl (by decide) rfl (by omega) (by decide) (hX.2.1 (21 + u) (by omega)) ?_
                  refine T.iload_n (pc' := 59) (q_d dX6_shut_0 35 rfl) rfl rfl rfl ?_
                  refine T.ishr (pc' := 60) (q_d dX6_shut_0 36 rfl) rfl (nN_shr (by omega) (by omega)) ?_
                  refine T.iconst (pc' := 61) (v := nI 1) (q_d dX6_shut_0 37 rfl) rfl (by decide) ?_
                  refine T.iand (pc' := 62) (q_d dX6_shut_0 38 rfl) rfl (nN_and _ _) ?_
                  refine T.iload_n (pc' := 63) (q_d dX6_shut_0 39 rfl) rfl rfl rfl ?_
                  refine T.icmp_eqN (tgt := 69) (pc' := 66) (q_d dX6_shut_1 0 rfl) rfl (by decide) (by omega) (by omega) (fun h63 => ?_) (fun h63 => ?_)
                  · refine T.aload_n (pc' := 70) (q_d dX6_shut_1 3 rfl) rfl rfl rfl ?_
                    refine T.callV (pc' := 73) (ci := 6) (q_d dX6_shut_1 4 rfl) rfl uX6_keeps wM_X6_53 (m_keeps hX.1) rfl rfl (by decide) rfl rfl (by decide) (Nat.le_of_ble_eq_true rfl) rfl rfl (fun _ => rfl) ?_
                    rintro _ M2 ⟨rfl, f2, fa, f3⟩
                    have hP2 : M2.2.2 = pM := by rw [f2]; exact hX.1
                    have hs2 : ∀ j, j < 52 → M2.1 1 j = s j := fun j hj => by rw [fa 1 (by decide)]; exact hX.2.1 j hj
                    dsimp only [Option.toList, List.cons_append, List.nil_append, List.append_nil]
                    refine T.aload_n (pc' := 74) (q_d dX6_shut_1 5 rfl) rfl rfl rfl ?_
                    refine T.getR (pc' := 77) (ci := 6) (k0 := 0) (q_d dX6_shut_1 6 rfl) rfl rfl (by decide) rfl inX6 (by decide) rfl wF_X6_7 (rP (P := pM) (by first | exact hP2 | exact hX.1) rfl) ?_
                    refine T.bipush (pc' := 79) (v := nI 21) (q_d dX6_shut_1 7 rfl) rfl (by decide) ?_
                    refine T.iload_n (pc' := 80) (q_d dX6_shut_1 8 rfl) rfl rfl rfl ?_
                    refine T.iadd (pc' := 81) (q_d dX6_shut_1 9 rfl) rfl (nI_add _ _) ?_
                    refine T.dup2 (pc' := 82) (q_d dX6_shut_1 10 rfl) rfl rfl rfl ?_
                    refine T.iald (pc' := 83) (q_d dX6_shut_1 11 rfl) rfl rfl (by decide) rfl (by omega) (by decide) (hs2 (21 + u) (by omega)) ?_
                    refine T.iconst (pc' := 84) (v := nI 1) (q_d dX6_shut_1 12 rfl) rfl (by decide) ?_
                    refine T.iload_n (pc' := 85) (q_d dX6_shut_1 13 rfl) rfl rfl rfl ?_
                    refine T.ishl (pc' := 86) (q_d dX6_shut_1 14 rfl) rfl (nN_shl _ (by omega)) ?_
                    refine T.ixor (pc' := 87) (q_d dX6_shut_1 15 rfl) rfl (nN_xor _ _) ?_
                    refine T.iast (pc' := 88) (q_d dX6_shut_1 16 rfl) rfl rfl (by decide) rfl (by omega) (by decide) ?_
                    refine T.aload_n (pc' := 89) (q_d dX6_shut_1 17 rfl) rfl rfl rfl ?_
                    refine T.getR (pc' := 92) (ci := 6) (k0 := 0) (q_d dX6_shut_1 18 rfl) rfl rfl (by decide) rfl inX6 (by decide) rfl wF_X6_7 (rP (P := pM) (by first | exact hP2 | exact hX.1) rfl) ?_
                    refine T.bipush (pc' := 94) (v := nI 21) (q_d dX6_shut_1 19 rfl) rfl (by decide) ?_
                    refine T.iload_n (pc' := 95) (q_d dX6_shut_1 20 rfl) rfl rfl rfl ?_
                    refine T.iadd (pc' := 96) (q_d dX6_shut_1 21 rfl) rfl (nI_add _ _) ?_
                    refine T.dup2 (pc' := 97) (q_d dX6_shut_1 22 rfl) rfl rfl rfl ?_
                    refine T.iald (pc' := 98) (q_d dX6_shut_1 23 rfl) rfl rfl (by decide) rfl (by omega) (by decide) ((qI_ne (Or.inr (by omega))).trans (hs2 (21 + v) (by omega))) ?_
                    refine T.iconst (pc' := 99) (v := nI 1) (q_d dX6_shut_1 24 rfl) rfl (by decide) ?_
                    refine T.iload_n (pc' := 100) (q_d dX6_shut_1 25 rfl) rfl rfl rfl ?_
                    refine T.ishl (pc' := 101) (q_d dX6_shut_1 26 rfl) rfl (nN_shl _ (by omega)) ?_
                    refine T.ixor (pc' := 102) (q_d dX6_shut_1 27 rfl) rfl (nN_xor _ _) ?_
                    refine T.iast (pc' := 103) (q_d dX6_shut_1 28 rfl) rfl rfl (by decide) rfl (by omega) (by decide) ?_
                    have hN : ∀ j, j < 52 → (qI (qI M2 1 (21 + u) (s (21 + u) ^^^ 1 <<< v)) 1 (21 + v) (s (21 + v) ^^^ 1 <<< u)).1 1 j = sShut s u v j := by
                      intro j hj
                      by_cases j1 : j = 21 + v
                      · subst j1; rw [qI_eq, sShut_21 (by omega), pt_j a0.2.2]
                      · rw [qI_ne (Or.inr j1)]
                        by_cases j2 : j = 21 + u
                        · subst j2; rw [qI_eq, sShut_21 (by omega), pt_i]
                        · rw [qI_ne (Or.inr j2), hs2 j hj]
                          by_cases r1 : j < 21 ∨ 28 ≤ j
                          · rw [sShut_out r1]
                          · obtain ⟨a, rfl⟩ : ∃ a, j = 21 + a := ⟨j - 21, by omega⟩
                            rw [sShut_21 (by omega), pt_0 (by omega) (by omega), Nat.xor_zero]
                    have hY : RM (qI (qI M2 1 (21 + u) (s (21 + u) ^^^ 1 <<< v)) 1 (21 + v) (s (21 + v) ^^^ 1 <<< u)) b (sShut s u v) k was n t := by
                      obtain ⟨q1, q2, q3, q4, q5, q6, q7, q8, q9⟩ := hX
                      refine ⟨hP2, hN, hW, ?_, q5, fun i hi => ⟨fun j hj => ?_, (q6 i hi).2⟩, ?_, fun i hi => ?_, q9⟩
                      · rw [qI_ne (Or.inl (by decide)), qI_ne (Or.inl (by decide)), fa 0 (by decide)]; exact q4
                      · rw [qI_ne (Or.inl (by decide)), qI_ne (Or.inl (by decide)), fa 2 (by decide)]; exact (q6 i hi).1 j hj
                      · rw [qI_ne (Or.inl (by decide)), qI_ne (Or.inl (by decide)), fa 0 (by decide)]; exact q7
                      · rw [qI_ne (Or.inl (by decide)), qI_ne (Or.inl (by decide)), fa 5 (by decide)]; exact q8 i hi
                    refine T.aload_n (pc' := 104) (q_d dX6_shut_1 29 rfl) rfl rfl rfl ?_
                    refine T.aload_n (pc' := 105) (q_d dX6_shut_1 30 rfl) rfl rfl rfl ?_
                    refine T.bipush (pc' := 107) (v := nI 21) (q_d dX6_shut_1 31 rfl) rfl (by decide) ?_
                    refine T.callV (pc' := 110) (ci := 6) (q_d dX6_shut_1 32 rfl) rfl uX6_roads wM_X6_68 (m_roads hY (Or.inr rfl)) rfl rfl (by decide) rfl rfl (by decide) (Nat.le_of_ble_eq_true rfl) rfl rfl (fun _ => rfl) ?_
                    rintro _ _ ⟨rfl, rfl⟩
                    dsimp only [Option.toList, List.cons_append, List.nil_append, List.append_nil]
                    refine T.callV (pc' := 113) (ci := 6) (q_d dX6_shut_1 33 rfl) rfl uX6_acted wM_X6_56 (m_actedR (s' := sShut s u v) hX (by exact hP2) (by funext j; rw [qI_ne (Or.inl (by decide)), qI_ne (Or.inl (by decide)), fa 2 (by decide)]) (by funext j; rw [qI_ne (Or.inl (by decide)), qI_ne (Or.inl (by decide)), fa 5 (by decide)]) (by rw [qI_ne (Or.inl (by decide)), qI_ne (Or.inl (by decide)), fa 0 (by decide)]) (by rw [qI_ne (Or.inl (by decide)), qI_ne (Or.inl (by decide)), fa 0 (by decide)]) (fun j hj => by rw [qI_ne (Or.inl (by decide)), qI_ne (Or.inl (by decide)), f3 j hj]; exact hX.2.1 j hj) hN hW (Nat.le_refl _) (rdN_lt (s := sShut s u v) hW.1 21)) rfl rfl (by decide) rfl rfl (by decide) (Nat.le_of_ble_eq_true rfl) rfl rfl (fun _ => rfl) ?_
                    rintro v5 M5 hO
                    dsimp only [Option.toList, List.cons_append, List.nil_append, List.append_nil]
                    obtain ⟨rfl, hO⟩ := hO
                    refine T.iret (q_d dX6_shut_1 34 rfl) rfl rfl rfl ?_
                    rw [er]
                    exact ⟨rfl, hO⟩
                  · exact absurd a2.2 h63
              · exact absurd h27 (by rw [if_pos e1]; decide)
      · have er : oShut s k was n t u v w = (4293967294, (s, k, was, n, t)) := by unfold oShut; rw [if_pos ⟨a0, a1⟩, if_neg a2]
        refine T.aload_n (pc' := 1) (q_d dX6_shut_0 0 rfl) rfl rfl rfl ?_
        refine T.iload_n (pc' := 2) (q_d dX6_shut_0 1 rfl) rfl rfl rfl ?_
        refine T.callV (pc' := 5) (ci := 6) (q_d dX6_shut_0 2 rfl) rfl uX6_isPlace wM_X6_63 (m_isPlace hX hu) rfl rfl (by decide) rfl rfl (by decide) (Nat.le_of_ble_eq_true rfl) rfl rfl (fun _ => rfl) ?_
        rintro _ _ ⟨rfl, rfl⟩
        dsimp only [Option.toList, List.cons_append, List.nil_append, List.append_nil]
        refine T.if_eqN (tgt := 30) (pc' := 8) (q_d dX6_shut_0 3 rfl) rfl (by decide) (by split <;> decide) (fun h5 => ?_) (fun h5 => ?_)
        · exact absurd h5 (by rw [if_pos a0.1]; decide)
        · refine T.aload_n (pc' := 9) (q_d dX6_shut_0 4 rfl) rfl rfl rfl ?_
          refine T.iload_n (pc' := 10) (q_d dX6_shut_0 5 rfl) rfl rfl rfl ?_
          refine T.callV (pc' := 13) (ci := 6) (q_d dX6_shut_0 6 rfl) rfl uX6_isPlace wM_X6_63 (m_isPlace hX hv) rfl rfl (by decide) rfl rfl (by decide) (Nat.le_of_ble_eq_true rfl) rfl rfl (fun _ => rfl) ?_
          rintro _ _ ⟨rfl, rfl⟩
          dsimp only [Option.toList, List.cons_append, List.nil_append, List.append_nil]
          refine T.if_eqN (tgt := 30) (pc' := 16) (q_d dX6_shut_0 7 rfl) rfl (by decide) (by split <;> decide) (fun h13 => ?_) (fun h13 => ?_)
          · exact absurd h13 (by rw [if_pos a0.2.1]; decide)
          · refine T.iload_n (pc' := 17) (q_d dX6_shut_0 8 rfl) rfl rfl rfl ?_
            refine T.iload_n (pc' := 18) (q_d dX6_shut_0 9 rfl) rfl rfl rfl ?_
            refine T.icmp_eqN (tgt := 30) (pc' := 21) (q_d dX6_shut_0 10 rfl) rfl (by decide) (by omega) (by omega) (fun h18 => ?_) (fun h18 => ?_)
            · exact absurd h18 a0.2.2
            · refine T.iload_n (pc' := 22) (q_d dX6_shut_0 11 rfl) rfl rfl rfl ?_
              refine T.iconst (pc' := 23) (v := nI 0) (q_d dX6_shut_0 12 rfl) rfl (by decide) ?_
              refine T.iconst (pc' := 24) (v := nI 1) (q_d dX6_shut_0 13 rfl) rfl (by decide) ?_
              refine T.callS (pc' := 27) (q_d dX6_shut_0 14 rfl) rfl uX6_in wM_X6_43 (m_in hw9 (by decide) (hi := 1) (by decide)) rfl rfl (by decide) (Nat.le_of_ble_eq_true rfl) rfl rfl (fun _ => rfl) ?_
              rintro _ _ ⟨rfl, rfl⟩
              dsimp only [Option.toList, List.cons_append, List.nil_append, List.append_nil]
              refine T.if_neN (tgt := 33) (pc' := 30) (q_d dX6_shut_0 15 rfl) rfl (by decide) (by split <;> decide) (fun h27 => ?_) (fun h27 => ?_)
              · refine T.aload_n (pc' := 34) (q_d dX6_shut_0 18 rfl) rfl rfl rfl ?_
                refine T.getR (pc' := 37) (ci := 6) (k0 := 0) (q_d dX6_shut_0 19 rfl) rfl rfl (by decide) rfl inX6 (by decide) rfl wF_X6_7 (rP hX.1 rfl) ?_
                refine T.bipush (pc' := 39) (v := nI 14) (q_d dX6_shut_0 20 rfl) rfl (by decide) ?_
                refine T.iload_n (pc' := 40) (q_d dX6_shut_0 21 rfl) rfl rfl rfl ?_
                refine T.iadd (pc' := 41) (q_d dX6_shut_0 22 rfl) rfl (nI_add _ _) ?_
                refine T.iald (pc' := 42) (q_d dX6_shut_0 23 rfl) rfl rfl (by decide) rfl (by omega) (by decide) (hX.2.1 (14 + u) (by omega)) ?_
                refine T.iload_n (pc' := 43) (q_d dX6_shut_0 24 rfl) rfl rfl rfl ?_
                refine T.ishr (pc' := 44) (q_d dX6_shut_0 25 rfl) rfl (nN_shr (by omega) (by omega)) ?_
                refine T.iconst (pc' := 45) (v := nI 1) (q_d dX6_shut_0 26 rfl) rfl (by decide) ?_
                refine T.iand (pc' := 46) (q_d dX6_shut_0 27 rfl) rfl (nN_and _ _) ?_
                refine T.if_eqN (tgt := 66) (pc' := 49) (q_d dX6_shut_0 28 rfl) rfl (by decide) (by omega) (fun h46 => ?_) (fun h46 => ?_)
                · refine T.ldc (pc' := 68) (v := nI 4293967294) (q_d dX6_shut_1 1 rfl) rfl wN_X6_67 ?_
                  refine T.iret (q_d dX6_shut_1 2 rfl) rfl rfl rfl ?_
                  rw [er]
                  exact ⟨rfl, hX⟩
                · refine T.aload_n (pc' := 50) (q_d dX6_shut_0 29 rfl) rfl rfl rfl ?_
                  refine T.getR (pc' := 53) (ci := 6) (k0 := 0) (q_d dX6_shut_0 30 rfl) rfl rfl (by decide) rfl inX6 (by decide) rfl wF_X6_7 (rP hX.1 rfl) ?_
                  refine T.bipush (pc' := 55) (v := nI 21) (q_d dX6_shut_0 31 rfl) rfl (by decide) ?_
                  refine T.iload_n (pc' := 56) (q_d dX6_shut_0 32 rfl) rfl rfl rfl ?_
                  refine T.iadd (pc' := 57) (q_d dX6_shut_0 33 rfl) rfl (nI_add _ _) ?_
                  refine T.iald (pc' := 58) (q_d dX6_shut_0 34 rfl) rfl rfl (by decide) rfl (by omega) (by decide) (hX.2.1 (21 + u) (by omega)) ?_
                  refine T.iload_n (pc' := 59) (q_d dX6_shut_0 35 rfl) rfl rfl rfl ?_
                  refine T.ishr (pc' := 60) (q_d dX6_shut_0 36 rfl) rfl (nN_shr (by omega) (by omega)) ?_
                  refine T.iconst (pc' := 61) (v := nI 1) (q_d dX6_shut_0 37 rfl) rfl (by decide) ?_
                  refine T.iand (pc' := 62) (q_d dX6_shut_0 38 rfl) rfl (nN_and _ _) ?_
                  refine T.iload_n (pc' := 63) (q_d dX6_shut_0 39 rfl) rfl rfl rfl ?_
                  refine T.icmp_eqN (tgt := 69) (pc' := 66) (q_d dX6_shut_1 0 rfl) rfl (by decide) (by omega) (by omega) (fun h63 => ?_) (fun h63 => ?_)
                  · exact absurd (show _ ∧ _ from ⟨by omega, h63⟩) a2
                  · refine T.ldc (pc' := 68) (v := nI 4293967294) (q_d dX6_shut_1 1 rfl) rfl wN_X6_67 ?_
                    refine T.iret (q_d dX6_shut_1 2 rfl) rfl rfl rfl ?_
                    rw [er]
                    exact ⟨rfl, hX⟩
              · exact absurd h27 (by rw [if_pos e1]; decide)
    · have e1 : ¬ inS w 0 1 = true := fun q => a1 (e.mp q).2
      have er : oShut s k was n t u v w = (4293967295, (s, k, was, n, t)) := by unfold oShut; rw [if_neg (fun q => a1 q.2)]
      refine T.aload_n (pc' := 1) (q_d dX6_shut_0 0 rfl) rfl rfl rfl ?_
      refine T.iload_n (pc' := 2) (q_d dX6_shut_0 1 rfl) rfl rfl rfl ?_
      refine T.callV (pc' := 5) (ci := 6) (q_d dX6_shut_0 2 rfl) rfl uX6_isPlace wM_X6_63 (m_isPlace hX hu) rfl rfl (by decide) rfl rfl (by decide) (Nat.le_of_ble_eq_true rfl) rfl rfl (fun _ => rfl) ?_
      rintro _ _ ⟨rfl, rfl⟩
      dsimp only [Option.toList, List.cons_append, List.nil_append, List.append_nil]
      refine T.if_eqN (tgt := 30) (pc' := 8) (q_d dX6_shut_0 3 rfl) rfl (by decide) (by split <;> decide) (fun h5 => ?_) (fun h5 => ?_)
      · refine T.ldc (pc' := 32) (v := nI 4293967295) (q_d dX6_shut_0 16 rfl) rfl wN_X6_47 ?_
        refine T.iret (q_d dX6_shut_0 17 rfl) rfl rfl rfl ?_
        rw [er]
        exact ⟨rfl, hX⟩
      · refine T.aload_n (pc' := 9) (q_d dX6_shut_0 4 rfl) rfl rfl rfl ?_
        refine T.iload_n (pc' := 10) (q_d dX6_shut_0 5 rfl) rfl rfl rfl ?_
        refine T.callV (pc' := 13) (ci := 6) (q_d dX6_shut_0 6 rfl) rfl uX6_isPlace wM_X6_63 (m_isPlace hX hv) rfl rfl (by decide) rfl rfl (by decide) (Nat.le_of_ble_eq_true rfl) rfl rfl (fun _ => rfl) ?_
        rintro _ _ ⟨rfl, rfl⟩
        dsimp only [Option.toList, List.cons_append, List.nil_append, List.append_nil]
        refine T.if_eqN (tgt := 30) (pc' := 16) (q_d dX6_shut_0 7 rfl) rfl (by decide) (by split <;> decide) (fun h13 => ?_) (fun h13 => ?_)
        · refine T.ldc (pc' := 32) (v := nI 4293967295) (q_d dX6_shut_0 16 rfl) rfl wN_X6_47 ?_
          refine T.iret (q_d dX6_shut_0 17 rfl) rfl rfl rfl ?_
          rw [er]
          exact ⟨rfl, hX⟩
        · refine T.iload_n (pc' := 17) (q_d dX6_shut_0 8 rfl) rfl rfl rfl ?_
          refine T.iload_n (pc' := 18) (q_d dX6_shut_0 9 rfl) rfl rfl rfl ?_
          refine T.icmp_eqN (tgt := 30) (pc' := 21) (q_d dX6_shut_0 10 rfl) rfl (by decide) (by omega) (by omega) (fun h18 => ?_) (fun h18 => ?_)
          · refine T.ldc (pc' := 32) (v := nI 4293967295) (q_d dX6_shut_0 16 rfl) rfl wN_X6_47 ?_
            refine T.iret (q_d dX6_shut_0 17 rfl) rfl rfl rfl ?_
            rw [er]
            exact ⟨rfl, hX⟩
          · refine T.iload_n (pc' := 22) (q_d dX6_shut_0 11 rfl) rfl rfl rfl ?_
            refine T.iconst (pc' := 23) (v := nI 0) (q_d dX6_shut_0 12 rfl) rfl (by decide) ?_
            refine T.iconst (pc' := 24) (v := nI 1) (q_d dX6_shut_0 13 rfl) rfl (by decide) ?_
            refine T.callS (pc' := 27) (q_d dX6_shut_0 14 rfl) rfl uX6_in wM_X6_43 (m_in hw9 (by decide) (hi := 1) (by decide)) rfl rfl (by decide) (Nat.le_of_ble_eq_true rfl) rfl rfl (fun _ => rfl) ?_
            rintro _ _ ⟨rfl, rfl⟩
            dsimp only [Option.toList, List.cons_append, List.nil_append, List.append_nil]
            refine T.if_neN (tgt := 33) (pc' := 30) (q_d dX6_shut_0 15 rfl) rfl (by decide) (by split <;> decide) (fun h27 => ?_) (fun h27 => ?_)
            · exact absurd (if_neg e1) h27
            · refine T.ldc (pc' := 32) (v := nI 4293967295) (q_d dX6_shut_0 16 rfl) rfl wN_X6_47 ?_
              refine T.iret (q_d dX6_shut_0 17 rfl) rfl rfl rfl ?_
              rw [er]
              exact ⟨rfl, hX⟩
  · have er : oShut s k was n t u v w = (4293967295, (s, k, was, n, t)) := by unfold oShut; rw [if_neg (fun q => a0 q.1)]
    refine T.aload_n (pc' := 1) (q_d dX6_shut_0 0 rfl) rfl rfl rfl ?_
    refine T.iload_n (pc' := 2) (q_d dX6_shut_0 1 rfl) rfl rfl rfl ?_
    refine T.callV (pc' := 5) (ci := 6) (q_d dX6_shut_0 2 rfl) rfl uX6_isPlace wM_X6_63 (m_isPlace hX hu) rfl rfl (by decide) rfl rfl (by decide) (Nat.le_of_ble_eq_true rfl) rfl rfl (fun _ => rfl) ?_
    rintro _ _ ⟨rfl, rfl⟩
    dsimp only [Option.toList, List.cons_append, List.nil_append, List.append_nil]
    refine T.if_eqN (tgt := 30) (pc' := 8) (q_d dX6_shut_0 3 rfl) rfl (by decide) (by split <;> decide) (fun h5 => ?_) (fun h5 => ?_)
    · refine T.ldc (pc' := 32) (v := nI 4293967295) (q_d dX6_shut_0 16 rfl) rfl wN_X6_47 ?_
      refine T.iret (q_d dX6_shut_0 17 rfl) rfl rfl rfl ?_
      rw [er]
      exact ⟨rfl, hX⟩
    · refine T.aload_n (pc' := 9) (q_d dX6_shut_0 4 rfl) rfl rfl rfl ?_
      refine T.iload_n (pc' := 10) (q_d dX6_shut_0 5 rfl) rfl rfl rfl ?_
      refine T.callV (pc' := 13) (ci := 6) (q_d dX6_shut_0 6 rfl) rfl uX6_isPlace wM_X6_63 (m_isPlace hX hv) rfl rfl (by decide) rfl rfl (by decide) (Nat.le_of_ble_eq_true rfl) rfl rfl (fun _ => rfl) ?_
      rintro _ _ ⟨rfl, rfl⟩
      dsimp only [Option.toList, List.cons_append, List.nil_append, List.append_nil]
      refine T.if_eqN (tgt := 30) (pc' := 16) (q_d dX6_shut_0 7 rfl) rfl (by decide) (by split <;> decide) (fun h13 => ?_) (fun h13 => ?_)
      · refine T.ldc (pc' := 32) (v := nI 4293967295) (q_d dX6_shut_0 16 rfl) rfl wN_X6_47 ?_
        refine T.iret (q_d dX6_shut_0 17 rfl) rfl rfl rfl ?_
        rw [er]
        exact ⟨rfl, hX⟩
      · refine T.iload_n (pc' := 17) (q_d dX6_shut_0 8 rfl) rfl rfl rfl ?_
        refine T.iload_n (pc' := 18) (q_d dX6_shut_0 9 rfl) rfl rfl rfl ?_
        refine T.icmp_eqN (tgt := 30) (pc' := 21) (q_d dX6_shut_0 10 rfl) rfl (by decide) (by omega) (by omega) (fun h18 => ?_) (fun h18 => ?_)
        · refine T.ldc (pc' := 32) (v := nI 4293967295) (q_d dX6_shut_0 16 rfl) rfl wN_X6_47 ?_
          refine T.iret (q_d dX6_shut_0 17 rfl) rfl rfl rfl ?_
          rw [er]
          exact ⟨rfl, hX⟩
        · have hb1 : u < s 0 := by
            by_cases q : u < s 0
            · exact q
            · exact absurd (if_neg q) h5
          have hb2 : v < s 0 := by
            by_cases q : v < s 0
            · exact q
            · exact absurd (if_neg q) h13
          exact absurd ⟨hb1, hb2, h18⟩ a0
theorem m_set (hX : RM M b s k was n t) {u v : Nat} (hu : u < 4294967296) (hv : v < 4294967296) : Ct l hdM kM mX6_set [.ref 0, .int (nI u), .int (nI v)] M (OM b (oSet s k was n t u v)) := by
  refine Ct.of [some (.ref 0), some (.int (nI u)), some (.int (nI v)), none] (by decide +kernel) (fun h => absurd h (by decide)) (Nat.le_of_ble_eq_true rfl) rfl ?_
  have e := inS_iff (lo := 0) (hi := 2) hu (by decide) (by decide)
  have w4 := hX.2.2.1.2.2.2.1
  have w5 := hX.2.2.1.2.2.2.2.1
  have w6 := hX.2.2.1.2.2.2.2.2.1
  by_cases a1 : u ≤ 2
  · have e1 : inS u 0 2 = true := e.mpr ⟨Nat.zero_le _, a1⟩
    have hsx : s (4 + u) < 2 ^ 31 := by rcases (by omega : u = 0 ∨ u = 1 ∨ u = 2) with rfl | rfl | rfl <;> simp <;> omega
    have e2 := inS_iff (lo := if u = 2 then 1 else 0) (hi := if u = 2 then 2 else 3) hv (by split <;> decide) (by split <;> decide)
    have e3 : (inS v (if u = 2 then 1 else 0) (if u = 2 then 2 else 3) = true) ↔ (if u = 2 then 1 ≤ v ∧ v ≤ 2 else v ≤ 3) := by
      rw [e2]; by_cases q : u = 2
      · rw [if_pos q, if_pos q, if_pos q]
      · rw [if_neg q, if_neg q, if_neg q]; exact ⟨fun z => z.2, fun z => ⟨Nat.zero_le _, z⟩⟩
    by_cases a2 : (if u = 2 then 1 ≤ v ∧ v ≤ 2 else v ≤ 3)
    · have er : oSet s k was n t u v = (s (4 + u), act s k was n t (up s (4 + u) v)) := by unfold oSet; rw [if_pos ⟨a1, a2⟩]
      have hW := hX.2.2.1.set a1 a2
      have z2 := e3.mpr a2
      refine T.iload_n (pc' := 1) (q_d dX6_set_0 0 rfl) rfl rfl rfl ?_
      refine T.iconst (pc' := 2) (v := nI 0) (q_d dX6_set_0 1 rfl) rfl (by decide) ?_
      refine T.iconst (pc' := 3) (v := nI 2) (q_d dX6_set_0 2 rfl) rfl (by decide) ?_
      refine T.callS (pc' := 6) (q_d dX6_set_0 3 rfl) rfl uX6_in wM_X6_43 (m_in hu (by decide) (hi := 2) (by decide)) rfl rfl (by decide) (Nat.le_of_ble_eq_true rfl) rfl rfl (fun _ => rfl) ?_
      rintro _ _ ⟨rfl, rfl⟩
      dsimp only [Option.toList, List.cons_append, List.nil_append, List.append_nil]
      refine T.if_eqN (tgt := 36) (pc' := 9) (q_d dX6_set_0 4 rfl) rfl (by decide) (by split <;> decide) (fun h6 => ?_) (fun h6 => ?_)
      · exact absurd h6 (by rw [if_pos e1]; decide)
      · refine T.iload_n (pc' := 10) (q_d dX6_set_0 5 rfl) rfl rfl rfl ?_
        refine T.iload_n (pc' := 11) (q_d dX6_set_0 6 rfl) rfl rfl rfl ?_
        refine T.iconst (pc' := 12) (v := nI 2) (q_d dX6_set_0 7 rfl) rfl (by decide) ?_
        refine T.icmp_neN (tgt := 19) (pc' := 15) (q_d dX6_set_0 8 rfl) rfl (by decide) (by omega) (by omega) (fun h12 => ?_) (fun h12 => ?_)
        · refine T.iconst (pc' := 20) (v := nI 0) (q_d dX6_set_0 11 rfl) rfl (by decide) ?_
          refine T.iload_n (pc' := 21) (q_d dX6_set_0 12 rfl) rfl rfl rfl ?_
          refine T.iconst (pc' := 22) (v := nI 2) (q_d dX6_set_0 13 rfl) rfl (by decide) ?_
          refine T.icmp_neN (tgt := 29) (pc' := 25) (q_d dX6_set_0 14 rfl) rfl (by decide) (by omega) (by omega) (fun h22 => ?_) (fun h22 => ?_)
          · refine T.iconst (pc' := 30) (v := nI 3) (q_d dX6_set_0 17 rfl) rfl (by decide) ?_
            refine T.callS (pc' := 33) (q_d dX6_set_0 18 rfl) rfl uX6_in wM_X6_43 (m_in hv (by decide) (by decide)) rfl rfl (by decide) (Nat.le_of_ble_eq_true rfl) rfl rfl (fun _ => rfl) ?_
            rintro _ _ ⟨rfl, rfl⟩
            dsimp only [Option.toList, List.cons_append, List.nil_append, List.append_nil]
            refine T.if_neN (tgt := 39) (pc' := 36) (q_d dX6_set_0 19 rfl) rfl (by decide) (Nat.lt_of_le_of_lt ite_le1 (by decide)) (fun h33 => ?_) (fun h33 => ?_)
            · refine T.aload_n (pc' := 40) (q_d dX6_set_0 22 rfl) rfl rfl rfl ?_
              refine T.callV (pc' := 43) (ci := 6) (q_d dX6_set_0 23 rfl) rfl uX6_keeps wM_X6_53 (m_keeps hX.1) rfl rfl (by decide) rfl rfl (by decide) (Nat.le_of_ble_eq_true rfl) rfl rfl (fun _ => rfl) ?_
              rintro _ M2 ⟨rfl, f2, fa, f3⟩
              have hP2 : M2.2.2 = pM := by rw [f2]; exact hX.1
              have hs2 : ∀ j, j < 52 → M2.1 1 j = s j := fun j hj => by rw [fa 1 (by decide)]; exact hX.2.1 j hj
              dsimp only [Option.toList, List.cons_append, List.nil_append, List.append_nil]
              refine T.aload_n (pc' := 44) (q_d dX6_set_0 24 rfl) rfl rfl rfl ?_
              refine T.getR (pc' := 47) (ci := 6) (k0 := 0) (q_d dX6_set_0 25 rfl) rfl rfl (by decide) rfl inX6 (by decide) rfl wF_X6_7 (rP (P := pM) (by first | exact hP2 | exact hX.1) rfl) ?_
              refine T.iconst (pc' := 48) (v := nI 4) (q_d dX6_set_0 26 rfl) rfl (by decide) ?_
              refine T.iload_n (pc' := 49) (q_d dX6_set_0 27 rfl) rfl rfl rfl ?_
              refine T.iadd (pc' := 50) (q_d dX6_set_0 28 rfl) rfl (nI_add _ _) ?_
              refine T.iald (pc' := 51) (q_d dX6_set_0 29 rfl) rfl rfl (by decide) rfl (by omega) (by decide) (hs2 (4 + u) (by omega)) ?_
              refine T.istore_n (pc' := 52) (q_d dX6_set_0 30 rfl) rfl rfl (by decide) rfl rfl ?_
              refine T.aload_n (pc' := 53) (q_d dX6_set_0 31 rfl) rfl rfl rfl ?_
              refine T.getR (pc' := 56) (ci := 6) (k0 := 0) (q_d dX6_set_0 32 rfl) rfl rfl (by decide) rfl inX6 (by decide) rfl wF_X6_7 (rP (P := pM) (by first | exact hP2 | exact hX.1) rfl) ?_
              refine T.iconst (pc' := 57) (v := nI 4) (q_d dX6_set_0 33 rfl) rfl (by decide) ?_
              refine T.iload_n (pc' := 58) (q_d dX6_set_0 34 rfl) rfl rfl rfl ?_
              refine T.iadd (pc' := 59) (q_d dX6_set_0 35 rfl) rfl (nI_add _ _) ?_
              refine T.iload_n (pc' := 60) (q_d dX6_set_0 36 rfl) rfl rfl rfl ?_
              refine T.iast (pc' := 61) (q_d dX6_set_0 37 rfl) rfl rfl (by decide) rfl (by omega) (by decide) ?_
              have hN : ∀ j, j < 52 → (qI M2 1 (4 + u) v).1 1 j = up s (4 + u) v j := by
                intro j hj
                by_cases j1 : j = 4 + u
                · subst j1; rw [qI_eq, up_eq]
                · rw [qI_ne (Or.inr j1), up_ne j1]; exact hs2 j hj
              refine T.aload_n (pc' := 62) (q_d dX6_set_0 38 rfl) rfl rfl rfl ?_
              refine T.iload_n (pc' := 63) (q_d dX6_set_0 39 rfl) rfl rfl rfl ?_
              refine T.callV (pc' := 66) (ci := 6) (q_d dX6_set_1 0 rfl) rfl uX6_acted wM_X6_56 (m_actedR (s' := up s (4 + u) v) hX (by exact hP2) (by funext j; rw [qI_ne (Or.inl (by decide)), fa 2 (by decide)]) (by funext j; rw [qI_ne (Or.inl (by decide)), fa 5 (by decide)]) (by rw [qI_ne (Or.inl (by decide)), fa 0 (by decide)]) (by rw [qI_ne (Or.inl (by decide)), fa 0 (by decide)]) (fun j hj => by rw [qI_ne (Or.inl (by decide)), f3 j hj]; exact hX.2.1 j hj) hN hW (Nat.le_refl _) hsx) rfl rfl (by decide) rfl rfl (by decide) (Nat.le_of_ble_eq_true rfl) rfl rfl (fun _ => rfl) ?_
              rintro v5 M5 hO
              dsimp only [Option.toList, List.cons_append, List.nil_append, List.append_nil]
              obtain ⟨rfl, hO⟩ := hO
              refine T.iret (q_d dX6_set_1 1 rfl) rfl rfl rfl ?_
              rw [er]
              exact ⟨rfl, hO⟩
            · first
                | (rw [if_pos h12, if_pos h22] at z2; rw [if_pos z2] at h33; exact absurd h33 (by decide))
                | (rw [if_neg h12, if_neg h22] at z2; rw [if_pos z2] at h33; exact absurd h33 (by decide))
                | exact absurd h12 h22
                | exact absurd h22 h12
          · refine T.iconst (pc' := 26) (v := nI 2) (q_d dX6_set_0 15 rfl) rfl (by decide) ?_
            refine T.goto (tgt := 30) (q_d dX6_set_0 16 rfl) (by decide) ?_
            refine T.callS (pc' := 33) (q_d dX6_set_0 18 rfl) rfl uX6_in wM_X6_43 (m_in hv (by decide) (by decide)) rfl rfl (by decide) (Nat.le_of_ble_eq_true rfl) rfl rfl (fun _ => rfl) ?_
            rintro _ _ ⟨rfl, rfl⟩
            dsimp only [Option.toList, List.cons_append, List.nil_append, List.append_nil]
            refine T.if_neN (tgt := 39) (pc' := 36) (q_d dX6_set_0 19 rfl) rfl (by decide) (Nat.lt_of_le_of_lt ite_le1 (by decide)) (fun h33 => ?_) (fun h33 => ?_)
            · refine T.aload_n (pc' := 40) (q_d dX6_set_0 22 rfl) rfl rfl rfl ?_
              refine T.callV (pc' := 43) (ci := 6) (q_d dX6_set_0 23 rfl) rfl uX6_keeps wM_X6_53 (m_keeps hX.1) rfl rfl (by decide) rfl rfl (by decide) (Nat.le_of_ble_eq_true rfl) rfl rfl (fun _ => rfl) ?_
              rintro _ M2 ⟨rfl, f2, fa, f3⟩
              have hP2 : M2.2.2 = pM := by rw [f2]; exact hX.1
              have hs2 : ∀ j, j < 52 → M2.1 1 j = s j := fun j hj => by rw [fa 1 (by decide)]; exact hX.2.1 j hj
              dsimp only [Option.toList, List.cons_append, List.nil_append, List.append_nil]
              refine T.aload_n (pc' := 44) (q_d dX6_set_0 24 rfl) rfl rfl rfl ?_
              refine T.getR (pc' := 47) (ci := 6) (k0 := 0) (q_d dX6_set_0 25 rfl) rfl rfl (by decide) rfl inX6 (by decide) rfl wF_X6_7 (rP (P := pM) (by first | exact hP2 | exact hX.1) rfl) ?_
              refine T.iconst (pc' := 48) (v := nI 4) (q_d dX6_set_0 26 rfl) rfl (by decide) ?_
              refine T.iload_n (pc' := 49) (q_d dX6_set_0 27 rfl) rfl rfl rfl ?_
              refine T.iadd (pc' := 50) (q_d dX6_set_0 28 rfl) rfl (nI_add _ _) ?_
              refine T.iald (pc' := 51) (q_d dX6_set_0 29 rfl) rfl rfl (by decide) rfl (by omega) (by decide) (hs2 (4 + u) (by omega)) ?_
              refine T.istore_n (pc' := 52) (q_d dX6_set_0 30 rfl) rfl rfl (by decide) rfl rfl ?_
              refine T.aload_n (pc' := 53) (q_d dX6_set_0 31 rfl) rfl rfl rfl ?_
              refine T.getR (pc' := 56) (ci := 6) (k0 := 0) (q_d dX6_set_0 32 rfl) rfl rfl (by decide) rfl inX6 (by decide) rfl wF_X6_7 (rP (P := pM) (by first | exact hP2 | exact hX.1) rfl) ?_
              refine T.iconst (pc' := 57) (v := nI 4) (q_d dX6_set_0 33 rfl) rfl (by decide) ?_
              refine T.iload_n (pc' := 58) (q_d dX6_set_0 34 rfl) rfl rfl rfl ?_
              refine T.iadd (pc' := 59) (q_d dX6_set_0 35 rfl) rfl (nI_add _ _) ?_
              refine T.iload_n (pc' := 60) (q_d dX6_set_0 36 rfl) rfl rfl rfl ?_
              refine T.iast (pc' := 61) (q_d dX6_set_0 37 rfl) rfl rfl (by decide) rfl (by omega) (by decide) ?_
              have hN : ∀ j, j < 52 → (qI M2 1 (4 + u) v).1 1 j = up s (4 + u) v j := by
                intro j hj
                by_cases j1 : j = 4 + u
                · subst j1; rw [qI_eq, up_eq]
                · rw [qI_ne (Or.inr j1), up_ne j1]; exact hs2 j hj
              refine T.aload_n (pc' := 62) (q_d dX6_set_0 38 rfl) rfl rfl rfl ?_
              refine T.iload_n (pc' := 63) (q_d dX6_set_0 39 rfl) rfl rfl rfl ?_
              refine T.callV (pc' := 66) (ci := 6) (q_d dX6_set_1 0 rfl) rfl uX6_acted wM_X6_56 (m_actedR (s' := up s (4 + u) v) hX (by exact hP2) (by funext j; rw [qI_ne (Or.inl (by decide)), fa 2 (by decide)]) (by funext j; rw [qI_ne (Or.inl (by decide)), fa 5 (by decide)]) (by rw [qI_ne (Or.inl (by decide)), fa 0 (by decide)]) (by rw [qI_ne (Or.inl (by decide)), fa 0 (by decide)]) (fun j hj => by rw [qI_ne (Or.inl (by decide)), f3 j hj]; exact hX.2.1 j hj) hN hW (Nat.le_refl _) hsx) rfl rfl (by decide) rfl rfl (by decide) (Nat.le_of_ble_eq_true rfl) rfl rfl (fun _ => rfl) ?_
              rintro v5 M5 hO
              dsimp only [Option.toList, List.cons_append, List.nil_append, List.append_nil]
              obtain ⟨rfl, hO⟩ := hO
              refine T.iret (q_d dX6_set_1 1 rfl) rfl rfl rfl ?_
              rw [er]
              exact ⟨rfl, hO⟩
            · first
                | (rw [if_pos h12, if_pos h22] at z2; rw [if_pos z2] at h33; exact absurd h33 (by decide))
                | (rw [if_neg h12, if_neg h22] at z2; rw [if_pos z2] at h33; exact absurd h33 (by decide))
                | exact absurd h12 h22
                | exact absurd h22 h12
        · refine T.iconst (pc' := 16) (v := nI 1) (q_d dX6_set_0 9 rfl) rfl (by decide) ?_
          refine T.goto (tgt := 20) (q_d dX6_set_0 10 rfl) (by decide) ?_
          refine T.iload_n (pc' := 21) (q_d dX6_set_0 12 rfl) rfl rfl rfl ?_
          refine T.iconst (pc' := 22) (v := nI 2) (q_d dX6_set_0 13 rfl) rfl (by decide) ?_
          refine T.icmp_neN (tgt := 29) (pc' := 25) (q_d dX6_set_0 14 rfl) rfl (by decide) (by omega) (by omega) (fun h22 => ?_) (fun h22 => ?_)
          · refine T.iconst (pc' := 30) (v := nI 3) (q_d dX6_set_0 17 rfl) rfl (by decide) ?_
            refine T.callS (pc' := 33) (q_d dX6_set_0 18 rfl) rfl uX6_in wM_X6_43 (m_in hv (by decide) (by decide)) rfl rfl (by decide) (Nat.le_of_ble_eq_true rfl) rfl rfl (fun _ => rfl) ?_
            rintro _ _ ⟨rfl, rfl⟩
            dsimp only [Option.toList, List.cons_append, List.nil_append, List.append_nil]
            refine T.if_neN (tgt := 39) (pc' := 36) (q_d dX6_set_0 19 rfl) rfl (by decide) (Nat.lt_of_le_of_lt ite_le1 (by decide)) (fun h33 => ?_) (fun h33 => ?_)
            · refine T.aload_n (pc' := 40) (q_d dX6_set_0 22 rfl) rfl rfl rfl ?_
              refine T.callV (pc' := 43) (ci := 6) (q_d dX6_set_0 23 rfl) rfl uX6_keeps wM_X6_53 (m_keeps hX.1) rfl rfl (by decide) rfl rfl (by decide) (Nat.le_of_ble_eq_true rfl) rfl rfl (fun _ => rfl) ?_
              rintro _ M2 ⟨rfl, f2, fa, f3⟩
              have hP2 : M2.2.2 = pM := by rw [f2]; exact hX.1
              have hs2 : ∀ j, j < 52 → M2.1 1 j = s j := fun j hj => by rw [fa 1 (by decide)]; exact hX.2.1 j hj
              dsimp only [Option.toList, List.cons_append, List.nil_append, List.append_nil]
              refine T.aload_n (pc' := 44) (q_d dX6_set_0 24 rfl) rfl rfl rfl ?_
              refine T.getR (pc' := 47) (ci := 6) (k0 := 0) (q_d dX6_set_0 25 rfl) rfl rfl (by decide) rfl inX6 (by decide) rfl wF_X6_7 (rP (P := pM) (by first | exact hP2 | exact hX.1) rfl) ?_
              refine T.iconst (pc' := 48) (v := nI 4) (q_d dX6_set_0 26 rfl) rfl (by decide) ?_
              refine T.iload_n (pc' := 49) (q_d dX6_set_0 27 rfl) rfl rfl rfl ?_
              refine T.iadd (pc' := 50) (q_d dX6_set_0 28 rfl) rfl (nI_add _ _) ?_
              refine T.iald (pc' := 51) (q_d dX6_set_0 29 rfl) rfl rfl (by decide) rfl (by omega) (by decide) (hs2 (4 + u) (by omega)) ?_
              refine T.istore_n (pc' := 52) (q_d dX6_set_0 30 rfl) rfl rfl (by decide) rfl rfl ?_
              refine T.aload_n (pc' := 53) (q_d dX6_set_0 31 rfl) rfl rfl rfl ?_
              refine T.getR (pc' := 56) (ci := 6) (k0 := 0) (q_d dX6_set_0 32 rfl) rfl rfl (by decide) rfl inX6 (by decide) rfl wF_X6_7 (rP (P := pM) (by first | exact hP2 | exact hX.1) rfl) ?_
              refine T.iconst (pc' := 57) (v := nI 4) (q_d dX6_set_0 33 rfl) rfl (by decide) ?_
              refine T.iload_n (pc' := 58) (q_d dX6_set_0 34 rfl) rfl rfl rfl ?_
              refine T.iadd (pc' := 59) (q_d dX6_set_0 35 rfl) rfl (nI_add _ _) ?_
              refine T.iload_n (pc' := 60) (q_d dX6_set_0 36 rfl) rfl rfl rfl ?_
              refine T.iast (pc' := 61) (q_d dX6_set_0 37 rfl) rfl rfl (by decide) rfl (by omega) (by decide) ?_
              have hN : ∀ j, j < 52 → (qI M2 1 (4 + u) v).1 1 j = up s (4 + u) v j := by
                intro j hj
                by_cases j1 : j = 4 + u
                · subst j1; rw [qI_eq, up_eq]
                · rw [qI_ne (Or.inr j1), up_ne j1]; exact hs2 j hj
              refine T.aload_n (pc' := 62) (q_d dX6_set_0 38 rfl) rfl rfl rfl ?_
              refine T.iload_n (pc' := 63) (q_d dX6_set_0 39 rfl) rfl rfl rfl ?_
              refine T.callV (pc' := 66) (ci := 6) (q_d dX6_set_1 0 rfl) rfl uX6_acted wM_X6_56 (m_actedR (s' := up s (4 + u) v) hX (by exact hP2) (by funext j; rw [qI_ne (Or.inl (by decide)), fa 2 (by decide)]) (by funext j; rw [qI_ne (Or.inl (by decide)), fa 5 (by decide)]) (by rw [qI_ne (Or.inl (by decide)), fa 0 (by decide)]) (by rw [qI_ne (Or.inl (by decide)), fa 0 (by decide)]) (fun j hj => by rw [qI_ne (Or.inl (by decide)), f3 j hj]; exact hX.2.1 j hj) hN hW (Nat.le_refl _) hsx) rfl rfl (by decide) rfl rfl (by decide) (Nat.le_of_ble_eq_true rfl) rfl rfl (fun _ => rfl) ?_
              rintro v5 M5 hO
              dsimp only [Option.toList, List.cons_append, List.nil_append, List.append_nil]
              obtain ⟨rfl, hO⟩ := hO
              refine T.iret (q_d dX6_set_1 1 rfl) rfl rfl rfl ?_
              rw [er]
              exact ⟨rfl, hO⟩
            · first
                | (rw [if_pos h12, if_pos h22] at z2; rw [if_pos z2] at h33; exact absurd h33 (by decide))
                | (rw [if_neg h12, if_neg h22] at z2; rw [if_pos z2] at h33; exact absurd h33 (by decide))
                | exact absurd h12 h22
                | exact absurd h22 h12
          · refine T.iconst (pc' := 26) (v := nI 2) (q_d dX6_set_0 15 rfl) rfl (by decide) ?_
            refine T.goto (tgt := 30) (q_d dX6_set_0 16 rfl) (by decide) ?_
            refine T.callS (pc' := 33) (q_d dX6_set_0 18 rfl) rfl uX6_in wM_X6_43 (m_in hv (by decide) (by decide)) rfl rfl (by decide) (Nat.le_of_ble_eq_true rfl) rfl rfl (fun _ => rfl) ?_
            rintro _ _ ⟨rfl, rfl⟩
            dsimp only [Option.toList, List.cons_append, List.nil_append, List.append_nil]
            refine T.if_neN (tgt := 39) (pc' := 36) (q_d dX6_set_0 19 rfl) rfl (by decide) (Nat.lt_of_le_of_lt ite_le1 (by decide)) (fun h33 => ?_) (fun h33 => ?_)
            · refine T.aload_n (pc' := 40) (q_d dX6_set_0 22 rfl) rfl rfl rfl ?_
              refine T.callV (pc' := 43) (ci := 6) (q_d dX6_set_0 23 rfl) rfl uX6_keeps wM_X6_53 (m_keeps hX.1) rfl rfl (by decide) rfl rfl (by decide) (Nat.le_of_ble_eq_true rfl) rfl rfl (fun _ => rfl) ?_
              rintro _ M2 ⟨rfl, f2, fa, f3⟩
              have hP2 : M2.2.2 = pM := by rw [f2]; exact hX.1
              have hs2 : ∀ j, j < 52 → M2.1 1 j = s j := fun j hj => by rw [fa 1 (by decide)]; exact hX.2.1 j hj
              dsimp only [Option.toList, List.cons_append, List.nil_append, List.append_nil]
              refine T.aload_n (pc' := 44) (q_d dX6_set_0 24 rfl) rfl rfl rfl ?_
              refine T.getR (pc' := 47) (ci := 6) (k0 := 0) (q_d dX6_set_0 25 rfl) rfl rfl (by decide) rfl inX6 (by decide) rfl wF_X6_7 (rP (P := pM) (by first | exact hP2 | exact hX.1) rfl) ?_
              refine T.iconst (pc' := 48) (v := nI 4) (q_d dX6_set_0 26 rfl) rfl (by decide) ?_
              refine T.iload_n (pc' := 49) (q_d dX6_set_0 27 rfl) rfl rfl rfl ?_
              refine T.iadd (pc' := 50) (q_d dX6_set_0 28 rfl) rfl (nI_add _ _) ?_
              refine T.iald (pc' := 51) (q_d dX6_set_0 29 rfl) rfl rfl (by decide) rfl (by omega) (by decide) (hs2 (4 + u) (by omega)) ?_
              refine T.istore_n (pc' := 52) (q_d dX6_set_0 30 rfl) rfl rfl (by decide) rfl rfl ?_
              refine T.aload_n (pc' := 53) (q_d dX6_set_0 31 rfl) rfl rfl rfl ?_
              refine T.getR (pc' := 56) (ci := 6) (k0 := 0) (q_d dX6_set_0 32 rfl) rfl rfl (by decide) rfl inX6 (by decide) rfl wF_X6_7 (rP (P := pM) (by first | exact hP2 | exact hX.1) rfl) ?_
              refine T.iconst (pc' := 57) (v := nI 4) (q_d dX6_set_0 33 rfl) rfl (by decide) ?_
              refine T.iload_n (pc' := 58) (q_d dX6_set_0 34 rfl) rfl rfl rfl ?_
              refine T.iadd (pc' := 59) (q_d dX6_set_0 35 rfl) rfl (nI_add _ _) ?_
              refine T.iload_n (pc' := 60) (q_d dX6_set_0 36 rfl) rfl rfl rfl ?_
              refine T.iast (pc' := 61) (q_d dX6_set_0 37 rfl) rfl rfl (by decide) rfl (by omega) (by decide) ?_
              have hN : ∀ j, j < 52 → (qI M2 1 (4 + u) v).1 1 j = up s (4 + u) v j := by
                intro j hj
                by_cases j1 : j = 4 + u
                · subst j1; rw [qI_eq, up_eq]
                · rw [qI_ne (Or.inr j1), up_ne j1]; exact hs2 j hj
              refine T.aload_n (pc' := 62) (q_d dX6_set_0 38 rfl) rfl rfl rfl ?_
              refine T.iload_n (pc' := 63) (q_d dX6_set_0 39 rfl) rfl rfl rfl ?_
              refine T.callV (pc' := 66) (ci := 6) (q_d dX6_set_1 0 rfl) rfl uX6_acted wM_X6_56 (m_actedR (s' := up s (4 + u) v) hX (by exact hP2) (by funext j; rw [qI_ne (Or.inl (by decide)), fa 2 (by decide)]) (by funext j; rw [qI_ne (Or.inl (by decide)), fa 5 (by decide)]) (by rw [qI_ne (Or.inl (by decide)), fa 0 (by decide)]) (by rw [qI_ne (Or.inl (by decide)), fa 0 (by decide)]) (fun j hj => by rw [qI_ne (Or.inl (by decide)), f3 j hj]; exact hX.2.1 j hj) hN hW (Nat.le_refl _) hsx) rfl rfl (by decide) rfl rfl (by decide) (Nat.le_of_ble_eq_true rfl) rfl rfl (fun _ => rfl) ?_
              rintro v5 M5 hO
              dsimp only [Option.toList, List.cons_append, List.nil_append, List.append_nil]
              obtain ⟨rfl, hO⟩ := hO
              refine T.iret (q_d dX6_set_1 1 rfl) rfl rfl rfl ?_
              rw [er]
              exact ⟨rfl, hO⟩
            · first
                | (rw [if_pos h12, if_pos h22] at z2; rw [if_pos z2] at h33; exact absurd h33 (by decide))
                | (rw [if_neg h12, if_neg h22] at z2; rw [if_pos z2] at h33; exact absurd h33 (by decide))
                | exact absurd h12 h22
                | exact absurd h22 h12
    · have er : oSet s k was n t u v = (4293967295, (s, k, was, n, t)) := by unfold oSet; rw [if_neg (fun q => a2 q.2)]
      have z2 : ¬ inS v (if u = 2 then 1 else 0) (if u = 2 then 2 else 3) = true := fun q => a2 (e3.mp q)
      refine T.iload_n (pc' := 1) (q_d dX6_set_0 0 rfl) rfl rfl rfl ?_
      refine T.iconst (pc' := 2) (v := nI 0) (q_d dX6_set_0 1 rfl) rfl (by decide) ?_
      refine T.iconst (pc' := 3) (v := nI 2) (q_d dX6_set_0 2 rfl) rfl (by decide) ?_
      refine T.callS (pc' := 6) (q_d dX6_set_0 3 rfl) rfl uX6_in wM_X6_43 (m_in hu (by decide) (hi := 2) (by decide)) rfl rfl (by decide) (Nat.le_of_ble_eq_true rfl) rfl rfl (fun _ => rfl) ?_
      rintro _ _ ⟨rfl, rfl⟩
      dsimp only [Option.toList, List.cons_append, List.nil_append, List.append_nil]
      refine T.if_eqN (tgt := 36) (pc' := 9) (q_d dX6_set_0 4 rfl) rfl (by decide) (by split <;> decide) (fun h6 => ?_) (fun h6 => ?_)
      · exact absurd h6 (by rw [if_pos e1]; decide)
      · refine T.iload_n (pc' := 10) (q_d dX6_set_0 5 rfl) rfl rfl rfl ?_
        refine T.iload_n (pc' := 11) (q_d dX6_set_0 6 rfl) rfl rfl rfl ?_
        refine T.iconst (pc' := 12) (v := nI 2) (q_d dX6_set_0 7 rfl) rfl (by decide) ?_
        refine T.icmp_neN (tgt := 19) (pc' := 15) (q_d dX6_set_0 8 rfl) rfl (by decide) (by omega) (by omega) (fun h12 => ?_) (fun h12 => ?_)
        · refine T.iconst (pc' := 20) (v := nI 0) (q_d dX6_set_0 11 rfl) rfl (by decide) ?_
          refine T.iload_n (pc' := 21) (q_d dX6_set_0 12 rfl) rfl rfl rfl ?_
          refine T.iconst (pc' := 22) (v := nI 2) (q_d dX6_set_0 13 rfl) rfl (by decide) ?_
          refine T.icmp_neN (tgt := 29) (pc' := 25) (q_d dX6_set_0 14 rfl) rfl (by decide) (by omega) (by omega) (fun h22 => ?_) (fun h22 => ?_)
          · refine T.iconst (pc' := 30) (v := nI 3) (q_d dX6_set_0 17 rfl) rfl (by decide) ?_
            refine T.callS (pc' := 33) (q_d dX6_set_0 18 rfl) rfl uX6_in wM_X6_43 (m_in hv (by decide) (by decide)) rfl rfl (by decide) (Nat.le_of_ble_eq_true rfl) rfl rfl (fun _ => rfl) ?_
            rintro _ _ ⟨rfl, rfl⟩
            dsimp only [Option.toList, List.cons_append, List.nil_append, List.append_nil]
            refine T.if_neN (tgt := 39) (pc' := 36) (q_d dX6_set_0 19 rfl) rfl (by decide) (Nat.lt_of_le_of_lt ite_le1 (by decide)) (fun h33 => ?_) (fun h33 => ?_)
            · first
                | (rw [if_pos h12, if_pos h22] at z2; rw [if_neg z2] at h33; exact absurd rfl h33)
                | (rw [if_neg h12, if_neg h22] at z2; rw [if_neg z2] at h33; exact absurd rfl h33)
                | exact absurd h12 h22
                | exact absurd h22 h12
            · refine T.ldc (pc' := 38) (v := nI 4293967295) (q_d dX6_set_0 20 rfl) rfl wN_X6_47 ?_
              refine T.iret (q_d dX6_set_0 21 rfl) rfl rfl rfl ?_
              rw [er]
              exact ⟨rfl, hX⟩
          · refine T.iconst (pc' := 26) (v := nI 2) (q_d dX6_set_0 15 rfl) rfl (by decide) ?_
            refine T.goto (tgt := 30) (q_d dX6_set_0 16 rfl) (by decide) ?_
            refine T.callS (pc' := 33) (q_d dX6_set_0 18 rfl) rfl uX6_in wM_X6_43 (m_in hv (by decide) (by decide)) rfl rfl (by decide) (Nat.le_of_ble_eq_true rfl) rfl rfl (fun _ => rfl) ?_
            rintro _ _ ⟨rfl, rfl⟩
            dsimp only [Option.toList, List.cons_append, List.nil_append, List.append_nil]
            refine T.if_neN (tgt := 39) (pc' := 36) (q_d dX6_set_0 19 rfl) rfl (by decide) (Nat.lt_of_le_of_lt ite_le1 (by decide)) (fun h33 => ?_) (fun h33 => ?_)
            · first
                | (rw [if_pos h12, if_pos h22] at z2; rw [if_neg z2] at h33; exact absurd rfl h33)
                | (rw [if_neg h12, if_neg h22] at z2; rw [if_neg z2] at h33; exact absurd rfl h33)
                | exact absurd h12 h22
                | exact absurd h22 h12
            · refine T.ldc (pc' := 38) (v := nI 4293967295) (q_d dX6_set_0 20 rfl) rfl wN_X6_47 ?_
              refine T.iret (q_d dX6_set_0 21 rfl) rfl rfl rfl ?_
              rw [er]
              exact ⟨rfl, hX⟩
        · refine T.iconst (pc' := 16) (v := nI 1) (q_d dX6_set_0 9 rfl) rfl (by decide) ?_
          refine T.goto (tgt := 20) (q_d dX6_set_0 10 rfl) (by decide) ?_
          refine T.iload_n (pc' := 21) (q_d dX6_set_0 12 rfl) rfl rfl rfl ?_
          refine T.iconst (pc' := 22) (v := nI 2) (q_d dX6_set_0 13 rfl) rfl (by decide) ?_
          refine T.icmp_neN (tgt := 29) (pc' := 25) (q_d dX6_set_0 14 rfl) rfl (by decide) (by omega) (by omega) (fun h22 => ?_) (fun h22 => ?_)
          · refine T.iconst (pc' := 30) (v := nI 3) (q_d dX6_set_0 17 rfl) rfl (by decide) ?_
            refine T.callS (pc' := 33) (q_d dX6_set_0 18 rfl) rfl uX6_in wM_X6_43 (m_in hv (by decide) (by decide)) rfl rfl (by decide) (Nat.le_of_ble_eq_true rfl) rfl rfl (fun _ => rfl) ?_
            rintro _ _ ⟨rfl, rfl⟩
            dsimp only [Option.toList, List.cons_append, List.nil_append, List.append_nil]
            refine T.if_neN (tgt := 39) (pc' := 36) (q_d dX6_set_0 19 rfl) rfl (by decide) (Nat.lt_of_le_of_lt ite_le1 (by decide)) (fun h33 => ?_) (fun h33 => ?_)
            · first
                | (rw [if_pos h12, if_pos h22] at z2; rw [if_neg z2] at h33; exact absurd rfl h33)
                | (rw [if_neg h12, if_neg h22] at z2; rw [if_neg z2] at h33; exact absurd rfl h33)
                | exact absurd h12 h22
                | exact absurd h22 h12
            · refine T.ldc (pc' := 38) (v := nI 4293967295) (q_d dX6_set_0 20 rfl) rfl wN_X6_47 ?_
              refine T.iret (q_d dX6_set_0 21 rfl) rfl rfl rfl ?_
              rw [er]
              exact ⟨rfl, hX⟩
          · refine T.iconst (pc' := 26) (v := nI 2) (q_d dX6_set_0 15 rfl) rfl (by decide) ?_
            refine T.goto (tgt := 30) (q_d dX6_set_0 16 rfl) (by decide) ?_
            refine T.callS (pc' := 33) (q_d dX6_set_0 18 rfl) rfl uX6_in wM_X6_43 (m_in hv (by decide) (by decide)) rfl rfl (by decide) (Nat.le_of_ble_eq_true rfl) rfl rfl (fun _ => rfl) ?_
            rintro _ _ ⟨rfl, rfl⟩
            dsimp only [Option.toList, List.cons_append, List.nil_append, List.append_nil]
            refine T.if_neN (tgt := 39) (pc' := 36) (q_d dX6_set_0 19 rfl) rfl (by decide) (Nat.lt_of_le_of_lt ite_le1 (by decide)) (fun h33 => ?_) (fun h33 => ?_)
            · first
                | (rw [if_pos h12, if_pos h22] at z2; rw [if_neg z2] at h33; exact absurd rfl h33)
                | (rw [if_neg h12, if_neg h22] at z2; rw [if_neg z2] at h33; exact absurd rfl h33)
                | exact absurd h12 h22
                | exact absurd h22 h12
            · refine T.ldc (pc' := 38) (v := nI 4293967295) (q_d dX6_set_0 20 rfl) rfl wN_X6_47 ?_
              refine T.iret (q_d dX6_set_0 21 rfl) rfl rfl rfl ?_
              rw [er]
              exact ⟨rfl, hX⟩
  · have e1 : ¬ inS u 0 2 = true := fun q => a1 (e.mp q).2
    have er : oSet s k was n t u v = (4293967295, (s, k, was, n, t)) := by unfold oSet; rw [if_neg (fun q => a1 q.1)]
    refine T.iload_n (pc' := 1) (q_d dX6_set_0 0 rfl) rfl rfl rfl ?_
    refine T.iconst (pc' := 2) (v := nI 0) (q_d dX6_set_0 1 rfl) rfl (by decide) ?_
    refine T.iconst (pc' := 3) (v := nI 2) (q_d dX6_set_0 2 rfl) rfl (by decide) ?_
    refine T.callS (pc' := 6) (q_d dX6_set_0 3 rfl) rfl uX6_in wM_X6_43 (m_in hu (by decide) (hi := 2) (by decide)) rfl rfl (by decide) (Nat.le_of_ble_eq_true rfl) rfl rfl (fun _ => rfl) ?_
    rintro _ _ ⟨rfl, rfl⟩
    dsimp only [Option.toList, List.cons_append, List.nil_append, List.append_nil]
    refine T.if_eqN (tgt := 36) (pc' := 9) (q_d dX6_set_0 4 rfl) rfl (by decide) (by split <;> decide) (fun h6 => ?_) (fun h6 => ?_)
    · refine T.ldc (pc' := 38) (v := nI 4293967295) (q_d dX6_set_0 20 rfl) rfl wN_X6_47 ?_
      refine T.iret (q_d dX6_set_0 21 rfl) rfl rfl rfl ?_
      rw [er]
      exact ⟨rfl, hX⟩
    · exact absurd (if_neg e1) h6
theorem m_believes (hP : M.2.2 = pM) {u : Nat} (hu : u < 2 ^ 31) : Ct l hdM kM mX6_believes [.ref 0, .int (nI u)] M (fun v M' => v = some (.int (nI (ones u))) ∧ M' = qI (qI (qI M 1 1 u) 1 2 0) 1 3 0) := by
  refine Ct.of [some (.ref 0), some (.int (nI u))] (by decide +kernel) (fun h => absurd h (by decide)) (Nat.le_of_ble_eq_true rfl) rfl ?_
  refine T.aload_n (pc' := 1) (q_d dX6_believes_0 0 rfl) rfl rfl rfl ?_
  refine T.getR (pc' := 4) (ci := 6) (k0 := 0) (q_d dX6_believes_0 1 rfl) rfl rfl (by decide) rfl inX6 (by decide) rfl wF_X6_7 (rP hP rfl) ?_
  refine T.iconst (pc' := 5) (v := nI 1) (q_d dX6_believes_0 2 rfl) rfl (by decide) ?_
  refine T.iload_n (pc' := 6) (q_d dX6_believes_0 3 rfl) rfl rfl rfl ?_
  refine T.iast (pc' := 7) (q_d dX6_believes_0 4 rfl) rfl rfl (by decide) rfl (by omega) (by decide) ?_
  refine T.aload_n (pc' := 8) (q_d dX6_believes_0 5 rfl) rfl rfl rfl ?_
  refine T.getR (pc' := 11) (ci := 6) (k0 := 0) (q_d dX6_believes_0 6 rfl) rfl rfl (by decide) rfl inX6 (by decide) rfl wF_X6_7 (rP hP rfl) ?_
  refine T.iconst (pc' := 12) (v := nI 2) (q_d dX6_believes_0 7 rfl) rfl (by decide) ?_
  refine T.iconst (pc' := 13) (v := nI 0) (q_d dX6_believes_0 8 rfl) rfl (by decide) ?_
  refine T.iast (pc' := 14) (q_d dX6_believes_0 9 rfl) rfl rfl (by decide) rfl (by omega) (by decide) ?_
  refine T.aload_n (pc' := 15) (q_d dX6_believes_0 10 rfl) rfl rfl rfl ?_
  refine T.getR (pc' := 18) (ci := 6) (k0 := 0) (q_d dX6_believes_0 11 rfl) rfl rfl (by decide) rfl inX6 (by decide) rfl wF_X6_7 (rP hP rfl) ?_
  refine T.iconst (pc' := 19) (v := nI 3) (q_d dX6_believes_0 12 rfl) rfl (by decide) ?_
  refine T.iconst (pc' := 20) (v := nI 0) (q_d dX6_believes_0 13 rfl) rfl (by decide) ?_
  refine T.iast (pc' := 21) (q_d dX6_believes_0 14 rfl) rfl rfl (by decide) rfl (by omega) (by decide) ?_
  refine T.iload_n (pc' := 22) (q_d dX6_believes_0 15 rfl) rfl rfl rfl ?_
  refine T.callS (pc' := 25) (q_d dX6_believes_0 16 rfl) rfl uX6_ones wM_X6_60 (m_ones hu) rfl rfl (by decide) (Nat.le_of_ble_eq_true rfl) rfl rfl (fun _ => rfl) ?_
  rintro _ _ ⟨rfl, rfl⟩
  dsimp only [Option.toList, List.cons_append, List.nil_append, List.append_nil]
  refine T.iret (q_d dX6_believes_0 17 rfl) rfl rfl rfl ?_
  exact ⟨rfl, rfl⟩
theorem m_believe (hX : RM M b s k was n t) {u : Nat} (hu : u < 4294967296) : Ct l hdM kM mX6_believe [.ref 0, .int (nI u)] M (OM b (oBelieve s k was n t u)) := by
  refine Ct.of [some (.ref 0), some (.int (nI u))] (by decide +kernel) (fun h => absurd h (by decide)) (Nat.le_of_ble_eq_true rfl) rfl ?_
  have w0 := p2_le hX.2.2.1.1
  by_cases a1 : u < 2 ^ s 0
  · have er : oBelieve s k was n t u = (ones u, act s k was n t (sBelieve s u)) := by unfold oBelieve; rw [if_pos a1]
    have hW := hX.2.2.1.believe a1
    have o1 := ones_le u
    refine T.aload_n (pc' := 1) (q_d dX6_believe_0 0 rfl) rfl rfl rfl ?_
    refine T.iload_n (pc' := 2) (q_d dX6_believe_0 1 rfl) rfl rfl rfl ?_
    refine T.callV (pc' := 5) (ci := 6) (q_d dX6_believe_0 2 rfl) rfl uX6_isSet wM_X6_78 (m_isSet hX hu) rfl rfl (by decide) rfl rfl (by decide) (Nat.le_of_ble_eq_true rfl) rfl rfl (fun _ => rfl) ?_
    rintro _ _ ⟨rfl, rfl⟩
    dsimp only [Option.toList, List.cons_append, List.nil_append, List.append_nil]
    refine T.if_neN (tgt := 11) (pc' := 8) (q_d dX6_believe_0 3 rfl) rfl (by decide) (by split <;> decide) (fun h5 => ?_) (fun h5 => ?_)
    · refine T.aload_n (pc' := 12) (q_d dX6_believe_0 6 rfl) rfl rfl rfl ?_
      refine T.callV (pc' := 15) (ci := 6) (q_d dX6_believe_0 7 rfl) rfl uX6_keeps wM_X6_53 (m_keeps hX.1) rfl rfl (by decide) rfl rfl (by decide) (Nat.le_of_ble_eq_true rfl) rfl rfl (fun _ => rfl) ?_
      rintro _ M2 ⟨rfl, f2, fa, f3⟩
      have hP2 : M2.2.2 = pM := by rw [f2]; exact hX.1
      have hs2 : ∀ j, j < 52 → M2.1 1 j = s j := fun j hj => by rw [fa 1 (by decide)]; exact hX.2.1 j hj
      dsimp only [Option.toList, List.cons_append, List.nil_append, List.append_nil]
      refine T.aload_n (pc' := 16) (q_d dX6_believe_0 8 rfl) rfl rfl rfl ?_
      refine T.aload_n (pc' := 17) (q_d dX6_believe_0 9 rfl) rfl rfl rfl ?_
      refine T.iload_n (pc' := 18) (q_d dX6_believe_0 10 rfl) rfl rfl rfl ?_
      refine T.callV (pc' := 21) (ci := 6) (q_d dX6_believe_0 11 rfl) rfl uX6_believes wM_X6_81 (m_believes hP2 (show u < 2 ^ 31 by omega)) rfl rfl (by decide) rfl rfl (by decide) (Nat.le_of_ble_eq_true rfl) rfl rfl (fun _ => rfl) ?_
      rintro _ _ ⟨rfl, e9⟩
      subst e9
      have hN : ∀ j, j < 52 → (qI (qI (qI M2 1 1 u) 1 2 0) 1 3 0).1 1 j = sBelieve s u j := by
        intro j hj
        unfold sBelieve
        by_cases j1 : j = 3
        · subst j1; rw [qI_eq, if_neg (by decide), if_pos (by decide)]
        · rw [qI_ne (Or.inr j1)]
          by_cases j2 : j = 2
          · subst j2; rw [qI_eq, if_neg (by decide), if_pos (by decide)]
          · rw [qI_ne (Or.inr j2)]
            by_cases j3 : j = 1
            · subst j3; rw [qI_eq, if_pos rfl]
            · rw [qI_ne (Or.inr j3), if_neg j3, if_neg (by omega)]; exact hs2 j hj
      dsimp only [Option.toList, List.cons_append, List.nil_append, List.append_nil]
      refine T.callV (pc' := 24) (ci := 6) (q_d dX6_believe_0 12 rfl) rfl uX6_acted wM_X6_56 (m_actedR (s' := sBelieve s u) hX (by exact hP2) (by funext j; rw [qI_ne (Or.inl (by decide)), qI_ne (Or.inl (by decide)), qI_ne (Or.inl (by decide)), fa 2 (by decide)]) (by funext j; rw [qI_ne (Or.inl (by decide)), qI_ne (Or.inl (by decide)), qI_ne (Or.inl (by decide)), fa 5 (by decide)]) (by rw [qI_ne (Or.inl (by decide)), qI_ne (Or.inl (by decide)), qI_ne (Or.inl (by decide)), fa 0 (by decide)]) (by rw [qI_ne (Or.inl (by decide)), qI_ne (Or.inl (by decide)), qI_ne (Or.inl (by decide)), fa 0 (by decide)]) (fun j hj => by rw [qI_ne (Or.inl (by decide)), qI_ne (Or.inl (by decide)), qI_ne (Or.inl (by decide)), f3 j hj]; exact hX.2.1 j hj) hN hW (Nat.le_refl _) (show ones u < 2 ^ 31 by omega)) rfl rfl (by decide) rfl rfl (by decide) (Nat.le_of_ble_eq_true rfl) rfl rfl (fun _ => rfl) ?_
      rintro v5 M5 hO
      dsimp only [Option.toList, List.cons_append, List.nil_append, List.append_nil]
      obtain ⟨rfl, hO⟩ := hO
      refine T.iret (q_d dX6_believe_0 13 rfl) rfl rfl rfl ?_
      rw [er]
      exact ⟨rfl, hO⟩
    · exact absurd h5 (by rw [if_pos a1]; decide)
  · have er : oBelieve s k was n t u = (4293967295, (s, k, was, n, t)) := by unfold oBelieve; rw [if_neg a1]
    refine T.aload_n (pc' := 1) (q_d dX6_believe_0 0 rfl) rfl rfl rfl ?_
    refine T.iload_n (pc' := 2) (q_d dX6_believe_0 1 rfl) rfl rfl rfl ?_
    refine T.callV (pc' := 5) (ci := 6) (q_d dX6_believe_0 2 rfl) rfl uX6_isSet wM_X6_78 (m_isSet hX hu) rfl rfl (by decide) rfl rfl (by decide) (Nat.le_of_ble_eq_true rfl) rfl rfl (fun _ => rfl) ?_
    rintro _ _ ⟨rfl, rfl⟩
    dsimp only [Option.toList, List.cons_append, List.nil_append, List.append_nil]
    refine T.if_neN (tgt := 11) (pc' := 8) (q_d dX6_believe_0 3 rfl) rfl (by decide) (by split <;> decide) (fun h5 => ?_) (fun h5 => ?_)
    · exact absurd (if_neg a1) h5
    · refine T.ldc (pc' := 10) (v := nI 4293967295) (q_d dX6_believe_0 4 rfl) rfl wN_X6_47 ?_
      refine T.iret (q_d dX6_believe_0 5 rfl) rfl rfl rfl ?_
      rw [er]
      exact ⟨rfl, hX⟩
end CM3
