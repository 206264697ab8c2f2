/-! the reference: rounds, and what is told -/
theorem oCheck_chk (s : Nat → Nat) (k : Nat) (was : Nat → Nat → Nat) (n : Nat) (t : Nat → Nat) (u v : Nat) : oCheck s k was n t u v = if 4293967294 ≤ (chk s u v).1 then ((chk s u v).1, (s, k, was, n, t)) else ((chk s u v).1, act s k was n t (chk s u v).2) := by
  unfold oCheck chk
  split
  · split
    · rw [if_neg (by have := ones_le (thn s (s 1) u v); show ¬ 4293967294 ≤ ones _; omega)]
    · rw [if_pos (by show 4293967294 ≤ 4293967294; decide)]
  · rw [if_pos (by show 4293967294 ≤ 4293967295; decide)]
theorem chk_val (s : Nat → Nat) (u v : Nat) : ((chk s u v).1 = 4293967295 ∧ (chk s u v).2 = s) ∨ ((chk s u v).1 = 4293967294 ∧ (chk s u v).2 = s) ∨ ((chk s u v).1 ≤ 7 ∧ canR s u v ∧ (chk s u v).2 = sRound s u v ∧ u < 2 ^ s 0 ∧ v ≤ 3 ∧ ones u ≤ s 6) := by
  unfold chk
  split
  · next h =>
    split
    · next h2 => exact Or.inr (Or.inr ⟨ones_le _, h2, rfl, h⟩)
    · exact Or.inr (Or.inl ⟨rfl, rfl⟩)
  · exact Or.inl ⟨rfl, rfl⟩
section CM4
variable {l : Launch} {M M' : qM} {b b' : Nat} {s s' : Nat → Nat} {k : Nat} {was : Nat → Nat → Nat} {n : Nat} {t : Nat → Nat}
theorem m_checks (hX : RM M b s k was n t) (hb : b < 2 ^ 30) {u v : Nat} (hu : u < 4294967296) (hv : v < 4294967296) : Ct l hdM kM mX6_checks [.ref 0, .int (nI u), .int (nI v)] M (fun v' M' => v' = some (.int (nI (chk s u v).1)) ∧ M'.2 = M.2 ∧ (∀ a, a ≠ 1 → M'.1 a = M.1 a) ∧ ∀ j, j < 52 → M'.1 1 j = (chk s u v).2 j) := by
  refine Ct.of [some (.ref 0), some (.int (nI u)), some (.int (nI v)), none, none, none] (by decide +kernel) (fun h => absurd h (by decide)) (Nat.le_of_ble_eq_true rfl) rfl ?_
  have w0 := p2_le hX.2.2.1.1
  have w1 := hX.2.2.1.2.1
  have w2 := hX.2.2.1.2.2.1
  have w6 := hX.2.2.1.2.2.2.2.2.1
  have w3 : s 3 ≤ 1 := by have := hX.2.2.1.2.2.2.2.2.2.2.2.2.2.1; split at this <;> omega
  have e := inS_iff (lo := 0) (hi := 3) hv (by decide) (by decide)
  have o1 := ones_le u
  by_cases a1 : u < 2 ^ s 0 ∧ v ≤ 3 ∧ ones u ≤ s 6
  · have e1 : inS v 0 3 = true := e.mpr ⟨Nat.zero_le _, a1.2.1⟩
    have t2 := thn_lt (s := s) (b := s 1) (c := u) (g := v) hX.2.2.1.1
    have wd : dif (s 1) u < 2 ^ s 0 := dif_lt w1
    have ed : s 1 &&& (u ^^^ 4294967295) = dif (s 1) u := rfl
    have loop : canR s u v → ∀ c (M' : qM), c ≤ 21 → M'.2 = M.2 → (∀ a, a ≠ 1 → M'.1 a = M.1 a) → (∀ j, M'.1 1 j = if 31 + c ≤ j ∧ j < 52 then M.1 1 (j - 3) else M.1 1 j) →
        T l hdM kM mX6_checks (fun v' M' => v' = some (.int (nI (chk s u v).1)) ∧ M'.2 = M.2 ∧ (∀ a, a ≠ 1 → M'.1 a = M.1 a) ∧ ∀ j, j < 52 → M'.1 1 j = (chk s u v).2 j) 0 0 92 [some (.ref 0), some (.int (nI u)), some (.int (nI v)), some (.int (nI (if dif (s 1) u = 0 then 1 else 0))), some (.int (nI (thn s (s 1) u v))), some (.int (nI (if c = 0 then 4294967295 else c - 1)))] [] M' := by
      intro hc
      have ec : chk s u v = (ones (thn s (s 1) u v), sRound s u v) := by unfold chk; rw [if_pos a1, if_pos hc]
      rw [ec]
      intro c
      induction c with
      | zero =>
        intro M' hc9 h2 ha hj
        have hP' : M'.2.2 = pM := by rw [h2]; exact hX.1
        have hs1 : ∀ j, j < 31 → M'.1 1 j = s j := fun j h9 => by rw [hj, if_neg (by omega)]; exact hX.2.1 j (by omega)
        rw [if_pos rfl]
        have g2 : (qI (qI (qI (qI M' 1 28 u) 1 29 v) 1 30 (thn s (s 1) u v)) 1 1 (thn s (s 1) u v)).1 1 2 = s 2 := by rw [qI_ne (Or.inr (by decide)), qI_ne (Or.inr (by decide)), qI_ne (Or.inr (by decide)), qI_ne (Or.inr (by decide))]; exact hs1 2 (by decide)
        have g3 : (qI (qI (qI (qI (qI M' 1 28 u) 1 29 v) 1 30 (thn s (s 1) u v)) 1 1 (thn s (s 1) u v)) 1 2 (s 2 + 1)).1 1 3 = s 3 := by rw [qI_ne (Or.inr (by decide)), qI_ne (Or.inr (by decide)), qI_ne (Or.inr (by decide)), qI_ne (Or.inr (by decide)), qI_ne (Or.inr (by decide))]; exact hs1 3 (by decide)
        refine T.iload (pc' := 94) (q_d dX6_checks_1 13 rfl) rfl rfl ?_
        refine T.if_lt (tgt := 125) (pc' := 97) (q_d dX6_checks_1 14 rfl) rfl (by decide)  (fun h94 => ?_) (fun h94 => ?_)
        · refine T.aload_n (pc' := 126) (q_d dX6_checks_1 31 rfl) rfl rfl rfl ?_
          refine T.getR (pc' := 129) (ci := 6) (k0 := 0) (q_d dX6_checks_1 32 rfl) rfl rfl (by decide) rfl inX6 (by decide) rfl wF_X6_7 (rP hP' rfl) ?_
          refine T.bipush (pc' := 131) (v := nI 28) (q_d dX6_checks_1 33 rfl) rfl (by decide) ?_
          refine T.iload_n (pc' := 132) (q_d dX6_checks_1 34 rfl) rfl rfl rfl ?_
          refine T.iast (pc' := 133) (q_d dX6_checks_1 35 rfl) rfl rfl (by decide) rfl (by omega) (by decide) ?_
          refine T.aload_n (pc' := 134) (q_d dX6_checks_1 36 rfl) rfl rfl rfl ?_
          refine T.getR (pc' := 137) (ci := 6) (k0 := 0) (q_d dX6_checks_1 37 rfl) rfl rfl (by decide) rfl inX6 (by decide) rfl wF_X6_7 (rP hP' rfl) ?_
          refine T.bipush (pc' := 139) (v := nI 29) (q_d dX6_checks_1 38 rfl) rfl (by decide) ?_
          refine T.iload_n (pc' := 140) (q_d dX6_checks_1 39 rfl) rfl rfl rfl ?_
          refine T.iast (pc' := 141) (q_d dX6_checks_2 0 rfl) rfl rfl (by decide) rfl (by omega) (by decide) ?_
          refine T.aload_n (pc' := 142) (q_d dX6_checks_2 1 rfl) rfl rfl rfl ?_
          refine T.getR (pc' := 145) (ci := 6) (k0 := 0) (q_d dX6_checks_2 2 rfl) rfl rfl (by decide) rfl inX6 (by decide) rfl wF_X6_7 (rP hP' rfl) ?_
          refine T.bipush (pc' := 147) (v := nI 30) (q_d dX6_checks_2 3 rfl) rfl (by decide) ?_
          refine T.iload (pc' := 149) (q_d dX6_checks_2 4 rfl) rfl rfl ?_
          refine T.iast (pc' := 150) (q_d dX6_checks_2 5 rfl) rfl rfl (by decide) rfl (by omega) (by decide) ?_
          refine T.aload_n (pc' := 151) (q_d dX6_checks_2 6 rfl) rfl rfl rfl ?_
          refine T.getR (pc' := 154) (ci := 6) (k0 := 0) (q_d dX6_checks_2 7 rfl) rfl rfl (by decide) rfl inX6 (by decide) rfl wF_X6_7 (rP hP' rfl) ?_
          refine T.iconst (pc' := 155) (v := nI 1) (q_d dX6_checks_2 8 rfl) rfl (by decide) ?_
          refine T.iload (pc' := 157) (q_d dX6_checks_2 9 rfl) rfl rfl ?_
          refine T.iast (pc' := 158) (q_d dX6_checks_2 10 rfl) rfl rfl (by decide) rfl (by omega) (by decide) ?_
          refine T.aload_n (pc' := 159) (q_d dX6_checks_2 11 rfl) rfl rfl rfl ?_
          refine T.getR (pc' := 162) (ci := 6) (k0 := 0) (q_d dX6_checks_2 12 rfl) rfl rfl (by decide) rfl inX6 (by decide) rfl wF_X6_7 (rP hP' rfl) ?_
          refine T.iconst (pc' := 163) (v := nI 2) (q_d dX6_checks_2 13 rfl) rfl (by decide) ?_
          refine T.dup2 (pc' := 164) (q_d dX6_checks_2 14 rfl) rfl rfl rfl ?_
          refine T.iald (pc' := 165) (q_d dX6_checks_2 15 rfl) rfl rfl (by decide) rfl (by omega) (by decide) g2 ?_
          refine T.iconst (pc' := 166) (v := nI 1) (q_d dX6_checks_2 16 rfl) rfl (by decide) ?_
          refine T.iadd (pc' := 167) (q_d dX6_checks_2 17 rfl) rfl (nI_add _ _) ?_
          refine T.iast (pc' := 168) (q_d dX6_checks_2 18 rfl) rfl rfl (by decide) rfl (by omega) (by decide) ?_
          refine T.aload_n (pc' := 169) (q_d dX6_checks_2 19 rfl) rfl rfl rfl ?_
          refine T.getR (pc' := 172) (ci := 6) (k0 := 0) (q_d dX6_checks_2 20 rfl) rfl rfl (by decide) rfl inX6 (by decide) rfl wF_X6_7 (rP hP' rfl) ?_
          refine T.iconst (pc' := 173) (v := nI 3) (q_d dX6_checks_2 21 rfl) rfl (by decide) ?_
          refine T.iload_n (pc' := 174) (q_d dX6_checks_2 22 rfl) rfl rfl rfl ?_
          refine T.if_eqN (tgt := 181) (pc' := 177) (q_d dX6_checks_2 23 rfl) rfl (by decide) (by split <;> decide) (fun h174 => ?_) (fun h174 => ?_)
          · refine T.aload_n (pc' := 182) (q_d dX6_checks_2 26 rfl) rfl rfl rfl ?_
            refine T.getR (pc' := 185) (ci := 6) (k0 := 0) (q_d dX6_checks_2 27 rfl) rfl rfl (by decide) rfl inX6 (by decide) rfl wF_X6_7 (rP hP' rfl) ?_
            refine T.iconst (pc' := 186) (v := nI 3) (q_d dX6_checks_2 28 rfl) rfl (by decide) ?_
            refine T.iald (pc' := 187) (q_d dX6_checks_2 29 rfl) rfl rfl (by decide) rfl (by omega) (by decide) g3 ?_
            refine T.iast (pc' := 188) (q_d dX6_checks_2 30 rfl) rfl rfl (by decide) rfl (by omega) (by decide) ?_
            refine T.iload (pc' := 190) (q_d dX6_checks_2 31 rfl) rfl rfl ?_
            refine T.callS (pc' := 193) (q_d dX6_checks_2 32 rfl) rfl uX6_ones wM_X6_60 (m_ones (show thn s (s 1) u v < 2 ^ 31 by omega)) rfl rfl (by decide) (Nat.le_of_ble_eq_true rfl) rfl rfl (fun _ => rfl) ?_
            rintro _ _ ⟨rfl, rfl⟩
            dsimp only [Option.toList, List.cons_append, List.nil_append, List.append_nil]
            refine T.iret (q_d dX6_checks_2 33 rfl) rfl rfl rfl ?_
            refine ⟨rfl, h2, fun a h9 => ?_, fun j h9 => ?_⟩
            · funext z; rw [qI_ne (Or.inl h9), qI_ne (Or.inl h9), qI_ne (Or.inl h9), qI_ne (Or.inl h9), qI_ne (Or.inl h9), qI_ne (Or.inl h9), ha a h9]
            · unfold sRound
              by_cases j1 : j = 1
              · subst j1; rw [qI_ne (Or.inr (by decide)), qI_ne (Or.inr (by decide)), qI_eq, if_pos rfl]
              · rw [if_neg j1]
                by_cases j2 : j = 2
                · subst j2; rw [qI_ne (Or.inr (by decide)), qI_eq, if_pos rfl]
                · rw [if_neg j2]
                  by_cases j3 : j = 3
                  · subst j3
                    rw [qI_eq, if_pos rfl]
                    first
                      | (rw [if_pos (show dif (s 1) u = 0 by
                           by_cases q : dif (s 1) u = 0
                           · exact q
                           · rw [if_neg q] at h174; exact absurd rfl h174)]; done)
                      | (rw [if_neg (show ¬ dif (s 1) u = 0 from fun q => by rw [if_pos q] at h174; exact absurd h174 (by decide))]; done)
                  · rw [if_neg j3, qI_ne (Or.inr j3), qI_ne (Or.inr j2), qI_ne (Or.inr j1)]
                    by_cases j30 : j = 30
                    · subst j30; rw [qI_eq, if_neg (by decide), if_neg (by decide), if_pos rfl]
                    · rw [qI_ne (Or.inr j30)]
                      by_cases j29 : j = 29
                      · subst j29; rw [qI_eq, if_neg (by decide), if_pos rfl]
                      · rw [qI_ne (Or.inr j29)]
                        by_cases j28 : j = 28
                        · subst j28; rw [qI_eq, if_pos rfl]
                        · rw [qI_ne (Or.inr j28), if_neg j28, if_neg j29, if_neg j30, hj]
                          by_cases q : 31 + 0 ≤ j ∧ j < 52
                          · rw [if_pos q, if_pos (by omega)]; exact hX.2.1 _ (by omega)
                          · rw [if_neg q, if_neg (by omega)]; exact hX.2.1 j h9
          · refine T.iconst (pc' := 178) (v := nI 1) (q_d dX6_checks_2 24 rfl) rfl (by decide) ?_
            refine T.goto (tgt := 187) (q_d dX6_checks_2 25 rfl) (by decide) ?_
            refine T.iast (pc' := 188) (q_d dX6_checks_2 30 rfl) rfl rfl (by decide) rfl (by omega) (by decide) ?_
            refine T.iload (pc' := 190) (q_d dX6_checks_2 31 rfl) rfl rfl ?_
            refine T.callS (pc' := 193) (q_d dX6_checks_2 32 rfl) rfl uX6_ones wM_X6_60 (m_ones (show thn s (s 1) u v < 2 ^ 31 by omega)) rfl rfl (by decide) (Nat.le_of_ble_eq_true rfl) rfl rfl (fun _ => rfl) ?_
            rintro _ _ ⟨rfl, rfl⟩
            dsimp only [Option.toList, List.cons_append, List.nil_append, List.append_nil]
            refine T.iret (q_d dX6_checks_2 33 rfl) rfl rfl rfl ?_
            refine ⟨rfl, h2, fun a h9 => ?_, fun j h9 => ?_⟩
            · funext z; rw [qI_ne (Or.inl h9), qI_ne (Or.inl h9), qI_ne (Or.inl h9), qI_ne (Or.inl h9), qI_ne (Or.inl h9), qI_ne (Or.inl h9), ha a h9]
            · unfold sRound
              by_cases j1 : j = 1
              · subst j1; rw [qI_ne (Or.inr (by decide)), qI_ne (Or.inr (by decide)), qI_eq, if_pos rfl]
              · rw [if_neg j1]
                by_cases j2 : j = 2
                · subst j2; rw [qI_ne (Or.inr (by decide)), qI_eq, if_pos rfl]
                · rw [if_neg j2]
                  by_cases j3 : j = 3
                  · subst j3
                    rw [qI_eq, if_pos rfl]
                    first
                      | (rw [if_pos (show dif (s 1) u = 0 by
                           by_cases q : dif (s 1) u = 0
                           · exact q
                           · rw [if_neg q] at h174; exact absurd rfl h174)]; done)
                      | (rw [if_neg (show ¬ dif (s 1) u = 0 from fun q => by rw [if_pos q] at h174; exact absurd h174 (by decide))]; done)
                  · rw [if_neg j3, qI_ne (Or.inr j3), qI_ne (Or.inr j2), qI_ne (Or.inr j1)]
                    by_cases j30 : j = 30
                    · subst j30; rw [qI_eq, if_neg (by decide), if_neg (by decide), if_pos rfl]
                    · rw [qI_ne (Or.inr j30)]
                      by_cases j29 : j = 29
                      · subst j29; rw [qI_eq, if_neg (by decide), if_pos rfl]
                      · rw [qI_ne (Or.inr j29)]
                        by_cases j28 : j = 28
                        · subst j28; rw [qI_eq, if_pos rfl]
                        · rw [qI_ne (Or.inr j28), if_neg j28, if_neg j29, if_neg j30, hj]
                          by_cases q : 31 + 0 ≤ j ∧ j < 52
                          · rw [if_pos q, if_pos (by omega)]; exact hX.2.1 _ (by omega)
                          · rw [if_neg q, if_neg (by omega)]; exact hX.2.1 j h9
        · exact absurd (show nI 4294967295 < (0 : Int32) by decide) h94
      | succ c ih =>
        intro M' hc9 h2 ha hj
        have hP' : M'.2.2 = pM := by rw [h2]; exact hX.1
        rw [if_neg (Nat.succ_ne_zero c), Nat.add_sub_cancel]
        have hv9 : M'.1 1 (28 + c) = M.1 1 (28 + c) := by rw [hj, if_neg (by omega)]
        have nx : nI c + Int32.ofInt (-1) = nI (if c = 0 then 4294967295 else c - 1) := by
          by_cases q : c = 0
          · subst q; decide
          · rw [if_neg q]; exact nN_m1 (by omega)
        refine T.iload (pc' := 94) (q_d dX6_checks_1 13 rfl) rfl rfl ?_
        refine T.if_lt (tgt := 125) (pc' := 97) (q_d dX6_checks_1 14 rfl) rfl (by decide)  (fun h94 => ?_) (fun h94 => ?_)
        · exact absurd h94 (Int32.not_lt.mpr (show (0 : Int32) ≤ nI c from (nN_le (a := 0) (b := c) (by decide) (by omega)).mpr (Nat.zero_le _)))
        · refine T.aload_n (pc' := 98) (q_d dX6_checks_1 15 rfl) rfl rfl rfl ?_
          refine T.getR (pc' := 101) (ci := 6) (k0 := 0) (q_d dX6_checks_1 16 rfl) rfl rfl (by decide) rfl inX6 (by decide) rfl wF_X6_7 (rP hP' rfl) ?_
          refine T.bipush (pc' := 103) (v := nI 28) (q_d dX6_checks_1 17 rfl) rfl (by decide) ?_
          refine T.iload (pc' := 105) (q_d dX6_checks_1 18 rfl) rfl rfl ?_
          refine T.iadd (pc' := 106) (q_d dX6_checks_1 19 rfl) rfl (nI_add _ _) ?_
          refine T.iconst (pc' := 107) (v := nI 3) (q_d dX6_checks_1 20 rfl) rfl (by decide) ?_
          refine T.iadd (pc' := 108) (q_d dX6_checks_1 21 rfl) rfl (nI_add _ _) ?_
          refine T.aload_n (pc' := 109) (q_d dX6_checks_1 22 rfl) rfl rfl rfl ?_
          refine T.getR (pc' := 112) (ci := 6) (k0 := 0) (q_d dX6_checks_1 23 rfl) rfl rfl (by decide) rfl inX6 (by decide) rfl wF_X6_7 (rP hP' rfl) ?_
          refine T.bipush (pc' := 114) (v := nI 28) (q_d dX6_checks_1 24 rfl) rfl (by decide) ?_
          refine T.iload (pc' := 116) (q_d dX6_checks_1 25 rfl) rfl rfl ?_
          refine T.iadd (pc' := 117) (q_d dX6_checks_1 26 rfl) rfl (nI_add _ _) ?_
          refine T.iald (pc' := 118) (q_d dX6_checks_1 27 rfl) rfl rfl (by decide) rfl (by omega) (by decide) hv9 ?_
          refine T.iast (pc' := 119) (q_d dX6_checks_1 28 rfl) rfl rfl (by decide) rfl (by omega) (by decide) ?_
          refine T.iinc (pc' := 122) (q_d dX6_checks_1 29 rfl) rfl rfl nx (by decide) rfl rfl ?_
          refine T.goto (tgt := 92) (q_d dX6_checks_1 30 rfl) (by decide) ?_
          refine ih _ (by omega) h2 (fun a h9 => ?_) (fun j => ?_)
          · funext z; rw [qI_ne (Or.inl h9), ha a h9]
          · by_cases q : j = 28 + c + 3
            · subst q; rw [qI_eq, if_pos (by omega), show 28 + c + 3 - 3 = 28 + c by omega]
            · rw [qI_ne (Or.inr q), hj]
              by_cases q2 : 31 + (c + 1) ≤ j ∧ j < 52
              · rw [if_pos q2, if_pos (by omega)]
              · rw [if_neg q2, if_neg (by omega)]
    refine T.aload_n (pc' := 1) (q_d dX6_checks_0 0 rfl) rfl rfl rfl ?_
    refine T.iload_n (pc' := 2) (q_d dX6_checks_0 1 rfl) rfl rfl rfl ?_
    refine T.callV (pc' := 5) (ci := 6) (q_d dX6_checks_0 2 rfl) rfl uX6_isSet wM_X6_78 (m_isSet hX hu) rfl rfl (by decide) rfl rfl (by decide) (Nat.le_of_ble_eq_true rfl) rfl rfl (fun _ => rfl) ?_
    rintro _ _ ⟨rfl, rfl⟩
    dsimp only [Option.toList, List.cons_append, List.nil_append, List.append_nil]
    refine T.if_eqN (tgt := 31) (pc' := 8) (q_d dX6_checks_0 3 rfl) rfl (by decide) (by split <;> decide) (fun h5 => ?_) (fun h5 => ?_)
    · exact absurd h5 (by rw [if_pos a1.1]; decide)
    · refine T.iload_n (pc' := 9) (q_d dX6_checks_0 4 rfl) rfl rfl rfl ?_
      refine T.iconst (pc' := 10) (v := nI 0) (q_d dX6_checks_0 5 rfl) rfl (by decide) ?_
      refine T.iconst (pc' := 11) (v := nI 3) (q_d dX6_checks_0 6 rfl) rfl (by decide) ?_
      refine T.callS (pc' := 14) (q_d dX6_checks_0 7 rfl) rfl uX6_in wM_X6_43 (m_in hv (by decide) (hi := 3) (by decide)) rfl rfl (by decide) (Nat.le_of_ble_eq_true rfl) rfl rfl (fun _ => rfl) ?_
      rintro _ _ ⟨rfl, rfl⟩
      dsimp only [Option.toList, List.cons_append, List.nil_append, List.append_nil]
      refine T.if_eqN (tgt := 31) (pc' := 17) (q_d dX6_checks_0 8 rfl) rfl (by decide) (by split <;> decide) (fun h14 => ?_) (fun h14 => ?_)
      · exact absurd h14 (by rw [if_pos e1]; decide)
      · refine T.iload_n (pc' := 18) (q_d dX6_checks_0 9 rfl) rfl rfl rfl ?_
        refine T.callS (pc' := 21) (q_d dX6_checks_0 10 rfl) rfl uX6_ones wM_X6_60 (m_ones (show u < 2 ^ 31 by omega)) rfl rfl (by decide) (Nat.le_of_ble_eq_true rfl) rfl rfl (fun _ => rfl) ?_
        rintro _ _ ⟨rfl, rfl⟩
        dsimp only [Option.toList, List.cons_append, List.nil_append, List.append_nil]
        refine T.aload_n (pc' := 22) (q_d dX6_checks_0 11 rfl) rfl rfl rfl ?_
        refine T.getR (pc' := 25) (ci := 6) (k0 := 0) (q_d dX6_checks_0 12 rfl) rfl rfl (by decide) rfl inX6 (by decide) rfl wF_X6_7 (rP hX.1 rfl) ?_
        refine T.bipush (pc' := 27) (v := nI 6) (q_d dX6_checks_0 13 rfl) rfl (by decide) ?_
        refine T.iald (pc' := 28) (q_d dX6_checks_0 14 rfl) rfl rfl (by decide) rfl (by omega) (by decide) (hX.2.1 6 (by decide)) ?_
        refine T.icmp_leN (tgt := 34) (pc' := 31) (q_d dX6_checks_0 15 rfl) rfl (by decide) (by omega) (by omega) (fun h28 => ?_) (fun h28 => ?_)
        · refine T.aload_n (pc' := 35) (q_d dX6_checks_0 18 rfl) rfl rfl rfl ?_
          refine T.getR (pc' := 38) (ci := 6) (k0 := 0) (q_d dX6_checks_0 19 rfl) rfl rfl (by decide) rfl inX6 (by decide) rfl wF_X6_7 (rP hX.1 rfl) ?_
          refine T.iconst (pc' := 39) (v := nI 1) (q_d dX6_checks_0 20 rfl) rfl (by decide) ?_
          refine T.iald (pc' := 40) (q_d dX6_checks_0 21 rfl) rfl rfl (by decide) rfl (by omega) (by decide) (hX.2.1 1 (by decide)) ?_
          refine T.iload_n (pc' := 41) (q_d dX6_checks_0 22 rfl) rfl rfl rfl ?_
          refine T.iconst (pc' := 42) (v := nI 4294967295) (q_d dX6_checks_0 23 rfl) rfl (by decide) ?_
          refine T.ixor (pc' := 43) (q_d dX6_checks_0 24 rfl) rfl (nN_xor _ _) ?_
          refine T.iand (pc' := 44) (q_d dX6_checks_0 25 rfl) rfl ((nN_and _ _).trans (by rw [ed])) ?_
          refine T.if_neN (tgt := 51) (pc' := 47) (q_d dX6_checks_0 26 rfl) rfl (by decide) (by omega) (fun h44 => ?_) (fun h44 => ?_)
          · refine T.iconst (pc' := 52) (v := nI 0) (q_d dX6_checks_0 29 rfl) rfl (by decide) ?_
            refine T.istore_n (pc' := 53) (q_d dX6_checks_0 30 rfl) rfl rfl (by decide) rfl rfl ?_
            refine T.aload_n (pc' := 54) (q_d dX6_checks_0 31 rfl) rfl rfl rfl ?_
            refine T.aload_n (pc' := 55) (q_d dX6_checks_0 32 rfl) rfl rfl rfl ?_
            refine T.getR (pc' := 58) (ci := 6) (k0 := 0) (q_d dX6_checks_0 33 rfl) rfl rfl (by decide) rfl inX6 (by decide) rfl wF_X6_7 (rP hX.1 rfl) ?_
            refine T.iconst (pc' := 59) (v := nI 1) (q_d dX6_checks_0 34 rfl) rfl (by decide) ?_
            refine T.iald (pc' := 60) (q_d dX6_checks_0 35 rfl) rfl rfl (by decide) rfl (by omega) (by decide) (hX.2.1 1 (by decide)) ?_
            refine T.iload_n (pc' := 61) (q_d dX6_checks_0 36 rfl) rfl rfl rfl ?_
            refine T.iload_n (pc' := 62) (q_d dX6_checks_0 37 rfl) rfl rfl rfl ?_
            refine T.callV (pc' := 65) (ci := 6) (q_d dX6_checks_0 38 rfl) rfl uX6_then wM_X6_84 (m_then hX w1 (Or.inr ⟨rfl, show v < 4 by omega⟩)) rfl rfl (by decide) rfl rfl (by decide) (Nat.le_of_ble_eq_true rfl) rfl rfl (fun _ => rfl) ?_
            rintro _ _ ⟨rfl, rfl⟩
            dsimp only [Option.toList, List.cons_append, List.nil_append, List.append_nil]
            refine T.istore (pc' := 67) (q_d dX6_checks_0 39 rfl) rfl (by decide) rfl rfl ?_
            refine T.aload_n (pc' := 68) (q_d dX6_checks_1 0 rfl) rfl rfl rfl ?_
            refine T.getR (pc' := 71) (ci := 6) (k0 := 0) (q_d dX6_checks_1 1 rfl) rfl rfl (by decide) rfl inX6 (by decide) rfl wF_X6_7 (rP hX.1 rfl) ?_
            refine T.iconst (pc' := 72) (v := nI 1) (q_d dX6_checks_1 2 rfl) rfl (by decide) ?_
            refine T.iald (pc' := 73) (q_d dX6_checks_1 3 rfl) rfl rfl (by decide) rfl (by omega) (by decide) (hX.2.1 1 (by decide)) ?_
            refine T.if_eqN (tgt := 85) (pc' := 76) (q_d dX6_checks_1 4 rfl) rfl (by decide) (by omega) (fun h73 => ?_) (fun h73 => ?_)
            · refine T.ldc (pc' := 87) (v := nI 4293967294) (q_d dX6_checks_1 9 rfl) rfl wN_X6_67 ?_
              refine T.iret (q_d dX6_checks_1 10 rfl) rfl rfl rfl ?_
              have hc : ¬ canR s u v := by
                first
                  | exact fun q => q.1 h73
                  | exact fun q => q.2.elim (fun z => h44 z) (fun z => z h82)
                  | exact absurd h77 (by decide)
                  | exact absurd rfl h77
              unfold chk
              rw [if_pos a1, if_neg hc]
              exact ⟨rfl, rfl, fun _ _ => rfl, hX.2.1⟩
            · refine T.iload_n (pc' := 77) (q_d dX6_checks_1 5 rfl) rfl rfl rfl ?_
              refine T.if_neN (tgt := 88) (pc' := 80) (q_d dX6_checks_1 6 rfl) rfl (by decide) (by decide) (fun h77 => ?_) (fun h77 => ?_)
              · refine T.bipush (pc' := 90) (v := nI 20) (q_d dX6_checks_1 11 rfl) rfl (by decide) ?_
                refine T.istore (pc' := 92) (q_d dX6_checks_1 12 rfl) rfl (by decide) rfl rfl ?_
                first
                  | exact absurd rfl h77
                  | exact absurd h77 (by decide)
                  | (have hc : canR s u v := ⟨h73, Or.inl h44⟩
                     have h := loop hc 21 M (Nat.le_refl _) rfl (fun _ _ => rfl) (fun j => by rw [if_neg (by omega)])
                     rw [if_pos h44] at h
                     exact h)
                  | (have hc : canR s u v := ⟨h73, Or.inr h82⟩
                     have h := loop hc 21 M (Nat.le_refl _) rfl (fun _ _ => rfl) (fun j => by rw [if_neg (by omega)])
                     rw [if_neg h44] at h
                     exact h)
              · refine T.iload (pc' := 82) (q_d dX6_checks_1 7 rfl) rfl rfl ?_
                refine T.if_neN (tgt := 88) (pc' := 85) (q_d dX6_checks_1 8 rfl) rfl (by decide) (by omega) (fun h82 => ?_) (fun h82 => ?_)
                · refine T.bipush (pc' := 90) (v := nI 20) (q_d dX6_checks_1 11 rfl) rfl (by decide) ?_
                  refine T.istore (pc' := 92) (q_d dX6_checks_1 12 rfl) rfl (by decide) rfl rfl ?_
                  first
                    | exact absurd rfl h77
                    | exact absurd h77 (by decide)
                    | (have hc : canR s u v := ⟨h73, Or.inl h44⟩
                       have h := loop hc 21 M (Nat.le_refl _) rfl (fun _ _ => rfl) (fun j => by rw [if_neg (by omega)])
                       rw [if_pos h44] at h
                       exact h)
                    | (have hc : canR s u v := ⟨h73, Or.inr h82⟩
                       have h := loop hc 21 M (Nat.le_refl _) rfl (fun _ _ => rfl) (fun j => by rw [if_neg (by omega)])
                       rw [if_neg h44] at h
                       exact h)
                · refine T.ldc (pc' := 87) (v := nI 4293967294) (q_d dX6_checks_1 9 rfl) rfl wN_X6_67 ?_
                  refine T.iret (q_d dX6_checks_1 10 rfl) rfl rfl rfl ?_
                  have hc : ¬ canR s u v := by
                    first
                      | exact fun q => q.1 h73
                      | exact fun q => q.2.elim (fun z => h44 z) (fun z => z h82)
                      | exact absurd h77 (by decide)
                      | exact absurd rfl h77
                  unfold chk
                  rw [if_pos a1, if_neg hc]
                  exact ⟨rfl, rfl, fun _ _ => rfl, hX.2.1⟩
          · refine T.iconst (pc' := 48) (v := nI 1) (q_d dX6_checks_0 27 rfl) rfl (by decide) ?_
            refine T.goto (tgt := 52) (q_d dX6_checks_0 28 rfl) (by decide) ?_
            refine T.istore_n (pc' := 53) (q_d dX6_checks_0 30 rfl) rfl rfl (by decide) rfl rfl ?_
            refine T.aload_n (pc' := 54) (q_d dX6_checks_0 31 rfl) rfl rfl rfl ?_
            refine T.aload_n (pc' := 55) (q_d dX6_checks_0 32 rfl) rfl rfl rfl ?_
            refine T.getR (pc' := 58) (ci := 6) (k0 := 0) (q_d dX6_checks_0 33 rfl) rfl rfl (by decide) rfl inX6 (by decide) rfl wF_X6_7 (rP hX.1 rfl) ?_
            refine T.iconst (pc' := 59) (v := nI 1) (q_d dX6_checks_0 34 rfl) rfl (by decide) ?_
            refine T.iald (pc' := 60) (q_d dX6_checks_0 35 rfl) rfl rfl (by decide) rfl (by omega) (by decide) (hX.2.1 1 (by decide)) ?_
            refine T.iload_n (pc' := 61) (q_d dX6_checks_0 36 rfl) rfl rfl rfl ?_
            refine T.iload_n (pc' := 62) (q_d dX6_checks_0 37 rfl) rfl rfl rfl ?_
            refine T.callV (pc' := 65) (ci := 6) (q_d dX6_checks_0 38 rfl) rfl uX6_then wM_X6_84 (m_then hX w1 (Or.inr ⟨rfl, show v < 4 by omega⟩)) rfl rfl (by decide) rfl rfl (by decide) (Nat.le_of_ble_eq_true rfl) rfl rfl (fun _ => rfl) ?_
            rintro _ _ ⟨rfl, rfl⟩
            dsimp only [Option.toList, List.cons_append, List.nil_append, List.append_nil]
            refine T.istore (pc' := 67) (q_d dX6_checks_0 39 rfl) rfl (by decide) rfl rfl ?_
            refine T.aload_n (pc' := 68) (q_d dX6_checks_1 0 rfl) rfl rfl rfl ?_
            refine T.getR (pc' := 71) (ci := 6) (k0 := 0) (q_d dX6_checks_1 1 rfl) rfl rfl (by decide) rfl inX6 (by decide) rfl wF_X6_7 (rP hX.1 rfl) ?_
            refine T.iconst (pc' := 72) (v := nI 1) (q_d dX6_checks_1 2 rfl) rfl (by decide) ?_
            refine T.iald (pc' := 73) (q_d dX6_checks_1 3 rfl) rfl rfl (by decide) rfl (by omega) (by decide) (hX.2.1 1 (by decide)) ?_
            refine T.if_eqN (tgt := 85) (pc' := 76) (q_d dX6_checks_1 4 rfl) rfl (by decide) (by omega) (fun h73 => ?_) (fun h73 => ?_)
            · refine T.ldc (pc' := 87) (v := nI 4293967294) (q_d dX6_checks_1 9 rfl) rfl wN_X6_67 ?_
              refine T.iret (q_d dX6_checks_1 10 rfl) rfl rfl rfl ?_
              have hc : ¬ canR s u v := by
                first
                  | exact fun q => q.1 h73
                  | exact fun q => q.2.elim (fun z => h44 z) (fun z => z h82)
                  | exact absurd h77 (by decide)
                  | exact absurd rfl h77
              unfold chk
              rw [if_pos a1, if_neg hc]
              exact ⟨rfl, rfl, fun _ _ => rfl, hX.2.1⟩
            · refine T.iload_n (pc' := 77) (q_d dX6_checks_1 5 rfl) rfl rfl rfl ?_
              refine T.if_neN (tgt := 88) (pc' := 80) (q_d dX6_checks_1 6 rfl) rfl (by decide) (by decide) (fun h77 => ?_) (fun h77 => ?_)
              · refine T.bipush (pc' := 90) (v := nI 20) (q_d dX6_checks_1 11 rfl) rfl (by decide) ?_
                refine T.istore (pc' := 92) (q_d dX6_checks_1 12 rfl) rfl (by decide) rfl rfl ?_
                first
                  | exact absurd rfl h77
                  | exact absurd h77 (by decide)
                  | (have hc : canR s u v := ⟨h73, Or.inl h44⟩
                     have h := loop hc 21 M (Nat.le_refl _) rfl (fun _ _ => rfl) (fun j => by rw [if_neg (by omega)])
                     rw [if_pos h44] at h
                     exact h)
                  | (have hc : canR s u v := ⟨h73, Or.inr h82⟩
                     have h := loop hc 21 M (Nat.le_refl _) rfl (fun _ _ => rfl) (fun j => by rw [if_neg (by omega)])
                     rw [if_neg h44] at h
                     exact h)
              · refine T.iload (pc' := 82) (q_d dX6_checks_1 7 rfl) rfl rfl ?_
                refine T.if_neN (tgt := 88) (pc' := 85) (q_d dX6_checks_1 8 rfl) rfl (by decide) (by omega) (fun h82 => ?_) (fun h82 => ?_)
                · refine T.bipush (pc' := 90) (v := nI 20) (q_d dX6_checks_1 11 rfl) rfl (by decide) ?_
                  refine T.istore (pc' := 92) (q_d dX6_checks_1 12 rfl) rfl (by decide) rfl rfl ?_
                  first
                    | exact absurd rfl h77
                    | exact absurd h77 (by decide)
                    | (have hc : canR s u v := ⟨h73, Or.inl h44⟩
                       have h := loop hc 21 M (Nat.le_refl _) rfl (fun _ _ => rfl) (fun j => by rw [if_neg (by omega)])
                       rw [if_pos h44] at h
                       exact h)
                    | (have hc : canR s u v := ⟨h73, Or.inr h82⟩
                       have h := loop hc 21 M (Nat.le_refl _) rfl (fun _ _ => rfl) (fun j => by rw [if_neg (by omega)])
                       rw [if_neg h44] at h
                       exact h)
                · refine T.ldc (pc' := 87) (v := nI 4293967294) (q_d dX6_checks_1 9 rfl) rfl wN_X6_67 ?_
                  refine T.iret (q_d dX6_checks_1 10 rfl) rfl rfl rfl ?_
                  have hc : ¬ canR s u v := by
                    first
                      | exact fun q => q.1 h73
                      | exact fun q => q.2.elim (fun z => h44 z) (fun z => z h82)
                      | exact absurd h77 (by decide)
                      | exact absurd rfl h77
                  unfold chk
                  rw [if_pos a1, if_neg hc]
                  exact ⟨rfl, rfl, fun _ _ => rfl, hX.2.1⟩
        · exact absurd a1.2.2 (by omega)
  · have fin : ∀ v' : Option Value, v' = some (.int (nI 4293967295)) → v' = some (.int (nI (chk s u v).1)) ∧ M.2 = M.2 ∧ (∀ a, a ≠ 1 → M.1 a = M.1 a) ∧ ∀ j, j < 52 → M.1 1 j = (chk s u v).2 j := by
      intro v' hv'
      unfold chk
      rw [if_neg a1]
      exact ⟨hv', rfl, fun _ _ => rfl, hX.2.1⟩
    by_cases a2 : u < 2 ^ s 0
    · by_cases a3 : v ≤ 3
      · have e1 : inS v 0 3 = true := e.mpr ⟨Nat.zero_le _, a3⟩
        refine T.aload_n (pc' := 1) (q_d dX6_checks_0 0 rfl) rfl rfl rfl ?_
        refine T.iload_n (pc' := 2) (q_d dX6_checks_0 1 rfl) rfl rfl rfl ?_
        refine T.callV (pc' := 5) (ci := 6) (q_d dX6_checks_0 2 rfl) rfl uX6_isSet wM_X6_78 (m_isSet hX hu) rfl rfl (by decide) rfl rfl (by decide) (Nat.le_of_ble_eq_true rfl) rfl rfl (fun _ => rfl) ?_
        rintro _ _ ⟨rfl, rfl⟩
        dsimp only [Option.toList, List.cons_append, List.nil_append, List.append_nil]
        refine T.if_eqN (tgt := 31) (pc' := 8) (q_d dX6_checks_0 3 rfl) rfl (by decide) (by split <;> decide) (fun h5 => ?_) (fun h5 => ?_)
        · exact absurd h5 (by rw [if_pos a2]; decide)
        · refine T.iload_n (pc' := 9) (q_d dX6_checks_0 4 rfl) rfl rfl rfl ?_
          refine T.iconst (pc' := 10) (v := nI 0) (q_d dX6_checks_0 5 rfl) rfl (by decide) ?_
          refine T.iconst (pc' := 11) (v := nI 3) (q_d dX6_checks_0 6 rfl) rfl (by decide) ?_
          refine T.callS (pc' := 14) (q_d dX6_checks_0 7 rfl) rfl uX6_in wM_X6_43 (m_in hv (by decide) (hi := 3) (by decide)) rfl rfl (by decide) (Nat.le_of_ble_eq_true rfl) rfl rfl (fun _ => rfl) ?_
          rintro _ _ ⟨rfl, rfl⟩
          dsimp only [Option.toList, List.cons_append, List.nil_append, List.append_nil]
          refine T.if_eqN (tgt := 31) (pc' := 17) (q_d dX6_checks_0 8 rfl) rfl (by decide) (by split <;> decide) (fun h14 => ?_) (fun h14 => ?_)
          · exact absurd h14 (by rw [if_pos e1]; decide)
          · refine T.iload_n (pc' := 18) (q_d dX6_checks_0 9 rfl) rfl rfl rfl ?_
            refine T.callS (pc' := 21) (q_d dX6_checks_0 10 rfl) rfl uX6_ones wM_X6_60 (m_ones (show u < 2 ^ 31 by omega)) rfl rfl (by decide) (Nat.le_of_ble_eq_true rfl) rfl rfl (fun _ => rfl) ?_
            rintro _ _ ⟨rfl, rfl⟩
            dsimp only [Option.toList, List.cons_append, List.nil_append, List.append_nil]
            refine T.aload_n (pc' := 22) (q_d dX6_checks_0 11 rfl) rfl rfl rfl ?_
            refine T.getR (pc' := 25) (ci := 6) (k0 := 0) (q_d dX6_checks_0 12 rfl) rfl rfl (by decide) rfl inX6 (by decide) rfl wF_X6_7 (rP hX.1 rfl) ?_
            refine T.bipush (pc' := 27) (v := nI 6) (q_d dX6_checks_0 13 rfl) rfl (by decide) ?_
            refine T.iald (pc' := 28) (q_d dX6_checks_0 14 rfl) rfl rfl (by decide) rfl (by omega) (by decide) (hX.2.1 6 (by decide)) ?_
            refine T.icmp_leN (tgt := 34) (pc' := 31) (q_d dX6_checks_0 15 rfl) rfl (by decide) (by omega) (by omega) (fun h28 => ?_) (fun h28 => ?_)
            · exact absurd ⟨a2, a3, by omega⟩ a1
            · refine T.ldc (pc' := 33) (v := nI 4293967295) (q_d dX6_checks_0 16 rfl) rfl wN_X6_47 ?_
              refine T.iret (q_d dX6_checks_0 17 rfl) rfl rfl rfl ?_
              exact fin _ rfl
      · have e1 : ¬ inS v 0 3 = true := fun q => a3 (e.mp q).2
        refine T.aload_n (pc' := 1) (q_d dX6_checks_0 0 rfl) rfl rfl rfl ?_
        refine T.iload_n (pc' := 2) (q_d dX6_checks_0 1 rfl) rfl rfl rfl ?_
        refine T.callV (pc' := 5) (ci := 6) (q_d dX6_checks_0 2 rfl) rfl uX6_isSet wM_X6_78 (m_isSet hX hu) rfl rfl (by decide) rfl rfl (by decide) (Nat.le_of_ble_eq_true rfl) rfl rfl (fun _ => rfl) ?_
        rintro _ _ ⟨rfl, rfl⟩
        dsimp only [Option.toList, List.cons_append, List.nil_append, List.append_nil]
        refine T.if_eqN (tgt := 31) (pc' := 8) (q_d dX6_checks_0 3 rfl) rfl (by decide) (by split <;> decide) (fun h5 => ?_) (fun h5 => ?_)
        · exact absurd h5 (by rw [if_pos a2]; decide)
        · refine T.iload_n (pc' := 9) (q_d dX6_checks_0 4 rfl) rfl rfl rfl ?_
          refine T.iconst (pc' := 10) (v := nI 0) (q_d dX6_checks_0 5 rfl) rfl (by decide) ?_
          refine T.iconst (pc' := 11) (v := nI 3) (q_d dX6_checks_0 6 rfl) rfl (by decide) ?_
          refine T.callS (pc' := 14) (q_d dX6_checks_0 7 rfl) rfl uX6_in wM_X6_43 (m_in hv (by decide) (hi := 3) (by decide)) rfl rfl (by decide) (Nat.le_of_ble_eq_true rfl) rfl rfl (fun _ => rfl) ?_
          rintro _ _ ⟨rfl, rfl⟩
          dsimp only [Option.toList, List.cons_append, List.nil_append, List.append_nil]
          refine T.if_eqN (tgt := 31) (pc' := 17) (q_d dX6_checks_0 8 rfl) rfl (by decide) (by split <;> decide) (fun h14 => ?_) (fun h14 => ?_)
          · refine T.ldc (pc' := 33) (v := nI 4293967295) (q_d dX6_checks_0 16 rfl) rfl wN_X6_47 ?_
            refine T.iret (q_d dX6_checks_0 17 rfl) rfl rfl rfl ?_
            exact fin _ rfl
          · exact absurd (if_neg e1) h14
    · refine T.aload_n (pc' := 1) (q_d dX6_checks_0 0 rfl) rfl rfl rfl ?_
      refine T.iload_n (pc' := 2) (q_d dX6_checks_0 1 rfl) rfl rfl rfl ?_
      refine T.callV (pc' := 5) (ci := 6) (q_d dX6_checks_0 2 rfl) rfl uX6_isSet wM_X6_78 (m_isSet hX hu) rfl rfl (by decide) rfl rfl (by decide) (Nat.le_of_ble_eq_true rfl) rfl rfl (fun _ => rfl) ?_
      rintro _ _ ⟨rfl, rfl⟩
      dsimp only [Option.toList, List.cons_append, List.nil_append, List.append_nil]
      refine T.if_eqN (tgt := 31) (pc' := 8) (q_d dX6_checks_0 3 rfl) rfl (by decide) (by split <;> decide) (fun h5 => ?_) (fun h5 => ?_)
      · refine T.ldc (pc' := 33) (v := nI 4293967295) (q_d dX6_checks_0 16 rfl) rfl wN_X6_47 ?_
        refine T.iret (q_d dX6_checks_0 17 rfl) rfl rfl rfl ?_
        exact fin _ rfl
      · exact absurd (if_neg a2) h5
theorem m_check (hX : RM M b s k was n t) (hb : b < 2 ^ 30) {u v : Nat} (hu : u < 4294967296) (hv : v < 4294967296) : Ct l hdM kM mX6_check [.ref 0, .int (nI u), .int (nI v)] M (OM (b + 1) (oCheck s k was n t u v)) := by
  refine Ct.of [some (.ref 0), some (.int (nI u)), some (.int (nI v))] (by decide +kernel) (fun h => absurd h (by decide)) (Nat.le_of_ble_eq_true rfl) rfl ?_
  rw [oCheck_chk]
  have hcv := chk_val s u v
  by_cases hs : 4293967294 ≤ (chk s u v).1
  · rw [if_pos hs]
    refine T.aload_n (pc' := 1) (q_d dX6_check_0 0 rfl) rfl rfl rfl ?_
    refine T.callV (pc' := 4) (ci := 6) (q_d dX6_check_0 1 rfl) rfl uX6_keeps wM_X6_53 (m_keeps hX.1) rfl rfl (by decide) rfl rfl (by decide) (Nat.le_of_ble_eq_true rfl) rfl rfl (fun _ => rfl) ?_
    rintro _ M2 ⟨rfl, f2, fa, f3⟩
    have hX2 : RM M2 b s k was n t := hX.sc ⟨by rw [f2], fa 1 (by decide), fa 2 (by decide), fa 5 (by decide), by rw [fa 0 (by decide)], by rw [fa 0 (by decide)]⟩
    dsimp only [Option.toList, List.cons_append, List.nil_append, List.append_nil]
    refine T.aload_n (pc' := 5) (q_d dX6_check_0 2 rfl) rfl rfl rfl ?_
    refine T.aload_n (pc' := 6) (q_d dX6_check_0 3 rfl) rfl rfl rfl ?_
    refine T.iload_n (pc' := 7) (q_d dX6_check_0 4 rfl) rfl rfl rfl ?_
    refine T.iload_n (pc' := 8) (q_d dX6_check_0 5 rfl) rfl rfl rfl ?_
    refine T.callV (pc' := 11) (ci := 6) (q_d dX6_check_0 6 rfl) rfl uX6_checks wM_X6_88 (m_checks hX2 hb hu hv) rfl rfl (by decide) rfl rfl (by decide) (Nat.le_of_ble_eq_true rfl) rfl rfl (fun _ => rfl) ?_
    rintro _ M3 ⟨rfl, g2, ga, g1⟩
    have hc2 : (chk s u v).2 = s := by
      rcases hcv with ⟨-, q⟩ | ⟨-, q⟩ | ⟨q, -⟩
      · exact q
      · exact q
      · omega
    have hX3 : RM M3 b s k was n t := ⟨by rw [g2]; exact hX2.1, fun j hj => by rw [g1 j hj, hc2], hX2.2.2.1, by rw [ga 0 (by decide)]; exact hX2.2.2.2.1, hX2.2.2.2.2.1, fun i hi => ⟨fun j hj => by rw [ga 2 (by decide)]; exact (hX2.2.2.2.2.2.1 i hi).1 j hj, (hX2.2.2.2.2.2.1 i hi).2⟩, by rw [ga 0 (by decide)]; exact hX2.2.2.2.2.2.2.1, fun i hi => by rw [ga 5 (by decide)]; exact hX2.2.2.2.2.2.2.2.1 i hi, hX2.2.2.2.2.2.2.2.2⟩
    dsimp only [Option.toList, List.cons_append, List.nil_append, List.append_nil]
    refine T.callV (pc' := 14) (ci := 6) (q_d dX6_check_0 7 rfl) rfl uX6_acted wM_X6_56 (m_acted0 (by omega)) rfl rfl (by decide) rfl rfl (by decide) (Nat.le_of_ble_eq_true rfl) rfl rfl (fun _ => rfl) ?_
    rintro _ _ ⟨rfl, rfl⟩
    dsimp only [Option.toList, List.cons_append, List.nil_append, List.append_nil]
    refine T.iret (q_d dX6_check_0 8 rfl) rfl rfl rfl ?_
    exact ⟨rfl, hX3.le (Nat.le_succ _)⟩
  · rw [if_neg hs]
    obtain ⟨c1, c2, c3, c4, c5, c6⟩ : (chk s u v).1 ≤ 7 ∧ canR s u v ∧ (chk s u v).2 = sRound s u v ∧ u < 2 ^ s 0 ∧ v ≤ 3 ∧ ones u ≤ s 6 := by
      rcases hcv with ⟨q, -⟩ | ⟨q, -⟩ | q
      · omega
      · omega
      · exact q
    refine T.aload_n (pc' := 1) (q_d dX6_check_0 0 rfl) rfl rfl rfl ?_
    refine T.callV (pc' := 4) (ci := 6) (q_d dX6_check_0 1 rfl) rfl uX6_keeps wM_X6_53 (m_keeps hX.1) rfl rfl (by decide) rfl rfl (by decide) (Nat.le_of_ble_eq_true rfl) rfl rfl (fun _ => rfl) ?_
    rintro _ M2 ⟨rfl, f2, fa, f3⟩
    have hX2 : RM M2 b s k was n t := hX.sc ⟨by rw [f2], fa 1 (by decide), fa 2 (by decide), fa 5 (by decide), by rw [fa 0 (by decide)], by rw [fa 0 (by decide)]⟩
    dsimp only [Option.toList, List.cons_append, List.nil_append, List.append_nil]
    refine T.aload_n (pc' := 5) (q_d dX6_check_0 2 rfl) rfl rfl rfl ?_
    refine T.aload_n (pc' := 6) (q_d dX6_check_0 3 rfl) rfl rfl rfl ?_
    refine T.iload_n (pc' := 7) (q_d dX6_check_0 4 rfl) rfl rfl rfl ?_
    refine T.iload_n (pc' := 8) (q_d dX6_check_0 5 rfl) rfl rfl rfl ?_
    refine T.callV (pc' := 11) (ci := 6) (q_d dX6_check_0 6 rfl) rfl uX6_checks wM_X6_88 (m_checks hX2 hb hu hv) rfl rfl (by decide) rfl rfl (by decide) (Nat.le_of_ble_eq_true rfl) rfl rfl (fun _ => rfl) ?_
    rintro _ M3 ⟨rfl, g2, ga, g1⟩
    dsimp only [Option.toList, List.cons_append, List.nil_append, List.append_nil]
    refine T.callV (pc' := 14) (ci := 6) (q_d dX6_check_0 7 rfl) rfl uX6_acted wM_X6_56 (m_actedR (s' := (chk s u v).2) hX (by rw [g2]; exact hX2.1) (by rw [ga 2 (by decide), fa 2 (by decide)]) (by rw [ga 5 (by decide), fa 5 (by decide)]) (by rw [ga 0 (by decide), fa 0 (by decide)]) (by rw [ga 0 (by decide), fa 0 (by decide)]) (fun j hj => by rw [ga 3 (by decide), f3 j hj]; exact hX.2.1 j hj) g1 (by rw [c3]; exact hX.2.2.1.round c2) (Nat.le_succ b) (show (chk s u v).1 < 2 ^ 31 by omega)) rfl rfl (by decide) rfl rfl (by decide) (Nat.le_of_ble_eq_true rfl) rfl rfl (fun _ => rfl) ?_
    rintro _ M4 ⟨rfl, hO⟩
    dsimp only [Option.toList, List.cons_append, List.nil_append, List.append_nil]
    refine T.iret (q_d dX6_check_0 8 rfl) rfl rfl rfl ?_
    exact ⟨rfl, hO⟩
theorem m_placeOf (hX : RM M b s k was n t) {u v : Nat} (hu : u < 4294967296) (hv : v < 4294967296) : Ct l hdM kM mX6_placeOf [.ref 0, .int (nI u), .int (nI v)] M (OM b (qPlaceOf s u v, (s, k, was, n, t))) := by
  refine Ct.of [some (.ref 0), some (.int (nI u)), some (.int (nI v))] (by decide +kernel) (fun h => absurd h (by decide)) (Nat.le_of_ble_eq_true rfl) rfl ?_
  have w7 := hX.2.2.1.1
  have w0 := p2_le w7
  have w1 := hX.2.2.1.2.1
  have e := inS_iff (lo := 0) (hi := 4) hv (by decide) (by decide)
  by_cases a1 : u < s 0
  · by_cases a2 : v ≤ 4
    · have e1 : inS v 0 4 = true := e.mpr ⟨Nat.zero_le _, a2⟩
      refine T.aload_n (pc' := 1) (q_d dX6_placeOf_0 0 rfl) rfl rfl rfl ?_
      refine T.iload_n (pc' := 2) (q_d dX6_placeOf_0 1 rfl) rfl rfl rfl ?_
      refine T.callV (pc' := 5) (ci := 6) (q_d dX6_placeOf_0 2 rfl) rfl uX6_isPlace wM_X6_63 (m_isPlace hX hu) rfl rfl (by decide) rfl rfl (by decide) (Nat.le_of_ble_eq_true rfl) rfl rfl (fun _ => rfl) ?_
      rintro _ _ ⟨rfl, rfl⟩
      dsimp only [Option.toList, List.cons_append, List.nil_append, List.append_nil]
      refine T.if_eqN (tgt := 17) (pc' := 8) (q_d dX6_placeOf_0 3 rfl) rfl (by decide) (by split <;> decide) (fun h5 => ?_) (fun h5 => ?_)
      · exact absurd h5 (by rw [if_pos a1]; decide)
      · refine T.iload_n (pc' := 9) (q_d dX6_placeOf_0 4 rfl) rfl rfl rfl ?_
        refine T.iconst (pc' := 10) (v := nI 0) (q_d dX6_placeOf_0 5 rfl) rfl (by decide) ?_
        refine T.iconst (pc' := 11) (v := nI 4) (q_d dX6_placeOf_0 6 rfl) rfl (by decide) ?_
        refine T.callS (pc' := 14) (q_d dX6_placeOf_0 7 rfl) rfl uX6_in wM_X6_43 (m_in hv (by decide) (hi := 4) (by decide)) rfl rfl (by decide) (Nat.le_of_ble_eq_true rfl) rfl rfl (fun _ => rfl) ?_
        rintro _ _ ⟨rfl, rfl⟩
        dsimp only [Option.toList, List.cons_append, List.nil_append, List.append_nil]
        refine T.if_neN (tgt := 20) (pc' := 17) (q_d dX6_placeOf_0 8 rfl) rfl (by decide) (by split <;> decide) (fun h14 => ?_) (fun h14 => ?_)
        · refine T.iload_n (pc' := 21) (q_d dX6_placeOf_0 11 rfl) rfl rfl rfl ?_
          rcases (by omega : v = 0 ∨ v = 1 ∨ v = 2 ∨ v = 3 ∨ v = 4) with rfl | rfl | rfl | rfl | rfl
          · refine T.tableIn (tgt := 52) (q_d dX6_placeOf_0 12 rfl) (by decide +kernel) (by decide +kernel) (off := 31) (by decide +kernel) (by decide) ?_
            refine T.aload_n (pc' := 53) (q_d dX6_placeOf_0 13 rfl) rfl rfl rfl ?_
            refine T.getR (pc' := 56) (ci := 6) (k0 := 0) (q_d dX6_placeOf_0 14 rfl) rfl rfl (by decide) rfl inX6 (by decide) rfl wF_X6_7 (rP hX.1 rfl) ?_
            refine T.bipush (pc' := 58) (v := nI 7) (q_d dX6_placeOf_0 15 rfl) rfl (by decide) ?_
            refine T.iload_n (pc' := 59) (q_d dX6_placeOf_0 16 rfl) rfl rfl rfl ?_
            refine T.iadd (pc' := 60) (q_d dX6_placeOf_0 17 rfl) rfl (nI_add _ _) ?_
            refine T.iald (pc' := 61) (q_d dX6_placeOf_0 18 rfl) rfl rfl (by decide) rfl (by omega) (by decide) (hX.2.1 (7 + u) (by omega)) ?_
            refine T.iret (q_d dX6_placeOf_0 19 rfl) rfl rfl rfl ?_
            exact ⟨by simp [qPlaceOf, a1], hX⟩
          · refine T.tableIn (tgt := 62) (q_d dX6_placeOf_0 12 rfl) (by decide +kernel) (by decide +kernel) (off := 41) (by decide +kernel) (by decide) ?_
            refine T.aload_n (pc' := 63) (q_d dX6_placeOf_0 20 rfl) rfl rfl rfl ?_
            refine T.getR (pc' := 66) (ci := 6) (k0 := 0) (q_d dX6_placeOf_0 21 rfl) rfl rfl (by decide) rfl inX6 (by decide) rfl wF_X6_7 (rP hX.1 rfl) ?_
            refine T.bipush (pc' := 68) (v := nI 14) (q_d dX6_placeOf_0 22 rfl) rfl (by decide) ?_
            refine T.iload_n (pc' := 69) (q_d dX6_placeOf_0 23 rfl) rfl rfl rfl ?_
            refine T.iadd (pc' := 70) (q_d dX6_placeOf_0 24 rfl) rfl (nI_add _ _) ?_
            refine T.iald (pc' := 71) (q_d dX6_placeOf_0 25 rfl) rfl rfl (by decide) rfl (by omega) (by decide) (hX.2.1 (14 + u) (by omega)) ?_
            refine T.iret (q_d dX6_placeOf_0 26 rfl) rfl rfl rfl ?_
            exact ⟨by simp [qPlaceOf, a1], hX⟩
          · refine T.tableIn (tgt := 72) (q_d dX6_placeOf_0 12 rfl) (by decide +kernel) (by decide +kernel) (off := 51) (by decide +kernel) (by decide) ?_
            refine T.aload_n (pc' := 73) (q_d dX6_placeOf_0 27 rfl) rfl rfl rfl ?_
            refine T.getR (pc' := 76) (ci := 6) (k0 := 0) (q_d dX6_placeOf_0 28 rfl) rfl rfl (by decide) rfl inX6 (by decide) rfl wF_X6_7 (rP hX.1 rfl) ?_
            refine T.bipush (pc' := 78) (v := nI 21) (q_d dX6_placeOf_0 29 rfl) rfl (by decide) ?_
            refine T.iload_n (pc' := 79) (q_d dX6_placeOf_0 30 rfl) rfl rfl rfl ?_
            refine T.iadd (pc' := 80) (q_d dX6_placeOf_0 31 rfl) rfl (nI_add _ _) ?_
            refine T.iald (pc' := 81) (q_d dX6_placeOf_0 32 rfl) rfl rfl (by decide) rfl (by omega) (by decide) (hX.2.1 (21 + u) (by omega)) ?_
            refine T.iret (q_d dX6_placeOf_0 33 rfl) rfl rfl rfl ?_
            exact ⟨by simp [qPlaceOf, a1], hX⟩
          · refine T.tableIn (tgt := 82) (q_d dX6_placeOf_0 12 rfl) (by decide +kernel) (by decide +kernel) (off := 61) (by decide +kernel) (by decide) ?_
            refine T.aload_n (pc' := 83) (q_d dX6_placeOf_0 34 rfl) rfl rfl rfl ?_
            refine T.iload_n (pc' := 84) (q_d dX6_placeOf_0 35 rfl) rfl rfl rfl ?_
            refine T.iconst (pc' := 85) (v := nI 0) (q_d dX6_placeOf_0 36 rfl) rfl (by decide) ?_
            refine T.callV (pc' := 88) (ci := 6) (q_d dX6_placeOf_0 37 rfl) rfl uX6_goes wM_X6_71 (m_goes hX a1) rfl rfl (by decide) rfl rfl (by decide) (Nat.le_of_ble_eq_true rfl) rfl rfl (fun _ => rfl) ?_
            rintro _ _ ⟨rfl, rfl⟩
            dsimp only [Option.toList, List.cons_append, List.nil_append, List.append_nil]
            refine T.iret (q_d dX6_placeOf_0 38 rfl) rfl rfl rfl ?_
            exact ⟨by simp [qPlaceOf, a1], hX⟩
          · refine T.tableOut (tgt := 89) (q_d dX6_placeOf_0 12 rfl) (Or.inr (by decide +kernel)) (by decide) ?_
            refine T.aload_n (pc' := 90) (q_d dX6_placeOf_0 39 rfl) rfl rfl rfl ?_
            refine T.getR (pc' := 93) (ci := 6) (k0 := 0) (q_d dX6_placeOf_1 0 rfl) rfl rfl (by decide) rfl inX6 (by decide) rfl wF_X6_7 (rP hX.1 rfl) ?_
            refine T.iconst (pc' := 94) (v := nI 1) (q_d dX6_placeOf_1 1 rfl) rfl (by decide) ?_
            refine T.iald (pc' := 95) (q_d dX6_placeOf_1 2 rfl) rfl rfl (by decide) rfl (by omega) (by decide) (hX.2.1 1 (by decide)) ?_
            refine T.iload_n (pc' := 96) (q_d dX6_placeOf_1 3 rfl) rfl rfl rfl ?_
            refine T.ishr (pc' := 97) (q_d dX6_placeOf_1 4 rfl) rfl (nN_shr (by omega) (by omega)) ?_
            refine T.iconst (pc' := 98) (v := nI 1) (q_d dX6_placeOf_1 5 rfl) rfl (by decide) ?_
            refine T.iand (pc' := 99) (q_d dX6_placeOf_1 6 rfl) rfl (nN_and _ _) ?_
            refine T.iret (q_d dX6_placeOf_1 7 rfl) rfl rfl rfl ?_
            exact ⟨by simp [qPlaceOf, a1], hX⟩
        · exact absurd h14 (by rw [if_pos e1]; decide)
    · have e1 : ¬ inS v 0 4 = true := fun q => a2 (e.mp q).2
      refine T.aload_n (pc' := 1) (q_d dX6_placeOf_0 0 rfl) rfl rfl rfl ?_
      refine T.iload_n (pc' := 2) (q_d dX6_placeOf_0 1 rfl) rfl rfl rfl ?_
      refine T.callV (pc' := 5) (ci := 6) (q_d dX6_placeOf_0 2 rfl) rfl uX6_isPlace wM_X6_63 (m_isPlace hX hu) rfl rfl (by decide) rfl rfl (by decide) (Nat.le_of_ble_eq_true rfl) rfl rfl (fun _ => rfl) ?_
      rintro _ _ ⟨rfl, rfl⟩
      dsimp only [Option.toList, List.cons_append, List.nil_append, List.append_nil]
      refine T.if_eqN (tgt := 17) (pc' := 8) (q_d dX6_placeOf_0 3 rfl) rfl (by decide) (by split <;> decide) (fun h5 => ?_) (fun h5 => ?_)
      · exact absurd h5 (by rw [if_pos a1]; decide)
      · refine T.iload_n (pc' := 9) (q_d dX6_placeOf_0 4 rfl) rfl rfl rfl ?_
        refine T.iconst (pc' := 10) (v := nI 0) (q_d dX6_placeOf_0 5 rfl) rfl (by decide) ?_
        refine T.iconst (pc' := 11) (v := nI 4) (q_d dX6_placeOf_0 6 rfl) rfl (by decide) ?_
        refine T.callS (pc' := 14) (q_d dX6_placeOf_0 7 rfl) rfl uX6_in wM_X6_43 (m_in hv (by decide) (hi := 4) (by decide)) rfl rfl (by decide) (Nat.le_of_ble_eq_true rfl) rfl rfl (fun _ => rfl) ?_
        rintro _ _ ⟨rfl, rfl⟩
        dsimp only [Option.toList, List.cons_append, List.nil_append, List.append_nil]
        refine T.if_neN (tgt := 20) (pc' := 17) (q_d dX6_placeOf_0 8 rfl) rfl (by decide) (by split <;> decide) (fun h14 => ?_) (fun h14 => ?_)
        · exact absurd (if_neg e1) h14
        · refine T.ldc (pc' := 19) (v := nI 4293967295) (q_d dX6_placeOf_0 9 rfl) rfl wN_X6_47 ?_
          refine T.iret (q_d dX6_placeOf_0 10 rfl) rfl rfl rfl ?_
          exact ⟨by unfold qPlaceOf; rw [if_pos a1, if_neg (by omega), if_neg (by omega), if_neg (by omega), if_neg (by omega), if_neg (by omega)], hX⟩
  · refine T.aload_n (pc' := 1) (q_d dX6_placeOf_0 0 rfl) rfl rfl rfl ?_
    refine T.iload_n (pc' := 2) (q_d dX6_placeOf_0 1 rfl) rfl rfl rfl ?_
    refine T.callV (pc' := 5) (ci := 6) (q_d dX6_placeOf_0 2 rfl) rfl uX6_isPlace wM_X6_63 (m_isPlace hX hu) rfl rfl (by decide) rfl rfl (by decide) (Nat.le_of_ble_eq_true rfl) rfl rfl (fun _ => rfl) ?_
    rintro _ _ ⟨rfl, rfl⟩
    dsimp only [Option.toList, List.cons_append, List.nil_append, List.append_nil]
    refine T.if_eqN (tgt := 17) (pc' := 8) (q_d dX6_placeOf_0 3 rfl) rfl (by decide) (by split <;> decide) (fun h5 => ?_) (fun h5 => ?_)
    · refine T.ldc (pc' := 19) (v := nI 4293967295) (q_d dX6_placeOf_0 9 rfl) rfl wN_X6_47 ?_
      refine T.iret (q_d dX6_placeOf_0 10 rfl) rfl rfl rfl ?_
      exact ⟨by unfold qPlaceOf; rw [if_neg a1], hX⟩
    · exact absurd (if_neg a1) h5
theorem m_roundOf (hX : RM M b s k was n t) (hb : b < 2 ^ 30) {u v : Nat} (hu : u < 4294967296) (hv : v < 4294967296) : Ct l hdM kM mX6_roundOf [.ref 0, .int (nI u), .int (nI v)] M (OM b (qRoundOf s u v, (s, k, was, n, t))) := by
  refine Ct.of [some (.ref 0), some (.int (nI u)), some (.int (nI v))] (by decide +kernel) (fun h => absurd h (by decide)) (Nat.le_of_ble_eq_true rfl) rfl ?_
  have w2 := hX.2.2.1.2.2.1
  have e := inS_iff (lo := 0) (hi := 7) hu (by decide) (by decide)
  have e' := inS_iff (lo := 0) (hi := 2) hv (by decide) (by decide)
  by_cases a1 : u ≤ 7
  · have z1 : inS u 0 7 = true := e.mpr ⟨Nat.zero_le _, a1⟩
    by_cases a2 : v ≤ 2
    · have z2 : inS v 0 2 = true := e'.mpr ⟨Nat.zero_le _, a2⟩
      refine T.iload_n (pc' := 1) (q_d dX6_roundOf_0 0 rfl) rfl rfl rfl ?_
      refine T.iconst (pc' := 2) (v := nI 0) (q_d dX6_roundOf_0 1 rfl) rfl (by decide) ?_
      refine T.bipush (pc' := 4) (v := nI 7) (q_d dX6_roundOf_0 2 rfl) rfl (by decide) ?_
      refine T.callS (pc' := 7) (q_d dX6_roundOf_0 3 rfl) rfl uX6_in wM_X6_43 (m_in hu (by decide) (hi := 7) (by decide)) rfl rfl (by decide) (Nat.le_of_ble_eq_true rfl) rfl rfl (fun _ => rfl) ?_
      rintro _ _ ⟨rfl, rfl⟩
      dsimp only [Option.toList, List.cons_append, List.nil_append, List.append_nil]
      refine T.if_eqN (tgt := 19) (pc' := 10) (q_d dX6_roundOf_0 4 rfl) rfl (by decide) (by split <;> decide) (fun h7 => ?_) (fun h7 => ?_)
      · exact absurd h7 (by rw [if_pos z1]; decide)
      · refine T.iload_n (pc' := 11) (q_d dX6_roundOf_0 5 rfl) rfl rfl rfl ?_
        refine T.iconst (pc' := 12) (v := nI 0) (q_d dX6_roundOf_0 6 rfl) rfl (by decide) ?_
        refine T.iconst (pc' := 13) (v := nI 2) (q_d dX6_roundOf_0 7 rfl) rfl (by decide) ?_
        refine T.callS (pc' := 16) (q_d dX6_roundOf_0 8 rfl) rfl uX6_in wM_X6_43 (m_in hv (by decide) (hi := 2) (by decide)) rfl rfl (by decide) (Nat.le_of_ble_eq_true rfl) rfl rfl (fun _ => rfl) ?_
        rintro _ _ ⟨rfl, rfl⟩
        dsimp only [Option.toList, List.cons_append, List.nil_append, List.append_nil]
        refine T.if_neN (tgt := 22) (pc' := 19) (q_d dX6_roundOf_0 9 rfl) rfl (by decide) (by split <;> decide) (fun h16 => ?_) (fun h16 => ?_)
        · refine T.iload_n (pc' := 23) (q_d dX6_roundOf_0 12 rfl) rfl rfl rfl ?_
          refine T.aload_n (pc' := 24) (q_d dX6_roundOf_0 13 rfl) rfl rfl rfl ?_
          refine T.getR (pc' := 27) (ci := 6) (k0 := 0) (q_d dX6_roundOf_0 14 rfl) rfl rfl (by decide) rfl inX6 (by decide) rfl wF_X6_7 (rP hX.1 rfl) ?_
          refine T.iconst (pc' := 28) (v := nI 2) (q_d dX6_roundOf_0 15 rfl) rfl (by decide) ?_
          refine T.iald (pc' := 29) (q_d dX6_roundOf_0 16 rfl) rfl rfl (by decide) rfl (by omega) (by decide) (hX.2.1 2 (by decide)) ?_
          refine T.icmp_geN (tgt := 48) (pc' := 32) (q_d dX6_roundOf_0 17 rfl) rfl (by decide) (by omega) (by omega) (fun h29 => ?_) (fun h29 => ?_)
          · refine T.ldc (pc' := 50) (v := nI 4293967292) (q_d dX6_roundOf_0 29 rfl) rfl wN_X6_91 ?_
            refine T.iret (q_d dX6_roundOf_0 30 rfl) rfl rfl rfl ?_
            refine ⟨?_, hX⟩
            unfold qRoundOf
            rw [if_pos ⟨a1, a2⟩]
            first
              | (rw [if_pos (by omega)]; done)
              | (rw [if_neg (by omega)]; done)
          · refine T.aload_n (pc' := 33) (q_d dX6_roundOf_0 18 rfl) rfl rfl rfl ?_
            refine T.getR (pc' := 36) (ci := 6) (k0 := 0) (q_d dX6_roundOf_0 19 rfl) rfl rfl (by decide) rfl inX6 (by decide) rfl wF_X6_7 (rP hX.1 rfl) ?_
            refine T.bipush (pc' := 38) (v := nI 28) (q_d dX6_roundOf_0 20 rfl) rfl (by decide) ?_
            refine T.iconst (pc' := 39) (v := nI 3) (q_d dX6_roundOf_0 21 rfl) rfl (by decide) ?_
            refine T.iload_n (pc' := 40) (q_d dX6_roundOf_0 22 rfl) rfl rfl rfl ?_
            refine T.imul (pc' := 41) (q_d dX6_roundOf_0 23 rfl) rfl (pk_mul _ _) ?_
            refine T.iadd (pc' := 42) (q_d dX6_roundOf_0 24 rfl) rfl (nI_add _ _) ?_
            refine T.iload_n (pc' := 43) (q_d dX6_roundOf_0 25 rfl) rfl rfl rfl ?_
            refine T.iadd (pc' := 44) (q_d dX6_roundOf_0 26 rfl) rfl (nI_add _ _) ?_
            refine T.iald (pc' := 45) (q_d dX6_roundOf_0 27 rfl) rfl rfl (by decide) rfl (by omega) (by decide) (hX.2.1 (28 + 3 * u + v) (by omega)) ?_
            refine T.goto (tgt := 50) (q_d dX6_roundOf_0 28 rfl) (by decide) ?_
            refine T.iret (q_d dX6_roundOf_0 30 rfl) rfl rfl rfl ?_
            refine ⟨?_, hX⟩
            unfold qRoundOf
            rw [if_pos ⟨a1, a2⟩]
            first
              | (rw [if_pos (by omega)]; done)
              | (rw [if_neg (by omega)]; done)
        · exact absurd h16 (by rw [if_pos z2]; decide)
    · have z2 : ¬ inS v 0 2 = true := fun q => a2 (e'.mp q).2
      refine T.iload_n (pc' := 1) (q_d dX6_roundOf_0 0 rfl) rfl rfl rfl ?_
      refine T.iconst (pc' := 2) (v := nI 0) (q_d dX6_roundOf_0 1 rfl) rfl (by decide) ?_
      refine T.bipush (pc' := 4) (v := nI 7) (q_d dX6_roundOf_0 2 rfl) rfl (by decide) ?_
      refine T.callS (pc' := 7) (q_d dX6_roundOf_0 3 rfl) rfl uX6_in wM_X6_43 (m_in hu (by decide) (hi := 7) (by decide)) rfl rfl (by decide) (Nat.le_of_ble_eq_true rfl) rfl rfl (fun _ => rfl) ?_
      rintro _ _ ⟨rfl, rfl⟩
      dsimp only [Option.toList, List.cons_append, List.nil_append, List.append_nil]
      refine T.if_eqN (tgt := 19) (pc' := 10) (q_d dX6_roundOf_0 4 rfl) rfl (by decide) (by split <;> decide) (fun h7 => ?_) (fun h7 => ?_)
      · exact absurd h7 (by rw [if_pos z1]; decide)
      · refine T.iload_n (pc' := 11) (q_d dX6_roundOf_0 5 rfl) rfl rfl rfl ?_
        refine T.iconst (pc' := 12) (v := nI 0) (q_d dX6_roundOf_0 6 rfl) rfl (by decide) ?_
        refine T.iconst (pc' := 13) (v := nI 2) (q_d dX6_roundOf_0 7 rfl) rfl (by decide) ?_
        refine T.callS (pc' := 16) (q_d dX6_roundOf_0 8 rfl) rfl uX6_in wM_X6_43 (m_in hv (by decide) (hi := 2) (by decide)) rfl rfl (by decide) (Nat.le_of_ble_eq_true rfl) rfl rfl (fun _ => rfl) ?_
        rintro _ _ ⟨rfl, rfl⟩
        dsimp only [Option.toList, List.cons_append, List.nil_append, List.append_nil]
        refine T.if_neN (tgt := 22) (pc' := 19) (q_d dX6_roundOf_0 9 rfl) rfl (by decide) (by split <;> decide) (fun h16 => ?_) (fun h16 => ?_)
        · exact absurd (if_neg z2) h16
        · refine T.ldc (pc' := 21) (v := nI 4293967295) (q_d dX6_roundOf_0 10 rfl) rfl wN_X6_47 ?_
          refine T.iret (q_d dX6_roundOf_0 11 rfl) rfl rfl rfl ?_
          exact ⟨by unfold qRoundOf; rw [if_neg (fun q => a2 q.2)], hX⟩
  · have z1 : ¬ inS u 0 7 = true := fun q => a1 (e.mp q).2
    refine T.iload_n (pc' := 1) (q_d dX6_roundOf_0 0 rfl) rfl rfl rfl ?_
    refine T.iconst (pc' := 2) (v := nI 0) (q_d dX6_roundOf_0 1 rfl) rfl (by decide) ?_
    refine T.bipush (pc' := 4) (v := nI 7) (q_d dX6_roundOf_0 2 rfl) rfl (by decide) ?_
    refine T.callS (pc' := 7) (q_d dX6_roundOf_0 3 rfl) rfl uX6_in wM_X6_43 (m_in hu (by decide) (hi := 7) (by decide)) rfl rfl (by decide) (Nat.le_of_ble_eq_true rfl) rfl rfl (fun _ => rfl) ?_
    rintro _ _ ⟨rfl, rfl⟩
    dsimp only [Option.toList, List.cons_append, List.nil_append, List.append_nil]
    refine T.if_eqN (tgt := 19) (pc' := 10) (q_d dX6_roundOf_0 4 rfl) rfl (by decide) (by split <;> decide) (fun h7 => ?_) (fun h7 => ?_)
    · refine T.ldc (pc' := 21) (v := nI 4293967295) (q_d dX6_roundOf_0 10 rfl) rfl wN_X6_47 ?_
      refine T.iret (q_d dX6_roundOf_0 11 rfl) rfl rfl rfl ?_
      exact ⟨by unfold qRoundOf; rw [if_neg (fun q => a1 q.1)], hX⟩
    · exact absurd (if_neg z1) h7
theorem m_behind (hX : RM M b s k was n t) {u v w : Nat} (hu : u < 4294967296) (hv : v < 4294967296) (hw9 : w < 4294967296) : Ct l hdM kM mX6_behind [.ref 0, .int (nI u), .int (nI v), .int (nI w)] M (OM b (qBehind s u v w, (s, k, was, n, t))) := by
  refine Ct.of [some (.ref 0), some (.int (nI u)), some (.int (nI v)), some (.int (nI w))] (by decide +kernel) (fun h => absurd h (by decide)) (Nat.le_of_ble_eq_true rfl) rfl ?_
  have e := inS_m1 hw9
  by_cases a1 : u < 2 ^ s 0
  · by_cases a2 : v < 2 ^ s 0
    · by_cases a3 : w = 4294967295 ∨ w ≤ 3
      · have z3 := e.mpr a3
        have er : qBehind s u v w = thn s u v (if w = 4294967295 then 4 else w) := by unfold qBehind; rw [if_pos (show (u < 2 ^ s 0 ∧ v < 2 ^ s 0) ∧ (w = 4294967295 ∨ w ≤ 3) from ⟨⟨a1, a2⟩, a3⟩)]
        refine T.aload_n (pc' := 1) (q_d dX6_behind_0 0 rfl) rfl rfl rfl ?_
        refine T.iload_n (pc' := 2) (q_d dX6_behind_0 1 rfl) rfl rfl rfl ?_
        refine T.callV (pc' := 5) (ci := 6) (q_d dX6_behind_0 2 rfl) rfl uX6_isSet wM_X6_78 (m_isSet hX hu) rfl rfl (by decide) rfl rfl (by decide) (Nat.le_of_ble_eq_true rfl) rfl rfl (fun _ => rfl) ?_
        rintro _ _ ⟨rfl, rfl⟩
        dsimp only [Option.toList, List.cons_append, List.nil_append, List.append_nil]
        refine T.if_eqN (tgt := 35) (pc' := 8) (q_d dX6_behind_0 3 rfl) rfl (by decide) (by split <;> decide) (fun h5 => ?_) (fun h5 => ?_)
        · exact absurd h5 (by rw [if_pos a1]; decide)
        · refine T.aload_n (pc' := 9) (q_d dX6_behind_0 4 rfl) rfl rfl rfl ?_
          refine T.iload_n (pc' := 10) (q_d dX6_behind_0 5 rfl) rfl rfl rfl ?_
          refine T.callV (pc' := 13) (ci := 6) (q_d dX6_behind_0 6 rfl) rfl uX6_isSet wM_X6_78 (m_isSet hX hv) rfl rfl (by decide) rfl rfl (by decide) (Nat.le_of_ble_eq_true rfl) rfl rfl (fun _ => rfl) ?_
          rintro _ _ ⟨rfl, rfl⟩
          dsimp only [Option.toList, List.cons_append, List.nil_append, List.append_nil]
          refine T.if_eqN (tgt := 35) (pc' := 16) (q_d dX6_behind_0 7 rfl) rfl (by decide) (by split <;> decide) (fun h13 => ?_) (fun h13 => ?_)
          · exact absurd h13 (by rw [if_pos a2]; decide)
          · refine T.iload_n (pc' := 17) (q_d dX6_behind_0 8 rfl) rfl rfl rfl ?_
            refine T.iconst (pc' := 18) (v := nI 4294967295) (q_d dX6_behind_0 9 rfl) rfl (by decide) ?_
            refine T.iconst (pc' := 19) (v := nI 3) (q_d dX6_behind_0 10 rfl) rfl (by decide) ?_
            refine T.callS (pc' := 22) (q_d dX6_behind_0 11 rfl) rfl uX6_in wM_X6_43 (m_in hw9 (lo := 4294967295) (by decide) (hi := 3) (by decide)) rfl rfl (by decide) (Nat.le_of_ble_eq_true rfl) rfl rfl (fun _ => rfl) ?_
            rintro _ _ ⟨rfl, rfl⟩
            dsimp only [Option.toList, List.cons_append, List.nil_append, List.append_nil]
            refine T.if_eqN (tgt := 35) (pc' := 25) (q_d dX6_behind_0 12 rfl) rfl (by decide) (by split <;> decide) (fun h22 => ?_) (fun h22 => ?_)
            · exact absurd h22 (by rw [if_pos z3]; decide)
            · refine T.aload_n (pc' := 26) (q_d dX6_behind_0 13 rfl) rfl rfl rfl ?_
              refine T.iload_n (pc' := 27) (q_d dX6_behind_0 14 rfl) rfl rfl rfl ?_
              refine T.iload_n (pc' := 28) (q_d dX6_behind_0 15 rfl) rfl rfl rfl ?_
              refine T.iload_n (pc' := 29) (q_d dX6_behind_0 16 rfl) rfl rfl rfl ?_
              refine T.callV (pc' := 32) (ci := 6) (q_d dX6_behind_0 17 rfl) rfl uX6_then wM_X6_84 (m_then hX (g := if w = 4294967295 then 4 else w) a1 (by by_cases q : w = 4294967295; rw [if_pos q]; exact Or.inl ⟨q, rfl⟩; rw [if_neg q]; exact Or.inr ⟨rfl, by omega⟩)) rfl rfl (by decide) rfl rfl (by decide) (Nat.le_of_ble_eq_true rfl) rfl rfl (fun _ => rfl) ?_
              rintro _ _ ⟨rfl, rfl⟩
              dsimp only [Option.toList, List.cons_append, List.nil_append, List.append_nil]
              refine T.goto (tgt := 37) (q_d dX6_behind_0 18 rfl) (by decide) ?_
              refine T.iret (q_d dX6_behind_0 20 rfl) rfl rfl rfl ?_
              exact ⟨by rw [er], hX⟩
      · have z3 : ¬ inS w 4294967295 3 = true := fun q => a3 (e.mp q)
        refine T.aload_n (pc' := 1) (q_d dX6_behind_0 0 rfl) rfl rfl rfl ?_
        refine T.iload_n (pc' := 2) (q_d dX6_behind_0 1 rfl) rfl rfl rfl ?_
        refine T.callV (pc' := 5) (ci := 6) (q_d dX6_behind_0 2 rfl) rfl uX6_isSet wM_X6_78 (m_isSet hX hu) rfl rfl (by decide) rfl rfl (by decide) (Nat.le_of_ble_eq_true rfl) rfl rfl (fun _ => rfl) ?_
        rintro _ _ ⟨rfl, rfl⟩
        dsimp only [Option.toList, List.cons_append, List.nil_append, List.append_nil]
        refine T.if_eqN (tgt := 35) (pc' := 8) (q_d dX6_behind_0 3 rfl) rfl (by decide) (by split <;> decide) (fun h5 => ?_) (fun h5 => ?_)
        · exact absurd h5 (by rw [if_pos a1]; decide)
        · refine T.aload_n (pc' := 9) (q_d dX6_behind_0 4 rfl) rfl rfl rfl ?_
          refine T.iload_n (pc' := 10) (q_d dX6_behind_0 5 rfl) rfl rfl rfl ?_
          refine T.callV (pc' := 13) (ci := 6) (q_d dX6_behind_0 6 rfl) rfl uX6_isSet wM_X6_78 (m_isSet hX hv) rfl rfl (by decide) rfl rfl (by decide) (Nat.le_of_ble_eq_true rfl) rfl rfl (fun _ => rfl) ?_
          rintro _ _ ⟨rfl, rfl⟩
          dsimp only [Option.toList, List.cons_append, List.nil_append, List.append_nil]
          refine T.if_eqN (tgt := 35) (pc' := 16) (q_d dX6_behind_0 7 rfl) rfl (by decide) (by split <;> decide) (fun h13 => ?_) (fun h13 => ?_)
          · exact absurd h13 (by rw [if_pos a2]; decide)
          · refine T.iload_n (pc' := 17) (q_d dX6_behind_0 8 rfl) rfl rfl rfl ?_
            refine T.iconst (pc' := 18) (v := nI 4294967295) (q_d dX6_behind_0 9 rfl) rfl (by decide) ?_
            refine T.iconst (pc' := 19) (v := nI 3) (q_d dX6_behind_0 10 rfl) rfl (by decide) ?_
            refine T.callS (pc' := 22) (q_d dX6_behind_0 11 rfl) rfl uX6_in wM_X6_43 (m_in hw9 (lo := 4294967295) (by decide) (hi := 3) (by decide)) rfl rfl (by decide) (Nat.le_of_ble_eq_true rfl) rfl rfl (fun _ => rfl) ?_
            rintro _ _ ⟨rfl, rfl⟩
            dsimp only [Option.toList, List.cons_append, List.nil_append, List.append_nil]
            refine T.if_eqN (tgt := 35) (pc' := 25) (q_d dX6_behind_0 12 rfl) rfl (by decide) (by split <;> decide) (fun h22 => ?_) (fun h22 => ?_)
            · refine T.ldc (pc' := 37) (v := nI 4293967295) (q_d dX6_behind_0 19 rfl) rfl wN_X6_47 ?_
              refine T.iret (q_d dX6_behind_0 20 rfl) rfl rfl rfl ?_
              exact ⟨by unfold qBehind; rw [if_neg (fun q => a3 q.2)], hX⟩
            · exact absurd (if_neg z3) h22
    · refine T.aload_n (pc' := 1) (q_d dX6_behind_0 0 rfl) rfl rfl rfl ?_
      refine T.iload_n (pc' := 2) (q_d dX6_behind_0 1 rfl) rfl rfl rfl ?_
      refine T.callV (pc' := 5) (ci := 6) (q_d dX6_behind_0 2 rfl) rfl uX6_isSet wM_X6_78 (m_isSet hX hu) rfl rfl (by decide) rfl rfl (by decide) (Nat.le_of_ble_eq_true rfl) rfl rfl (fun _ => rfl) ?_
      rintro _ _ ⟨rfl, rfl⟩
      dsimp only [Option.toList, List.cons_append, List.nil_append, List.append_nil]
      refine T.if_eqN (tgt := 35) (pc' := 8) (q_d dX6_behind_0 3 rfl) rfl (by decide) (by split <;> decide) (fun h5 => ?_) (fun h5 => ?_)
      · exact absurd h5 (by rw [if_pos a1]; decide)
      · refine T.aload_n (pc' := 9) (q_d dX6_behind_0 4 rfl) rfl rfl rfl ?_
        refine T.iload_n (pc' := 10) (q_d dX6_behind_0 5 rfl) rfl rfl rfl ?_
        refine T.callV (pc' := 13) (ci := 6) (q_d dX6_behind_0 6 rfl) rfl uX6_isSet wM_X6_78 (m_isSet hX hv) rfl rfl (by decide) rfl rfl (by decide) (Nat.le_of_ble_eq_true rfl) rfl rfl (fun _ => rfl) ?_
        rintro _ _ ⟨rfl, rfl⟩
        dsimp only [Option.toList, List.cons_append, List.nil_append, List.append_nil]
        refine T.if_eqN (tgt := 35) (pc' := 16) (q_d dX6_behind_0 7 rfl) rfl (by decide) (by split <;> decide) (fun h13 => ?_) (fun h13 => ?_)
        · refine T.ldc (pc' := 37) (v := nI 4293967295) (q_d dX6_behind_0 19 rfl) rfl wN_X6_47 ?_
          refine T.iret (q_d dX6_behind_0 20 rfl) rfl rfl rfl ?_
          exact ⟨by unfold qBehind; rw [if_neg (fun q => a2 q.1.2)], hX⟩
        · exact absurd (if_neg a2) h13
  · refine T.aload_n (pc' := 1) (q_d dX6_behind_0 0 rfl) rfl rfl rfl ?_
    refine T.iload_n (pc' := 2) (q_d dX6_behind_0 1 rfl) rfl rfl rfl ?_
    refine T.callV (pc' := 5) (ci := 6) (q_d dX6_behind_0 2 rfl) rfl uX6_isSet wM_X6_78 (m_isSet hX hu) rfl rfl (by decide) rfl rfl (by decide) (Nat.le_of_ble_eq_true rfl) rfl rfl (fun _ => rfl) ?_
    rintro _ _ ⟨rfl, rfl⟩
    dsimp only [Option.toList, List.cons_append, List.nil_append, List.append_nil]
    refine T.if_eqN (tgt := 35) (pc' := 8) (q_d dX6_behind_0 3 rfl) rfl (by decide) (by split <;> decide) (fun h5 => ?_) (fun h5 => ?_)
    · refine T.ldc (pc' := 37) (v := nI 4293967295) (q_d dX6_behind_0 19 rfl) rfl wN_X6_47 ?_
      refine T.iret (q_d dX6_behind_0 20 rfl) rfl rfl rfl ?_
      exact ⟨by unfold qBehind; rw [if_neg (fun q => a1 q.1.1)], hX⟩
    · exact absurd (if_neg a1) h5
end CM4
