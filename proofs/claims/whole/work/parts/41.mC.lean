/-! the reference: play -/
section CMC
variable {l : Launch} {M M' : qM} {b b' : Nat} {s s' : Nat → Nat} {k : Nat} {was : Nat → Nat → Nat} {n : Nat} {t : Nat → Nat}
theorem m_actedP {M2 : qM} {st : Nat → Nat} (hX : RM M2 b st k was n t) (hs : WF b s) (h3 : ∀ j, j < 52 → M2.1 3 j = s j) {x : Nat} (hx : x < 2 ^ 31) :
    Ct l hdM kM mX6_acted [.ref 0, .int (nI x)] M2 (OM b (x, act s k was n t st)) := by
  obtain ⟨q1, q2, q3, q4, q5, q6, q7, q8, q9⟩ := hX
  refine (m_acted (was := was) (so := s) q1 q4 q5 (fun i hi j hj => (q6 i hi).1 j hj) h3 hx).mono ?_
  rintro _ M' ⟨rfl, f2, fa, f0, f4, fw⟩
  refine ⟨rfl, by rw [f2]; exact q1, fun j hj => by rw [fa 1 (by decide) (by decide)]; exact q2 j hj, q3, f4, ?_, fun i hi => ⟨fw i hi, ?_⟩, (f0 6 (by decide)).trans q7, fun i hi => by rw [fa 5 (by decide) (by decide)]; exact q8 i hi, q9⟩
  · show pushK k ≤ 4
    unfold pushK; split <;> omega
  · show WF b (pushW k was s i)
    have hi' : i < pushK k := hi
    unfold pushW
    unfold pushK at hi'
    split
    · next h =>
      rw [if_pos h] at hi'
      show WF b (if i < 3 then was (i + 1) else s)
      split
      · exact (q6 (i + 1) (by omega)).2
      · exact hs
    · next h =>
      rw [if_neg h] at hi'
      show WF b (if i = k then s else was i)
      split
      · exact hs
      · exact (q6 i (by omega)).2
theorem m_play (hX : RM M b s k was n t) (hb : b + 120 < 2 ^ 30) : Ct l hdM kM mX6_play [.ref 0] M (OM (b + 120) (oPlay s k was n t)) := by
  refine Ct.of [some (.ref 0)] (by decide +kernel) (fun h => absurd h (by decide)) (Nat.le_of_ble_eq_true rfl) rfl ?_
  have h60 := hX.2.2.2.2.2.2.2.2.1
  have hp := runT_pos hX.2.2.2.2.2.2.2.2 60 s 0 0 (by decide)
  have main : (runT n t 60 s 0 0).1 = 0 → ∀ d p r (st : Nat → Nat) (M1 : qM), d ≤ 60 → 60 ≤ p + d → p ≤ 60 → r + d ≤ 60 → RM M1 (b + 60 + (60 - d)) st k was n t → (∀ j, j < 52 → M1.1 3 j = s j) → M1.1 0 7 = p → M1.1 0 9 = r → runT n t 60 s 0 0 = runT n t d st p r →
      T l hdM kM mX6_play (OM (b + 120) (oPlay s k was n t)) 0 0 26 [some (.ref 0)] [] M1 := by
    intro hr0
    have fin : ∀ p r (st : Nat → Nat) (M1 : qM), ¬ p < n → r ≤ 60 → p ≤ 60 → RM M1 (b + 120) st k was n t → (∀ j, j < 52 → M1.1 3 j = s j) → M1.1 0 7 = p → M1.1 0 9 = r → runT n t 60 s 0 0 = (0, st, p, r) →
        T l hdM kM mX6_play (OM (b + 120) (oPlay s k was n t)) 0 0 26 [some (.ref 0)] [] M1 := by
      intro p r st M1 hl hr9 hp9 hX1 h3 h7 h9 hr
      have er : oPlay s k was n t = (r, act s k was n t st) := by unfold oPlay; rw [hr, if_pos rfl]
      rw [er]
      refine T.aload_n (pc' := 27) (q_d dX6_play_0 14 rfl) rfl rfl rfl ?_
      refine T.getI (pc' := 30) (ci := 6) (k0 := 7) (q_d dX6_play_0 15 rfl) rfl rfl (by decide) rfl inX6 (by decide) rfl wF_X6_121 h7 ?_
      refine T.aload_n (pc' := 31) (q_d dX6_play_0 16 rfl) rfl rfl rfl ?_
      refine T.getI (pc' := 34) (ci := 6) (k0 := 6) (q_d dX6_play_0 17 rfl) rfl rfl (by decide) rfl inX6 (by decide) rfl wF_X6_118 hX1.2.2.2.2.2.2.1 ?_
      refine T.icmp_geN (tgt := 61) (pc' := 37) (q_d dX6_play_0 18 rfl) rfl (by decide) (by omega) (by omega) (fun h34 => ?_) (fun h34 => ?_)
      · refine T.aload_n (pc' := 62) (q_d dX6_play_0 31 rfl) rfl rfl rfl ?_
        refine T.aload_n (pc' := 63) (q_d dX6_play_0 32 rfl) rfl rfl rfl ?_
        refine T.getI (pc' := 66) (ci := 6) (k0 := 9) (q_d dX6_play_0 33 rfl) rfl rfl (by decide) rfl inX6 (by decide) rfl wF_X6_140 h9 ?_
        refine T.callV (pc' := 69) (ci := 6) (q_d dX6_play_0 34 rfl) rfl uX6_acted wM_X6_56 (m_actedP hX1 (hX.2.2.1.mono (by omega)) h3 (show r < 2 ^ 31 by omega)) rfl rfl (by decide) rfl rfl (by decide) (Nat.le_of_ble_eq_true rfl) rfl rfl (fun _ => rfl) ?_
        rintro _ M3 ⟨rfl, hO⟩
        dsimp only [Option.toList, List.cons_append, List.nil_append, List.append_nil]
        refine T.iret (q_d dX6_play_0 35 rfl) rfl rfl rfl ?_
        exact ⟨rfl, hO⟩
      · exact absurd hl (by omega)
    intro d
    induction d with
    | zero =>
      intro p r st M1 hd hpd hp9 hrd hX1 h3 h7 h9 hr
      have hl : ¬ p < n := by omega
      rw [runT_out hl] at hr
      exact fin p r st M1 hl (by omega) hp9 (hX1.le (by omega)) h3 h7 h9 hr
    | succ d ih =>
      intro p r st M1 hd hpd hp9 hrd hX1 h3 h7 h9 hr
      by_cases hl : p < n
      · rw [runT_in hl] at hr
        by_cases e0 : (stepR n t st p).1 = 0
        · rw [if_pos e0] at hr
          have ha := stepR_adv (n := n) (t := t) e0
          refine T.aload_n (pc' := 27) (q_d dX6_play_0 14 rfl) rfl rfl rfl ?_
          refine T.getI (pc' := 30) (ci := 6) (k0 := 7) (q_d dX6_play_0 15 rfl) rfl rfl (by decide) rfl inX6 (by decide) rfl wF_X6_121 h7 ?_
          refine T.aload_n (pc' := 31) (q_d dX6_play_0 16 rfl) rfl rfl rfl ?_
          refine T.getI (pc' := 34) (ci := 6) (k0 := 6) (q_d dX6_play_0 17 rfl) rfl rfl (by decide) rfl inX6 (by decide) rfl wF_X6_118 hX1.2.2.2.2.2.2.1 ?_
          refine T.icmp_geN (tgt := 61) (pc' := 37) (q_d dX6_play_0 18 rfl) rfl (by decide) (by omega) (by omega) (fun h34 => ?_) (fun h34 => ?_)
          · exact absurd hl (by omega)
          · refine T.aload_n (pc' := 38) (q_d dX6_play_0 19 rfl) rfl rfl rfl ?_
            refine T.dup (pc' := 39) (q_d dX6_play_0 20 rfl) rfl rfl ?_
            refine T.getI (pc' := 42) (ci := 6) (k0 := 9) (q_d dX6_play_0 21 rfl) rfl rfl (by decide) rfl inX6 (by decide) rfl wF_X6_140 h9 ?_
            refine T.aload_n (pc' := 43) (q_d dX6_play_0 22 rfl) rfl rfl rfl ?_
            refine T.callV (pc' := 46) (ci := 6) (q_d dX6_play_0 23 rfl) rfl uX6_doesNext wM_X6_131 (m_doesNext hX1 (by omega) h7 hp9) rfl rfl (by decide) rfl rfl (by decide) (Nat.le_of_ble_eq_true rfl) rfl rfl (fun _ => rfl) ?_
            rintro _ M2 ⟨rfl, f1, f2, f3, f4, f8, f9⟩
            dsimp only [Option.toList, List.cons_append, List.nil_append, List.append_nil]
            refine T.if_neN (tgt := 53) (pc' := 49) (q_d dX6_play_0 24 rfl) rfl (by decide) (by omega) (fun h46 => ?_) (fun h46 => ?_)
            · exact absurd e0 h46
            · refine T.iconst (pc' := 50) (v := nI 1) (q_d dX6_play_0 25 rfl) rfl (by decide) ?_
              refine T.goto (tgt := 54) (q_d dX6_play_0 26 rfl) (by decide) ?_
              refine T.iadd (pc' := 55) (q_d dX6_play_0 28 rfl) rfl (nI_add _ _) ?_
              refine T.putI (pc' := 58) (ci := 6) (k0 := 9) (q_d dX6_play_0 29 rfl) rfl rfl (by decide) rfl inX6 tyX6 tyX6_ok nmX6 (by decide) rfl wF_X6_140 rfl rfl rfl ?_
              refine T.goto (tgt := 26) (q_d dX6_play_0 30 rfl) (by decide) ?_
              refine ih _ (r + 1) _ _ (by omega) (by omega) (by omega) (by omega) ((f1.fld (by decide) (by decide)).le (by omega)) (fun j hj => ?_) ?_ qI_eq hr
              · rw [qI_ne (Or.inl (by decide)), f3]; exact h3 j hj
              · rw [qI_ne (Or.inr (by decide))]; exact f2 e0
        · rw [if_neg e0] at hr
          rw [hr] at hr0
          exact absurd hr0 e0
      · rw [runT_out hl] at hr
        exact fin p r st M1 hl (by omega) hp9 (hX1.le (by omega)) h3 h7 h9 hr
  by_cases e0 : (runT n t 60 s 0 0).1 = 0
  · refine T.aload_n (pc' := 1) (q_d dX6_play_0 0 rfl) rfl rfl rfl ?_
    refine T.callV (pc' := 4) (ci := 6) (q_d dX6_play_0 1 rfl) rfl uX6_faulty wM_X6_137 (m_faulty hX (by omega)) rfl rfl (by decide) rfl rfl (by decide) (Nat.le_of_ble_eq_true rfl) rfl rfl (fun _ => rfl) ?_
    rintro _ M2 ⟨rfl, f1, f2⟩
    rw [if_pos e0]
    dsimp only [Option.toList, List.cons_append, List.nil_append, List.append_nil]
    refine T.ldc (pc' := 6) (v := nI 4293967292) (q_d dX6_play_0 2 rfl) rfl wN_X6_91 ?_
    refine T.icmp_eqN (tgt := 12) (pc' := 9) (q_d dX6_play_0 3 rfl) rfl (by decide) (by decide) (by decide) (fun h6 => ?_) (fun h6 => ?_)
    · refine T.aload_n (pc' := 13) (q_d dX6_play_0 6 rfl) rfl rfl rfl ?_
      refine T.callV (pc' := 16) (ci := 6) (q_d dX6_play_0 7 rfl) rfl uX6_keeps wM_X6_53 (m_keeps f1.1) rfl rfl (by decide) rfl rfl (by decide) (Nat.le_of_ble_eq_true rfl) rfl rfl (fun _ => rfl) ?_
      rintro _ M3 ⟨rfl, g2, ga, g3⟩
      have hX2 : RM M3 (b + 60) s k was n t := f1.sc ⟨by rw [g2], ga 1 (by decide), ga 2 (by decide), ga 5 (by decide), by rw [ga 0 (by decide)], by rw [ga 0 (by decide)]⟩
      dsimp only [Option.toList, List.cons_append, List.nil_append, List.append_nil]
      refine T.aload_n (pc' := 17) (q_d dX6_play_0 8 rfl) rfl rfl rfl ?_
      refine T.iconst (pc' := 18) (v := nI 0) (q_d dX6_play_0 9 rfl) rfl (by decide) ?_
      refine T.putI (pc' := 21) (ci := 6) (k0 := 9) (q_d dX6_play_0 10 rfl) rfl rfl (by decide) rfl inX6 tyX6 tyX6_ok nmX6 (by decide) rfl wF_X6_140 rfl rfl rfl ?_
      refine T.aload_n (pc' := 22) (q_d dX6_play_0 11 rfl) rfl rfl rfl ?_
      refine T.iconst (pc' := 23) (v := nI 0) (q_d dX6_play_0 12 rfl) rfl (by decide) ?_
      refine T.putI (pc' := 26) (ci := 6) (k0 := 7) (q_d dX6_play_0 13 rfl) rfl rfl (by decide) rfl inX6 tyX6 tyX6_ok nmX6 (by decide) rfl wF_X6_121 rfl rfl rfl ?_
      exact main e0 60 0 0 s _ (Nat.le_refl _) (by decide) (by decide) (by decide) (((hX2.fld (by decide) (by decide)).fld (by decide) (by decide)).le (by omega)) (fun j hj => by rw [qI_ne (Or.inl (by decide)), qI_ne (Or.inl (by decide)), g3 j hj]; exact f1.2.1 j hj) qI_eq (by rw [qI_ne (Or.inr (by decide)), qI_eq]) rfl
    · exact absurd rfl h6
  · refine T.aload_n (pc' := 1) (q_d dX6_play_0 0 rfl) rfl rfl rfl ?_
    refine T.callV (pc' := 4) (ci := 6) (q_d dX6_play_0 1 rfl) rfl uX6_faulty wM_X6_137 (m_faulty hX (by omega)) rfl rfl (by decide) rfl rfl (by decide) (Nat.le_of_ble_eq_true rfl) rfl rfl (fun _ => rfl) ?_
    rintro _ M2 ⟨rfl, f1, f2⟩
    rw [if_neg e0]
    dsimp only [Option.toList, List.cons_append, List.nil_append, List.append_nil]
    refine T.ldc (pc' := 6) (v := nI 4293967292) (q_d dX6_play_0 2 rfl) rfl wN_X6_91 ?_
    refine T.icmp_eqN (tgt := 12) (pc' := 9) (q_d dX6_play_0 3 rfl) rfl (by decide) (by omega) (by omega) (fun h6 => ?_) (fun h6 => ?_)
    · exact absurd h6 (by omega)
    · refine T.ldc (pc' := 11) (v := nI 4293967294) (q_d dX6_play_0 4 rfl) rfl wN_X6_67 ?_
      refine T.iret (q_d dX6_play_0 5 rfl) rfl rfl rfl ?_
      exact ⟨by unfold oPlay; rw [if_neg e0], by unfold oPlay; rw [if_neg e0]; exact f1.le (by omega)⟩
end CMC
