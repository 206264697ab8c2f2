/-! the reference: fault and play -/
section CMB
variable {l : Launch} {M M' : qM} {b b' : Nat} {s s' : Nat → Nat} {k : Nat} {was : Nat → Nat → Nat} {n : Nat} {t : Nat → Nat}
theorem stepR_adv {st : Nat → Nat} {p : Nat} (h : (stepR n t st p).1 = 0) : p + 3 ≤ (stepR n t st p).2.2 ∧ (stepR n t st p).2.2 ≤ n := by
  obtain ⟨g1, g2, g3, g4, g5⟩ := stepR_0 h
  have hin := okR_in g1
  have pb := pB_in (n := n) (t := t) (p := p)
  rw [g5]
  show p + 3 ≤ pB n t p + 3 ∧ pB n t p + 3 ≤ n
  omega
theorem runT_out {d : Nat} {st : Nat → Nat} {p r : Nat} (h : ¬ p < n) : runT n t d st p r = (0, st, p, r) := by
  cases d with
  | zero => rfl
  | succ d => rw [runT, if_neg h]
theorem runT_in {d : Nat} {st : Nat → Nat} {p r : Nat} (h : p < n) : runT n t (d + 1) st p r = if (stepR n t st p).1 = 0 then runT n t d (stepR n t st p).2.1 (stepR n t st p).2.2 (r + 1) else ((stepR n t st p).1, st, p, r) := by rw [runT, if_pos h]
theorem m_faulty (hX : RM M b s k was n t) (hb : b + 60 < 2 ^ 30) : Ct l hdM kM mX6_faulty [.ref 0] M (fun v M' => v = some (.int (nI (if (runT n t 60 s 0 0).1 = 0 then 4293967292 else (runT n t 60 s 0 0).2.2.1))) ∧ RM M' (b + 60) s k was n t ∧ ((runT n t 60 s 0 0).1 ≠ 0 → M'.1 0 8 = (runT n t 60 s 0 0).1)) := by
  refine Ct.of [some (.ref 0), none, none] (by decide +kernel) (fun h => absurd h (by decide)) (Nat.le_of_ble_eq_true rfl) rfl ?_
  have h60 := hX.2.2.2.2.2.2.2.2.1
  have rest : ∀ res (st : Nat → Nat) (M1 : qM), RM M1 (b + 60) st k was n t → (∀ j, j < 52 → M1.1 4 j = s j) → res = (if (runT n t 60 s 0 0).1 = 0 then 4293967292 else (runT n t 60 s 0 0).2.2.1) → ((runT n t 60 s 0 0).1 ≠ 0 → M1.1 0 8 = (runT n t 60 s 0 0).1) →
      T l hdM kM mX6_faulty (fun v M' => v = some (.int (nI (if (runT n t 60 s 0 0).1 = 0 then 4293967292 else (runT n t 60 s 0 0).2.2.1))) ∧ RM M' (b + 60) s k was n t ∧ ((runT n t 60 s 0 0).1 ≠ 0 → M'.1 0 8 = (runT n t 60 s 0 0).1)) 0 0 80 [some (.ref 0), some (.int (nI res)), none] [] M1 := by
    intro res st M1 hX1 h4 hres h8
    have loop : ∀ d i (M' : qM), i + d = 52 → M'.2 = M1.2 → (∀ a, a ≠ 1 → M'.1 a = M1.1 a) → (∀ j, j < i → M'.1 1 j = s j) →
        T l hdM kM mX6_faulty (fun v M' => v = some (.int (nI (if (runT n t 60 s 0 0).1 = 0 then 4293967292 else (runT n t 60 s 0 0).2.2.1))) ∧ RM M' (b + 60) s k was n t ∧ ((runT n t 60 s 0 0).1 ≠ 0 → M'.1 0 8 = (runT n t 60 s 0 0).1)) 0 0 82 [some (.ref 0), some (.int (nI res)), some (.int (nI i))] [] M' := by
      intro d
      induction d with
      | zero =>
        intro i M' hi h2 ha hj
        refine T.iload_n (pc' := 83) (q_d dX6_faulty_1 5 rfl) rfl rfl rfl ?_
        refine T.bipush (pc' := 85) (v := nI 52) (q_d dX6_faulty_1 6 rfl) rfl (by decide) ?_
        refine T.icmp_geN (tgt := 106) (pc' := 88) (q_d dX6_faulty_1 7 rfl) rfl (by decide) (by omega) (by omega) (fun h85 => ?_) (fun h85 => ?_)
        · refine T.iload_n (pc' := 107) (q_d dX6_faulty_1 18 rfl) rfl rfl rfl ?_
          refine T.iret (q_d dX6_faulty_1 19 rfl) rfl rfl rfl ?_
          exact ⟨by rw [hres], hX1.s1 h2 ha (fun j h9 => hj j (by omega)) (hX.2.2.1.mono (by omega)) (Nat.le_refl _), fun h => by rw [ha 0 (by decide)]; exact h8 h⟩
        · exact absurd h85 (by omega)
      | succ d ih =>
        intro i M' hi h2 ha hj
        have hv : M'.1 4 i = s i := by rw [ha 4 (by decide)]; exact h4 i (by omega)
        refine T.iload_n (pc' := 83) (q_d dX6_faulty_1 5 rfl) rfl rfl rfl ?_
        refine T.bipush (pc' := 85) (v := nI 52) (q_d dX6_faulty_1 6 rfl) rfl (by decide) ?_
        refine T.icmp_geN (tgt := 106) (pc' := 88) (q_d dX6_faulty_1 7 rfl) rfl (by decide) (by omega) (by omega) (fun h85 => ?_) (fun h85 => ?_)
        · exact absurd h85 (by omega)
        · refine T.aload_n (pc' := 89) (q_d dX6_faulty_1 8 rfl) rfl rfl rfl ?_
          refine T.getR (pc' := 92) (ci := 6) (k0 := 0) (q_d dX6_faulty_1 9 rfl) rfl rfl (by decide) rfl inX6 (by decide) rfl wF_X6_7 (rP (show M'.2.2 = pM by rw [h2]; exact hX1.1) rfl) ?_
          refine T.iload_n (pc' := 93) (q_d dX6_faulty_1 10 rfl) rfl rfl rfl ?_
          refine T.aload_n (pc' := 94) (q_d dX6_faulty_1 11 rfl) rfl rfl rfl ?_
          refine T.getR (pc' := 97) (ci := 6) (k0 := 3) (q_d dX6_faulty_1 12 rfl) rfl rfl (by decide) rfl inX6 (by decide) rfl wF_X6_19 (rP (show M'.2.2 = pM by rw [h2]; exact hX1.1) rfl) ?_
          refine T.iload_n (pc' := 98) (q_d dX6_faulty_1 13 rfl) rfl rfl rfl ?_
          refine T.iald (pc' := 99) (q_d dX6_faulty_1 14 rfl) rfl rfl (by decide) rfl (by omega) (by decide) hv ?_
          refine T.iast (pc' := 100) (q_d dX6_faulty_1 15 rfl) rfl rfl (by decide) rfl (by omega) (by decide) ?_
          refine T.iinc (pc' := 103) (q_d dX6_faulty_1 16 rfl) rfl rfl (nN_p _ 1) (by decide) rfl rfl ?_
          refine T.goto (tgt := 82) (q_d dX6_faulty_1 17 rfl) (by decide) ?_
          refine ih (i + 1) _ (by omega) h2 (fun a h9 => ?_) (fun j h9 => ?_)
          · funext z; rw [qI_ne (Or.inl h9), ha a h9]
          · by_cases e : j = i
            · subst e; exact qI_eq
            · rw [qI_ne (Or.inr e)]; exact hj j (by omega)
    refine T.iconst (pc' := 81) (v := nI 0) (q_d dX6_faulty_1 3 rfl) rfl (by decide) ?_
    refine T.istore_n (pc' := 82) (q_d dX6_faulty_1 4 rfl) rfl rfl (by decide) rfl rfl ?_
    exact loop 52 0 M1 (by decide) rfl (fun _ _ => rfl) (fun j h => absurd h (Nat.not_lt_zero _))
  have main : ∀ d p r (st : Nat → Nat) (M1 : qM), d ≤ 60 → 60 ≤ p + d → p ≤ 60 → RM M1 (b + (60 - d)) st k was n t → (∀ j, j < 52 → M1.1 4 j = s j) → M1.1 0 7 = p → runT n t 60 s 0 0 = runT n t d st p r →
      T l hdM kM mX6_faulty (fun v M' => v = some (.int (nI (if (runT n t 60 s 0 0).1 = 0 then 4293967292 else (runT n t 60 s 0 0).2.2.1))) ∧ RM M' (b + 60) s k was n t ∧ ((runT n t 60 s 0 0).1 ≠ 0 → M'.1 0 8 = (runT n t 60 s 0 0).1)) 0 0 34 [some (.ref 0), some (.int (nI 4293967292)), none] [] M1 := by
    intro d
    induction d with
    | zero =>
      intro p r st M1 hd hpd hp hX1 h4 h7 hr
      refine T.aload_n (pc' := 35) (q_d dX6_faulty_0 20 rfl) rfl rfl rfl ?_
      refine T.getI (pc' := 38) (ci := 6) (k0 := 7) (q_d dX6_faulty_0 21 rfl) rfl rfl (by decide) rfl inX6 (by decide) rfl wF_X6_121 h7 ?_
      refine T.aload_n (pc' := 39) (q_d dX6_faulty_0 22 rfl) rfl rfl rfl ?_
      refine T.getI (pc' := 42) (ci := 6) (k0 := 6) (q_d dX6_faulty_0 23 rfl) rfl rfl (by decide) rfl inX6 (by decide) rfl wF_X6_118 hX1.2.2.2.2.2.2.1 ?_
      refine T.icmp_geN (tgt := 80) (pc' := 45) (q_d dX6_faulty_0 24 rfl) rfl (by decide) (by omega) (by omega) (fun h42 => ?_) (fun h42 => ?_)
      · rw [runT_out (show ¬ p < n by omega)] at hr
        exact rest _ st M1 (hX1.le (by omega)) h4 (by rw [hr]; rfl) (fun h => absurd (by rw [hr]) h)
      · exact absurd h42 (by omega)
    | succ d ih =>
      intro p r st M1 hd hpd hp hX1 h4 h7 hr
      have hst := stepR_ne (n := n) (t := t) (s := st) (p := p)
      have hadv := stepR_adv (n := n) (t := t) (st := st) (p := p)
      by_cases hl : p < n
      · rw [runT_in hl] at hr
        by_cases e0 : (stepR n t st p).1 = 0
        · rw [if_pos e0] at hr
          have ha := hadv e0
          refine T.aload_n (pc' := 35) (q_d dX6_faulty_0 20 rfl) rfl rfl rfl ?_
          refine T.getI (pc' := 38) (ci := 6) (k0 := 7) (q_d dX6_faulty_0 21 rfl) rfl rfl (by decide) rfl inX6 (by decide) rfl wF_X6_121 h7 ?_
          refine T.aload_n (pc' := 39) (q_d dX6_faulty_0 22 rfl) rfl rfl rfl ?_
          refine T.getI (pc' := 42) (ci := 6) (k0 := 6) (q_d dX6_faulty_0 23 rfl) rfl rfl (by decide) rfl inX6 (by decide) rfl wF_X6_118 hX1.2.2.2.2.2.2.1 ?_
          refine T.icmp_geN (tgt := 80) (pc' := 45) (q_d dX6_faulty_0 24 rfl) rfl (by decide) (by omega) (by omega) (fun h42 => ?_) (fun h42 => ?_)
          · exact absurd hl (by omega)
          · refine T.iload_n (pc' := 46) (q_d dX6_faulty_0 25 rfl) rfl rfl rfl ?_
            refine T.ldc (pc' := 48) (v := nI 4293967292) (q_d dX6_faulty_0 26 rfl) rfl wN_X6_91 ?_
            refine T.icmp_neN (tgt := 80) (pc' := 51) (q_d dX6_faulty_0 27 rfl) rfl (by decide) (by decide) (by decide) (fun h48 => ?_) (fun h48 => ?_)
            · exact absurd rfl h48
            · refine T.aload_n (pc' := 52) (q_d dX6_faulty_0 28 rfl) rfl rfl rfl ?_
              refine T.getI (pc' := 55) (ci := 6) (k0 := 7) (q_d dX6_faulty_0 29 rfl) rfl rfl (by decide) rfl inX6 (by decide) rfl wF_X6_121 h7 ?_
              refine T.istore_n (pc' := 56) (q_d dX6_faulty_0 30 rfl) rfl rfl (by decide) rfl rfl ?_
              refine T.aload_n (pc' := 57) (q_d dX6_faulty_0 31 rfl) rfl rfl rfl ?_
              refine T.aload_n (pc' := 58) (q_d dX6_faulty_0 32 rfl) rfl rfl rfl ?_
              refine T.callV (pc' := 61) (ci := 6) (q_d dX6_faulty_0 33 rfl) rfl uX6_doesNext wM_X6_131 (m_doesNext hX1 (by omega) h7 hp) rfl rfl (by decide) rfl rfl (by decide) (Nat.le_of_ble_eq_true rfl) rfl rfl (fun _ => rfl) ?_
              rintro _ M2 ⟨rfl, f1, f2, f3, f4, f8, f9⟩
              dsimp only [Option.toList, List.cons_append, List.nil_append, List.append_nil]
              refine T.putI (pc' := 64) (ci := 6) (k0 := 8) (q_d dX6_faulty_0 34 rfl) rfl rfl (by decide) rfl inX6 tyX6 tyX6_ok nmX6 (by decide) rfl wF_X6_134 rfl rfl rfl ?_
              refine T.aload_n (pc' := 65) (q_d dX6_faulty_0 35 rfl) rfl rfl rfl ?_
              refine T.getI (pc' := 68) (ci := 6) (k0 := 8) (q_d dX6_faulty_0 36 rfl) rfl rfl (by decide) rfl inX6 (by decide) rfl wF_X6_134 qI_eq ?_
              refine T.if_leN (tgt := 75) (pc' := 71) (q_d dX6_faulty_0 37 rfl) rfl (by decide) (by omega) (fun h68 => ?_) (fun h68 => ?_)
              · refine T.iload_n (pc' := 76) (q_d dX6_faulty_1 0 rfl) rfl rfl rfl ?_
                refine T.istore_n (pc' := 77) (q_d dX6_faulty_1 1 rfl) rfl rfl (by decide) rfl rfl ?_
                refine T.goto (tgt := 34) (q_d dX6_faulty_1 2 rfl) (by decide) ?_
                refine T.drop (loc' := [some (.ref 0), some (.int (nI 4293967292)), none]) ⟨rfl, rfl, trivial⟩ ?_
                refine ih _ (r + 1) _ _ (by omega) (by omega) (by omega) ((f1.fld (by decide) (by decide)).le (by omega)) (fun j hj => ?_) ?_ hr
                · rw [qI_ne (Or.inl (by decide)), f4]; exact h4 j hj
                · rw [qI_ne (Or.inr (by decide))]; exact f2 e0
              · exact absurd e0 (by omega)
        · rw [if_neg e0] at hr
          have fault : ∀ (M2 : qM), RM M2 (b + 60) (stepR n t st p).2.1 k was n t → (∀ j, j < 52 → M2.1 4 j = s j) → M2.1 0 8 = (stepR n t st p).1 →
              T l hdM kM mX6_faulty (fun v M' => v = some (.int (nI (if (runT n t 60 s 0 0).1 = 0 then 4293967292 else (runT n t 60 s 0 0).2.2.1))) ∧ RM M' (b + 60) s k was n t ∧ ((runT n t 60 s 0 0).1 ≠ 0 → M'.1 0 8 = (runT n t 60 s 0 0).1)) 0 0 34 [some (.ref 0), some (.int (nI p)), none] [] M2 := by
            intro M2 hX2 k42 k82
            refine T.aload_n (pc' := 35) (q_d dX6_faulty_0 20 rfl) rfl rfl rfl ?_
            refine T.getI (pc' := 38) (ci := 6) (k0 := 7) (q_d dX6_faulty_0 21 rfl) rfl rfl (by decide) rfl inX6 (by decide) rfl wF_X6_121 rfl ?_
            refine T.aload_n (pc' := 39) (q_d dX6_faulty_0 22 rfl) rfl rfl rfl ?_
            refine T.getI (pc' := 42) (ci := 6) (k0 := 6) (q_d dX6_faulty_0 23 rfl) rfl rfl (by decide) rfl inX6 (by decide) rfl wF_X6_118 hX2.2.2.2.2.2.2.1 ?_
            refine T.icmp_ge (tgt := 80) (pc' := 45) (q_d dX6_faulty_0 24 rfl) rfl (by decide)  (fun h42 => ?_) (fun h42 => ?_)
            · exact rest p _ M2 hX2 k42 (by rw [hr, if_neg e0]) (fun _ => by rw [hr]; exact k82)
            · refine T.iload_n (pc' := 46) (q_d dX6_faulty_0 25 rfl) rfl rfl rfl ?_
              refine T.ldc (pc' := 48) (v := nI 4293967292) (q_d dX6_faulty_0 26 rfl) rfl wN_X6_91 ?_
              refine T.icmp_neN (tgt := 80) (pc' := 51) (q_d dX6_faulty_0 27 rfl) rfl (by decide) (by omega) (by omega) (fun h48 => ?_) (fun h48 => ?_)
              · exact rest p _ M2 hX2 k42 (by rw [hr, if_neg e0]) (fun _ => by rw [hr]; exact k82)
              · exact absurd h48 (by omega)
          refine T.aload_n (pc' := 35) (q_d dX6_faulty_0 20 rfl) rfl rfl rfl ?_
          refine T.getI (pc' := 38) (ci := 6) (k0 := 7) (q_d dX6_faulty_0 21 rfl) rfl rfl (by decide) rfl inX6 (by decide) rfl wF_X6_121 h7 ?_
          refine T.aload_n (pc' := 39) (q_d dX6_faulty_0 22 rfl) rfl rfl rfl ?_
          refine T.getI (pc' := 42) (ci := 6) (k0 := 6) (q_d dX6_faulty_0 23 rfl) rfl rfl (by decide) rfl inX6 (by decide) rfl wF_X6_118 hX1.2.2.2.2.2.2.1 ?_
          refine T.icmp_geN (tgt := 80) (pc' := 45) (q_d dX6_faulty_0 24 rfl) rfl (by decide) (by omega) (by omega) (fun h42 => ?_) (fun h42 => ?_)
          · exact absurd hl (by omega)
          · refine T.iload_n (pc' := 46) (q_d dX6_faulty_0 25 rfl) rfl rfl rfl ?_
            refine T.ldc (pc' := 48) (v := nI 4293967292) (q_d dX6_faulty_0 26 rfl) rfl wN_X6_91 ?_
            refine T.icmp_neN (tgt := 80) (pc' := 51) (q_d dX6_faulty_0 27 rfl) rfl (by decide) (by decide) (by decide) (fun h48 => ?_) (fun h48 => ?_)
            · exact absurd rfl h48
            · refine T.aload_n (pc' := 52) (q_d dX6_faulty_0 28 rfl) rfl rfl rfl ?_
              refine T.getI (pc' := 55) (ci := 6) (k0 := 7) (q_d dX6_faulty_0 29 rfl) rfl rfl (by decide) rfl inX6 (by decide) rfl wF_X6_121 h7 ?_
              refine T.istore_n (pc' := 56) (q_d dX6_faulty_0 30 rfl) rfl rfl (by decide) rfl rfl ?_
              refine T.aload_n (pc' := 57) (q_d dX6_faulty_0 31 rfl) rfl rfl rfl ?_
              refine T.aload_n (pc' := 58) (q_d dX6_faulty_0 32 rfl) rfl rfl rfl ?_
              refine T.callV (pc' := 61) (ci := 6) (q_d dX6_faulty_0 33 rfl) rfl uX6_doesNext wM_X6_131 (m_doesNext hX1 (by omega) h7 hp) rfl rfl (by decide) rfl rfl (by decide) (Nat.le_of_ble_eq_true rfl) rfl rfl (fun _ => rfl) ?_
              rintro _ M2 ⟨rfl, f1, f2, f3, f4, f8, f9⟩
              dsimp only [Option.toList, List.cons_append, List.nil_append, List.append_nil]
              refine T.putI (pc' := 64) (ci := 6) (k0 := 8) (q_d dX6_faulty_0 34 rfl) rfl rfl (by decide) rfl inX6 tyX6 tyX6_ok nmX6 (by decide) rfl wF_X6_134 rfl rfl rfl ?_
              refine T.aload_n (pc' := 65) (q_d dX6_faulty_0 35 rfl) rfl rfl rfl ?_
              refine T.getI (pc' := 68) (ci := 6) (k0 := 8) (q_d dX6_faulty_0 36 rfl) rfl rfl (by decide) rfl inX6 (by decide) rfl wF_X6_134 qI_eq ?_
              refine T.if_leN (tgt := 75) (pc' := 71) (q_d dX6_faulty_0 37 rfl) rfl (by decide) (by omega) (fun h68 => ?_) (fun h68 => ?_)
              · exact absurd h68 (by omega)
              · refine T.iload_n (pc' := 72) (q_d dX6_faulty_0 38 rfl) rfl rfl rfl ?_
                refine T.goto (tgt := 76) (q_d dX6_faulty_0 39 rfl) (by decide) ?_
                refine T.istore_n (pc' := 77) (q_d dX6_faulty_1 1 rfl) rfl rfl (by decide) rfl rfl ?_
                refine T.goto (tgt := 34) (q_d dX6_faulty_1 2 rfl) (by decide) ?_
                refine T.drop (loc' := [some (.ref 0), some (.int (nI p)), none]) ⟨rfl, rfl, trivial⟩ ?_
                exact fault _ ((f1.fld (by decide) (by decide)).le (by omega)) (fun j hj => by rw [qI_ne (Or.inl (by decide)), f4]; exact h4 j hj) qI_eq
      · rw [runT_out hl] at hr
        refine T.aload_n (pc' := 35) (q_d dX6_faulty_0 20 rfl) rfl rfl rfl ?_
        refine T.getI (pc' := 38) (ci := 6) (k0 := 7) (q_d dX6_faulty_0 21 rfl) rfl rfl (by decide) rfl inX6 (by decide) rfl wF_X6_121 h7 ?_
        refine T.aload_n (pc' := 39) (q_d dX6_faulty_0 22 rfl) rfl rfl rfl ?_
        refine T.getI (pc' := 42) (ci := 6) (k0 := 6) (q_d dX6_faulty_0 23 rfl) rfl rfl (by decide) rfl inX6 (by decide) rfl wF_X6_118 hX1.2.2.2.2.2.2.1 ?_
        refine T.icmp_geN (tgt := 80) (pc' := 45) (q_d dX6_faulty_0 24 rfl) rfl (by decide) (by omega) (by omega) (fun h42 => ?_) (fun h42 => ?_)
        · exact rest _ st M1 (hX1.le (by omega)) h4 (by rw [hr]; rfl) (fun h => absurd (by rw [hr]) h)
        · exact absurd hl (by omega)
  have loopA : ∀ d i (M' : qM), i + d = 52 → M'.2 = M.2 → (∀ a, a ≠ 4 → M'.1 a = M.1 a) → (∀ j, j < i → M'.1 4 j = s j) →
      T l hdM kM mX6_faulty (fun v M' => v = some (.int (nI (if (runT n t 60 s 0 0).1 = 0 then 4293967292 else (runT n t 60 s 0 0).2.2.1))) ∧ RM M' (b + 60) s k was n t ∧ ((runT n t 60 s 0 0).1 ≠ 0 → M'.1 0 8 = (runT n t 60 s 0 0).1)) 0 0 2 [some (.ref 0), some (.int (nI i)), none] [] M' := by
    intro d
    induction d with
    | zero =>
      intro i M' hi h2 ha hj
      have hX' : RM M' b s k was n t := hX.sc ⟨by rw [h2], ha 1 (by decide), ha 2 (by decide), ha 5 (by decide), by rw [ha 0 (by decide)], by rw [ha 0 (by decide)]⟩
      refine T.iload_n (pc' := 3) (q_d dX6_faulty_0 2 rfl) rfl rfl rfl ?_
      refine T.bipush (pc' := 5) (v := nI 52) (q_d dX6_faulty_0 3 rfl) rfl (by decide) ?_
      refine T.icmp_geN (tgt := 26) (pc' := 8) (q_d dX6_faulty_0 4 rfl) rfl (by decide) (by omega) (by omega) (fun h5 => ?_) (fun h5 => ?_)
      · refine T.ldc (pc' := 28) (v := nI 4293967292) (q_d dX6_faulty_0 15 rfl) rfl wN_X6_91 ?_
        refine T.istore_n (pc' := 29) (q_d dX6_faulty_0 16 rfl) rfl rfl (by decide) rfl rfl ?_
        refine T.aload_n (pc' := 30) (q_d dX6_faulty_0 17 rfl) rfl rfl rfl ?_
        refine T.iconst (pc' := 31) (v := nI 0) (q_d dX6_faulty_0 18 rfl) rfl (by decide) ?_
        refine T.putI (pc' := 34) (ci := 6) (k0 := 7) (q_d dX6_faulty_0 19 rfl) rfl rfl (by decide) rfl inX6 tyX6 tyX6_ok nmX6 (by decide) rfl wF_X6_121 rfl rfl rfl ?_
        exact main 60 0 0 s _ (Nat.le_refl _) (by decide) (by decide) ((hX'.fld (by decide) (by decide)).le (by omega)) (fun j h9 => by rw [qI_ne (Or.inl (by decide))]; exact hj j (by omega)) qI_eq rfl
      · exact absurd h5 (by omega)
    | succ d ih =>
      intro i M' hi h2 ha hj
      have hv : M'.1 1 i = s i := by rw [ha 1 (by decide)]; exact hX.2.1 i (by omega)
      refine T.iload_n (pc' := 3) (q_d dX6_faulty_0 2 rfl) rfl rfl rfl ?_
      refine T.bipush (pc' := 5) (v := nI 52) (q_d dX6_faulty_0 3 rfl) rfl (by decide) ?_
      refine T.icmp_geN (tgt := 26) (pc' := 8) (q_d dX6_faulty_0 4 rfl) rfl (by decide) (by omega) (by omega) (fun h5 => ?_) (fun h5 => ?_)
      · exact absurd h5 (by omega)
      · refine T.aload_n (pc' := 9) (q_d dX6_faulty_0 5 rfl) rfl rfl rfl ?_
        refine T.getR (pc' := 12) (ci := 6) (k0 := 3) (q_d dX6_faulty_0 6 rfl) rfl rfl (by decide) rfl inX6 (by decide) rfl wF_X6_19 (rP (show M'.2.2 = pM by rw [h2]; exact hX.1) rfl) ?_
        refine T.iload_n (pc' := 13) (q_d dX6_faulty_0 7 rfl) rfl rfl rfl ?_
        refine T.aload_n (pc' := 14) (q_d dX6_faulty_0 8 rfl) rfl rfl rfl ?_
        refine T.getR (pc' := 17) (ci := 6) (k0 := 0) (q_d dX6_faulty_0 9 rfl) rfl rfl (by decide) rfl inX6 (by decide) rfl wF_X6_7 (rP (show M'.2.2 = pM by rw [h2]; exact hX.1) rfl) ?_
        refine T.iload_n (pc' := 18) (q_d dX6_faulty_0 10 rfl) rfl rfl rfl ?_
        refine T.iald (pc' := 19) (q_d dX6_faulty_0 11 rfl) rfl rfl (by decide) rfl (by omega) (by decide) hv ?_
        refine T.iast (pc' := 20) (q_d dX6_faulty_0 12 rfl) rfl rfl (by decide) rfl (by omega) (by decide) ?_
        refine T.iinc (pc' := 23) (q_d dX6_faulty_0 13 rfl) rfl rfl (nN_p _ 1) (by decide) rfl rfl ?_
        refine T.goto (tgt := 2) (q_d dX6_faulty_0 14 rfl) (by decide) ?_
        refine ih (i + 1) _ (by omega) h2 (fun a h9 => ?_) (fun j h9 => ?_)
        · funext z; rw [qI_ne (Or.inl h9), ha a h9]
        · by_cases e : j = i
          · subst e; exact qI_eq
          · rw [qI_ne (Or.inr e)]; exact hj j (by omega)
  refine T.iconst (pc' := 1) (v := nI 0) (q_d dX6_faulty_0 0 rfl) rfl (by decide) ?_
  refine T.istore_n (pc' := 2) (q_d dX6_faulty_0 1 rfl) rfl rfl (by decide) rfl rfl ?_
  exact loopA 52 0 M (by decide) rfl (fun _ _ => rfl) (fun j h => absurd h (Nat.not_lt_zero _))
theorem runT_pos (hw : WT n t) : ∀ d st p r, p ≤ 60 → (runT n t d st p r).2.2.1 ≤ 60
  | 0, st, p, r, hp => hp
  | d + 1, st, p, r, hp => by
    by_cases hl : p < n
    · rw [runT_in hl]
      split
      · next h =>
        have := stepR_adv (n := n) (t := t) h
        have h60 := hw.1
        exact runT_pos hw d _ _ _ (by omega)
      · exact hp
    · rw [runT_out hl]; exact hp
theorem m_fault (hX : RM M b s k was n t) (hb : b + 60 < 2 ^ 30) {u : Nat} (hu : u < 4294967296) : Ct l hdM kM mX6_fault [.ref 0, .int (nI u)] M (OM (b + 60) (qFault s n t u, (s, k, was, n, t))) := by
  refine Ct.of [some (.ref 0), some (.int (nI u)), none] (by decide +kernel) (fun h => absurd h (by decide)) (Nat.le_of_ble_eq_true rfl) rfl ?_
  have e := inS_iff (lo := 0) (hi := 1) hu (by decide) (by decide)
  by_cases a1 : u ≤ 1
  · have z1 : inS u 0 1 = true := e.mpr ⟨Nat.zero_le _, a1⟩
    by_cases e0 : (runT n t 60 s 0 0).1 = 0
    · refine T.iload_n (pc' := 1) (q_d dX6_fault_0 0 rfl) rfl rfl rfl ?_
      refine T.iconst (pc' := 2) (v := nI 0) (q_d dX6_fault_0 1 rfl) rfl (by decide) ?_
      refine T.iconst (pc' := 3) (v := nI 1) (q_d dX6_fault_0 2 rfl) rfl (by decide) ?_
      refine T.callS (pc' := 6) (q_d dX6_fault_0 3 rfl) rfl uX6_in wM_X6_43 (m_in hu (by decide) (hi := 1) (by decide)) rfl rfl (by decide) (Nat.le_of_ble_eq_true rfl) rfl rfl (fun _ => rfl) ?_
      rintro _ _ ⟨rfl, rfl⟩
      dsimp only [Option.toList, List.cons_append, List.nil_append, List.append_nil]
      refine T.if_neN (tgt := 12) (pc' := 9) (q_d dX6_fault_0 4 rfl) rfl (by decide) (by split <;> decide) (fun h6 => ?_) (fun h6 => ?_)
      · refine T.aload_n (pc' := 13) (q_d dX6_fault_0 7 rfl) rfl rfl rfl ?_
        refine T.callV (pc' := 16) (ci := 6) (q_d dX6_fault_0 8 rfl) rfl uX6_faulty wM_X6_137 (m_faulty hX hb) rfl rfl (by decide) rfl rfl (by decide) (Nat.le_of_ble_eq_true rfl) rfl rfl (fun _ => rfl) ?_
        rintro _ M2 ⟨rfl, f1, f2⟩
        rw [if_pos e0]
        dsimp only [Option.toList, List.cons_append, List.nil_append, List.append_nil]
        refine T.istore_n (pc' := 17) (q_d dX6_fault_0 9 rfl) rfl rfl (by decide) rfl rfl ?_
        refine T.iload_n (pc' := 18) (q_d dX6_fault_0 10 rfl) rfl rfl rfl ?_
        refine T.ldc (pc' := 20) (v := nI 4293967292) (q_d dX6_fault_0 11 rfl) rfl wN_X6_91 ?_
        refine T.icmp_eqN (tgt := 27) (pc' := 23) (q_d dX6_fault_0 12 rfl) rfl (by decide) (by decide) (by decide) (fun h20 => ?_) (fun h20 => ?_)
        · refine T.iload_n (pc' := 28) (q_d dX6_fault_0 15 rfl) rfl rfl rfl ?_
          refine T.goto (tgt := 35) (q_d dX6_fault_0 16 rfl) (by decide) ?_
          refine T.iret (q_d dX6_fault_0 19 rfl) rfl rfl rfl ?_
          exact ⟨by unfold qFault; rw [if_pos a1, if_pos e0], f1⟩
        · exact absurd rfl h20
      · exact absurd h6 (by rw [if_pos z1]; decide)
    · have hp := runT_pos hX.2.2.2.2.2.2.2.2 60 s 0 0 (by decide)
      refine T.iload_n (pc' := 1) (q_d dX6_fault_0 0 rfl) rfl rfl rfl ?_
      refine T.iconst (pc' := 2) (v := nI 0) (q_d dX6_fault_0 1 rfl) rfl (by decide) ?_
      refine T.iconst (pc' := 3) (v := nI 1) (q_d dX6_fault_0 2 rfl) rfl (by decide) ?_
      refine T.callS (pc' := 6) (q_d dX6_fault_0 3 rfl) rfl uX6_in wM_X6_43 (m_in hu (by decide) (hi := 1) (by decide)) rfl rfl (by decide) (Nat.le_of_ble_eq_true rfl) rfl rfl (fun _ => rfl) ?_
      rintro _ _ ⟨rfl, rfl⟩
      dsimp only [Option.toList, List.cons_append, List.nil_append, List.append_nil]
      refine T.if_neN (tgt := 12) (pc' := 9) (q_d dX6_fault_0 4 rfl) rfl (by decide) (by split <;> decide) (fun h6 => ?_) (fun h6 => ?_)
      · refine T.aload_n (pc' := 13) (q_d dX6_fault_0 7 rfl) rfl rfl rfl ?_
        refine T.callV (pc' := 16) (ci := 6) (q_d dX6_fault_0 8 rfl) rfl uX6_faulty wM_X6_137 (m_faulty hX hb) rfl rfl (by decide) rfl rfl (by decide) (Nat.le_of_ble_eq_true rfl) rfl rfl (fun _ => rfl) ?_
        rintro _ M2 ⟨rfl, f1, f2⟩
        rw [if_neg e0]
        dsimp only [Option.toList, List.cons_append, List.nil_append, List.append_nil]
        refine T.istore_n (pc' := 17) (q_d dX6_fault_0 9 rfl) rfl rfl (by decide) rfl rfl ?_
        refine T.iload_n (pc' := 18) (q_d dX6_fault_0 10 rfl) rfl rfl rfl ?_
        refine T.ldc (pc' := 20) (v := nI 4293967292) (q_d dX6_fault_0 11 rfl) rfl wN_X6_91 ?_
        refine T.icmp_eqN (tgt := 27) (pc' := 23) (q_d dX6_fault_0 12 rfl) rfl (by decide) (by omega) (by omega) (fun h20 => ?_) (fun h20 => ?_)
        · exact absurd h20 (by omega)
        · refine T.iload_n (pc' := 24) (q_d dX6_fault_0 13 rfl) rfl rfl rfl ?_
          refine T.if_neN (tgt := 31) (pc' := 27) (q_d dX6_fault_0 14 rfl) rfl (by decide) (by omega) (fun h24 => ?_) (fun h24 => ?_)
          · refine T.aload_n (pc' := 32) (q_d dX6_fault_0 17 rfl) rfl rfl rfl ?_
            refine T.getI (pc' := 35) (ci := 6) (k0 := 8) (q_d dX6_fault_0 18 rfl) rfl rfl (by decide) rfl inX6 (by decide) rfl wF_X6_134 (f2 e0) ?_
            refine T.iret (q_d dX6_fault_0 19 rfl) rfl rfl rfl ?_
            refine ⟨?_, f1⟩
            unfold qFault
            rw [if_pos a1, if_neg e0]
            first
              | (rw [if_pos h24]; done)
              | (rw [if_neg h24]; done)
          · refine T.iload_n (pc' := 28) (q_d dX6_fault_0 15 rfl) rfl rfl rfl ?_
            refine T.goto (tgt := 35) (q_d dX6_fault_0 16 rfl) (by decide) ?_
            refine T.iret (q_d dX6_fault_0 19 rfl) rfl rfl rfl ?_
            refine ⟨?_, f1⟩
            unfold qFault
            rw [if_pos a1, if_neg e0]
            first
              | (rw [if_pos h24]; done)
              | (rw [if_neg h24]; done)
      · exact absurd h6 (by rw [if_pos z1]; decide)
  · have z1 : ¬ inS u 0 1 = true := fun q => a1 (e.mp q).2
    refine T.iload_n (pc' := 1) (q_d dX6_fault_0 0 rfl) rfl rfl rfl ?_
    refine T.iconst (pc' := 2) (v := nI 0) (q_d dX6_fault_0 1 rfl) rfl (by decide) ?_
    refine T.iconst (pc' := 3) (v := nI 1) (q_d dX6_fault_0 2 rfl) rfl (by decide) ?_
    refine T.callS (pc' := 6) (q_d dX6_fault_0 3 rfl) rfl uX6_in wM_X6_43 (m_in hu (by decide) (hi := 1) (by decide)) rfl rfl (by decide) (Nat.le_of_ble_eq_true rfl) rfl rfl (fun _ => rfl) ?_
    rintro _ _ ⟨rfl, rfl⟩
    dsimp only [Option.toList, List.cons_append, List.nil_append, List.append_nil]
    refine T.if_neN (tgt := 12) (pc' := 9) (q_d dX6_fault_0 4 rfl) rfl (by decide) (by split <;> decide) (fun h6 => ?_) (fun h6 => ?_)
    · exact absurd (if_neg z1) h6
    · refine T.ldc (pc' := 11) (v := nI 4293967295) (q_d dX6_fault_0 5 rfl) rfl wN_X6_47 ?_
      refine T.iret (q_d dX6_fault_0 6 rfl) rfl rfl rfl ?_
      exact ⟨by unfold qFault; rw [if_neg a1], hX.le (by omega)⟩
end CMB
