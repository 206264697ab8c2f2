/-! BlindHunts$Moves.build, and the rounds of a State -/
/-- a round is made -/
def sRound (s : Nat → Nat) (c g : Nat) : Nat → Nat := fun j =>
  if j = 1 then thn s (s 1) c g else if j = 2 then s 2 + 1 else if j = 3 then (if dif (s 1) c = 0 then 1 else s 3) else if j = 28 then c else if j = 29 then g else if j = 30 then thn s (s 1) c g else if 31 ≤ j ∧ j < 52 then s (j - 3) else s j
abbrev canR (s : Nat → Nat) (c g : Nat) : Prop := s 1 ≠ 0 ∧ (dif (s 1) c = 0 ∨ thn s (s 1) c g ≠ 0)
section CX1B
variable {l : Launch} {M : qM} {o b : Nat} {s : Nat → Nat} {pa : Nat → Nat} {sw : Bool}
theorem c_build (hP : M.2.2 = pX pa sw) (hs : RS M 1 s) (hw : WF b s) (hz : ∀ g, g < 5 → M.1 (22 + g) 0 = 0) : Ct l hdX kX mX1_build [.ref 20, .ref 1] M (fun v M' => v = none ∧ M'.2 = M.2 ∧ (∀ a, a < 20 ∨ 28 < a → M'.1 a = M.1 a) ∧ RT M' s) := by
  refine Ct.of [some (.ref 20), some (.ref 1), none] (by decide +kernel) (fun h => absurd h (by decide)) (Nat.le_of_ble_eq_true rfl) rfl ?_
  have w7 := hw.1
  have w0 := p2_le hw.1
  have w4 := hw.2.2.2.1
  have ho1 : SO 1 := Or.inl rfl
  have loopB : ∀ d k (M' : qM), k + d = s 0 → M'.2 = M.2 → (∀ a, a < 20 ∨ 28 < a → M'.1 a = M.1 a) → M'.1 20 5 = (if s 4 = 3 then 1 else 0) → M'.1 20 4 = 2 ^ s 0 → (∀ g, g < 5 → ∀ x, x < 2 ^ k → M'.1 (22 + g) x = gon s g x k) →
      T l hdX kX mX1_build (fun v M' => v = none ∧ M'.2 = M.2 ∧ (∀ a, a < 20 ∨ 28 < a → M'.1 a = M.1 a) ∧ RT M' s) 0 0 29 [some (.ref 20), some (.ref 1), some (.int (nI k))] [] M' := by
    intro d
    induction d with
    | zero =>
      intro k M' hk hF ha h5 h4 hg
      have hP' : M'.2.2 = pX pa sw := by rw [hF]; exact hP
      have hs' : RS M' 1 s := hs.mono (fun a h1 h2 => ha a (by omega))
      have h0 : M'.1 1 0 = s 0 := hs'.1
      have e : k = s 0 := by omega
      subst e
      refine T.iload_n (pc' := 30) (q_d dX1_build_0 17 rfl) rfl rfl rfl ?_
      refine T.aload_n (pc' := 31) (q_d dX1_build_0 18 rfl) rfl rfl rfl ?_
      refine T.getI (pc' := 34) (ci := 3) (k0 := 0) (q_d dX1_build_0 19 rfl) rfl rfl (by decide) rfl inX3 (by decide) rfl wF_X1_39 h0 ?_
      refine T.icmp_geN (tgt := 49) (pc' := 37) (q_d dX1_build_0 20 rfl) rfl (by decide) (by omega) (by omega) (fun h34 => ?_) (fun h34 => ?_)
      · refine T.aload_n (pc' := 50) (q_d dX1_build_0 27 rfl) rfl rfl rfl ?_
        refine T.aload_n (pc' := 51) (q_d dX1_build_0 28 rfl) rfl rfl rfl ?_
        refine T.getR (pc' := 54) (ci := 3) (k0 := 4) (q_d dX1_build_0 29 rfl) rfl rfl (by decide) rfl inX3 (by decide) rfl wF_X1_32 (rP hP' rfl) ?_
        refine T.iconst (pc' := 55) (v := nI 2) (q_d dX1_build_0 30 rfl) rfl (by decide) ?_
        refine T.iald (pc' := 56) (q_d dX1_build_0 31 rfl) rfl rfl (by decide) rfl (by omega) (by decide) (show M'.1 5 2 = s 6 from hs'.2.2.2.2.2.2.1 2 (by decide)) ?_
        refine T.callV (pc' := 59) (ci := 1) (q_d dX1_build_0 32 rfl) rfl uX1_listChecks wM_X1_46 (c_listChecks hP' hw h4) rfl rfl (by decide) rfl rfl (by decide) (Nat.le_of_ble_eq_true rfl) rfl rfl (fun _ => rfl) ?_
        rintro _ M2 ⟨rfl, f1, f2, f3, f4, f5⟩
        dsimp only [Option.toList, List.cons_append, List.nil_append, List.append_nil]
        refine T.vret (q_d dX1_build_0 33 rfl) rfl rfl rfl ?_
        refine ⟨rfl, f1.trans hF, fun a h9 => (f2 a (by omega)).trans (ha a h9), fun g h9 x hx => ?_, ?_, ?_, f4, f5⟩
        · rw [f2 (22 + g) (by omega)]; exact hg g h9 x hx
        · rw [f3 5 (by decide)]; exact h5
        · rw [f3 4 (by decide)]; exact h4
      · exact absurd h34 (by omega)
    | succ d ih =>
      intro k M' hk hF ha h5 h4 hg
      have hP' : M'.2.2 = pX pa sw := by rw [hF]; exact hP
      have hs' : RS M' 1 s := hs.mono (fun a h1 h2 => ha a (by omega))
      have h0 : M'.1 1 0 = s 0 := hs'.1
      refine T.iload_n (pc' := 30) (q_d dX1_build_0 17 rfl) rfl rfl rfl ?_
      refine T.aload_n (pc' := 31) (q_d dX1_build_0 18 rfl) rfl rfl rfl ?_
      refine T.getI (pc' := 34) (ci := 3) (k0 := 0) (q_d dX1_build_0 19 rfl) rfl rfl (by decide) rfl inX3 (by decide) rfl wF_X1_39 h0 ?_
      refine T.icmp_geN (tgt := 49) (pc' := 37) (q_d dX1_build_0 20 rfl) rfl (by decide) (by omega) (by omega) (fun h34 => ?_) (fun h34 => ?_)
      · exact absurd h34 (by omega)
      · refine T.aload_n (pc' := 38) (q_d dX1_build_0 21 rfl) rfl rfl rfl ?_
        refine T.aload_n (pc' := 39) (q_d dX1_build_0 22 rfl) rfl rfl rfl ?_
        refine T.iload_n (pc' := 40) (q_d dX1_build_0 23 rfl) rfl rfl rfl ?_
        refine T.callV (pc' := 43) (ci := 1) (q_d dX1_build_0 24 rfl) rfl uX1_buildPlace wM_X1_42 (c_buildPlace hP' hs' hw (show k < s 0 by omega) hg) rfl rfl (by decide) rfl rfl (by decide) (Nat.le_of_ble_eq_true rfl) rfl rfl (fun _ => rfl) ?_
        rintro _ M2 ⟨rfl, f1, f2, f3⟩
        dsimp only [Option.toList, List.cons_append, List.nil_append, List.append_nil]
        refine T.iinc (pc' := 46) (q_d dX1_build_0 25 rfl) rfl rfl (nN_p _ 1) (by decide) rfl rfl ?_
        refine T.goto (tgt := 29) (q_d dX1_build_0 26 rfl) (by decide) ?_
        exact ih (k + 1) M2 (by omega) (f1.trans hF) (fun a h9 => (f2 a (by omega)).trans (ha a h9)) (by rw [f2 20 (by omega)]; exact h5) (by rw [f2 20 (by omega)]; exact h4) f3
  have hst : ∀ {x : Nat}, (qI M 20 4 x).1 5 0 = s 4 := fun {x} => (qI_ne (Or.inl (by decide))).trans (show M.1 (1 + 4) 0 = s (4 + 0) from hs.2.2.2.2.2.2.1 0 (by decide))
  refine T.aload_n (pc' := 1) (q_d dX1_build_0 0 rfl) rfl rfl rfl ?_
  refine T.aload_n (pc' := 2) (q_d dX1_build_0 1 rfl) rfl rfl rfl ?_
  refine T.callV (pc' := 5) (ci := 3) (q_d dX1_build_0 2 rfl) rfl uX3_sets wM_X1_23 (c_sets ho1 hP hs hw) rfl rfl (by decide) rfl rfl (by decide) (Nat.le_of_ble_eq_true rfl) rfl rfl (fun _ => rfl) ?_
  rintro _ _ ⟨rfl, rfl⟩
  dsimp only [Option.toList, List.cons_append, List.nil_append, List.append_nil]
  refine T.putI (pc' := 8) (ci := 1) (k0 := 4) (q_d dX1_build_0 3 rfl) rfl rfl (by decide) rfl inX1 tyX1 tyX1_ok nmX1 (by decide) rfl wF_X1_29 rfl rfl rfl ?_
  refine T.aload_n (pc' := 9) (q_d dX1_build_0 4 rfl) rfl rfl rfl ?_
  refine T.aload_n (pc' := 10) (q_d dX1_build_0 5 rfl) rfl rfl rfl ?_
  refine T.getR (pc' := 13) (ci := 3) (k0 := 4) (q_d dX1_build_0 6 rfl) rfl rfl (by decide) rfl inX3 (by decide) rfl wF_X1_32 (rP hP rfl) ?_
  refine T.iconst (pc' := 14) (v := nI 0) (q_d dX1_build_0 7 rfl) rfl (by decide) ?_
  refine T.iald (pc' := 15) (q_d dX1_build_0 8 rfl) rfl rfl (by decide) rfl (by omega) (by decide) hst ?_
  refine T.iconst (pc' := 16) (v := nI 3) (q_d dX1_build_0 9 rfl) rfl (by decide) ?_
  refine T.icmp_neN (tgt := 23) (pc' := 19) (q_d dX1_build_0 10 rfl) rfl (by decide) (by omega) (by omega) (fun h16 => ?_) (fun h16 => ?_)
  · refine T.iconst (pc' := 24) (v := nI 0) (q_d dX1_build_0 13 rfl) rfl (by decide) ?_
    refine T.putI (pc' := 27) (ci := 1) (k0 := 5) (q_d dX1_build_0 14 rfl) rfl rfl (by decide) rfl inX1 tyX1 tyX1_ok nmX1 (by decide) rfl wF_X1_35 rfl (by decide) (by decide) ?_
    refine T.iconst (pc' := 28) (v := nI 0) (q_d dX1_build_0 15 rfl) rfl (by decide) ?_
    refine T.istore_n (pc' := 29) (q_d dX1_build_0 16 rfl) rfl rfl (by decide) rfl rfl ?_
    refine loopB (s 0) 0 _ (by omega) rfl (fun a h9 => ?_) ?_ ?_ (fun g h9 x hx => ?_)
    · funext j; rw [qI_ne (Or.inl (by omega)), qI_ne (Or.inl (by omega))]
    · rw [qI_eq]; first | rw [if_pos h16] | rw [if_neg h16]
    · rw [qI_ne (Or.inr (by decide)), qI_eq, Nat.one_shiftLeft]
    · rw [show x = 0 by simpa using hx, qI_ne (Or.inl (by omega)), qI_ne (Or.inl (by omega)), hz g h9]; rfl
  · refine T.iconst (pc' := 20) (v := nI 1) (q_d dX1_build_0 11 rfl) rfl (by decide) ?_
    refine T.goto (tgt := 24) (q_d dX1_build_0 12 rfl) (by decide) ?_
    refine T.putI (pc' := 27) (ci := 1) (k0 := 5) (q_d dX1_build_0 14 rfl) rfl rfl (by decide) rfl inX1 tyX1 tyX1_ok nmX1 (by decide) rfl wF_X1_35 rfl (by decide) (by decide) ?_
    refine T.iconst (pc' := 28) (v := nI 0) (q_d dX1_build_0 15 rfl) rfl (by decide) ?_
    refine T.istore_n (pc' := 29) (q_d dX1_build_0 16 rfl) rfl rfl (by decide) rfl rfl ?_
    refine loopB (s 0) 0 _ (by omega) rfl (fun a h9 => ?_) ?_ ?_ (fun g h9 x hx => ?_)
    · funext j; rw [qI_ne (Or.inl (by omega)), qI_ne (Or.inl (by omega))]
    · rw [qI_eq]; first | rw [if_pos h16] | rw [if_neg h16]
    · rw [qI_ne (Or.inr (by decide)), qI_eq, Nat.one_shiftLeft]
    · rw [show x = 0 by simpa using hx, qI_ne (Or.inl (by omega)), qI_ne (Or.inl (by omega)), hz g h9]; rfl
theorem c_canBeRound (ho : SO o) (hP : M.2.2 = pX pa sw) (hs : RS M o s) (hw : WF b s) (hT : RT M s) {c g : Nat} (hg : g < 4) : Ct l hdX kX mX3_canBeRound [.ref o, .ref 20, .int (nI c), .int (nI g)] M (fun v M' => M = M' ∧ ((v = some (.int (nI 1)) ∧ canR s c g) ∨ (v = some (.int (nI 0)) ∧ ¬ canR s c g))) := by
  refine Ct.of [some (.ref o), some (.ref 20), some (.int (nI c)), some (.int (nI g)), none] (by decide +kernel) (fun h => absurd h (by decide)) (Nat.le_of_ble_eq_true rfl) rfl ?_
  have h1 := hs.2.1
  have w0 := p2_le hw.1
  have w1 := hw.2.1
  have wt := thn_lt (s := s) (b := s 1) (c := c) (g := g) hw.1
  have wd : dif (s 1) c < 2 ^ s 0 := dif_lt w1
  have ed : s 1 &&& (c ^^^ 4294967295) = dif (s 1) c := rfl
  refine T.aload_n (pc' := 1) (q_d dX3_canBeRound_0 0 rfl) rfl rfl rfl ?_
  refine T.getI (pc' := 4) (ci := 3) (k0 := 5) (q_d dX3_canBeRound_0 1 rfl) rfl (SO.o ho) (Nat.lt_of_le_of_lt (Nat.le_add_right _ _) (SO.lt ho)) rfl inX3 (by decide) rfl wF_X3_37 h1 ?_
  refine T.if_neN (tgt := 9) (pc' := 7) (q_d dX3_canBeRound_0 2 rfl) rfl (by decide) (by omega) (fun h4 => ?_) (fun h4 => ?_)
  · refine T.aload_n (pc' := 10) (q_d dX3_canBeRound_0 5 rfl) rfl rfl rfl ?_
    refine T.getI (pc' := 13) (ci := 3) (k0 := 5) (q_d dX3_canBeRound_0 6 rfl) rfl (SO.o ho) (Nat.lt_of_le_of_lt (Nat.le_add_right _ _) (SO.lt ho)) rfl inX3 (by decide) rfl wF_X3_37 h1 ?_
    refine T.iload_n (pc' := 14) (q_d dX3_canBeRound_0 7 rfl) rfl rfl rfl ?_
    refine T.iconst (pc' := 15) (v := nI 4294967295) (q_d dX3_canBeRound_0 8 rfl) rfl (by decide) ?_
    refine T.ixor (pc' := 16) (q_d dX3_canBeRound_0 9 rfl) rfl (nN_xor _ _) ?_
    refine T.iand (pc' := 17) (q_d dX3_canBeRound_0 10 rfl) rfl ((nN_and _ _).trans (by rw [ed])) ?_
    refine T.if_neN (tgt := 24) (pc' := 20) (q_d dX3_canBeRound_0 11 rfl) rfl (by decide) (by omega) (fun h17 => ?_) (fun h17 => ?_)
    · refine T.iconst (pc' := 25) (v := nI 0) (q_d dX3_canBeRound_0 14 rfl) rfl (by decide) ?_
      refine T.istore (pc' := 27) (q_d dX3_canBeRound_0 15 rfl) rfl (by decide) rfl rfl ?_
      refine T.iload (pc' := 29) (q_d dX3_canBeRound_0 16 rfl) rfl rfl ?_
      refine T.if_neN (tgt := 45) (pc' := 32) (q_d dX3_canBeRound_0 17 rfl) rfl (by decide) (by omega) (fun h29 => ?_) (fun h29 => ?_)
      · refine T.iconst (pc' := 46) (v := nI 1) (q_d dX3_canBeRound_0 25 rfl) rfl (by decide) ?_
        refine T.goto (tgt := 50) (q_d dX3_canBeRound_0 26 rfl) (by decide) ?_
        refine T.zret (q_d dX3_canBeRound_0 28 rfl) rfl (by decide) rfl rfl ?_
        first
          | exact ⟨rfl, Or.inl ⟨rfl, h4, Or.inl h17⟩⟩
          | exact ⟨rfl, Or.inl ⟨rfl, h4, Or.inr h42⟩⟩
          | exact ⟨rfl, Or.inr ⟨rfl, fun h => h.2.elim h17 (fun h9 => h9 h42)⟩⟩
          | exact absurd h29 (by decide)
      · refine T.aload_n (pc' := 33) (q_d dX3_canBeRound_0 18 rfl) rfl rfl rfl ?_
        refine T.aload_n (pc' := 34) (q_d dX3_canBeRound_0 19 rfl) rfl rfl rfl ?_
        refine T.getI (pc' := 37) (ci := 3) (k0 := 5) (q_d dX3_canBeRound_0 20 rfl) rfl (SO.o ho) (Nat.lt_of_le_of_lt (Nat.le_add_right _ _) (SO.lt ho)) rfl inX3 (by decide) rfl wF_X3_37 h1 ?_
        refine T.iload_n (pc' := 38) (q_d dX3_canBeRound_0 21 rfl) rfl rfl rfl ?_
        refine T.iload_n (pc' := 39) (q_d dX3_canBeRound_0 22 rfl) rfl rfl rfl ?_
        refine T.callV (pc' := 42) (ci := 1) (q_d dX3_canBeRound_0 23 rfl) rfl uX1_after wM_X3_59 (c_after hP hw hT w1 (show g < 5 by omega)) rfl rfl (by decide) rfl rfl (by decide) (Nat.le_of_ble_eq_true rfl) rfl rfl (fun _ => rfl) ?_
        rintro _ _ ⟨rfl, rfl⟩
        dsimp only [Option.toList, List.cons_append, List.nil_append, List.append_nil]
        refine T.if_eqN (tgt := 49) (pc' := 45) (q_d dX3_canBeRound_0 24 rfl) rfl (by decide) (by omega) (fun h42 => ?_) (fun h42 => ?_)
        · refine T.iconst (pc' := 50) (v := nI 0) (q_d dX3_canBeRound_0 27 rfl) rfl (by decide) ?_
          refine T.zret (q_d dX3_canBeRound_0 28 rfl) rfl (by decide) rfl rfl ?_
          first
            | exact ⟨rfl, Or.inl ⟨rfl, h4, Or.inl h17⟩⟩
            | exact ⟨rfl, Or.inl ⟨rfl, h4, Or.inr h42⟩⟩
            | exact ⟨rfl, Or.inr ⟨rfl, fun h => h.2.elim h17 (fun h9 => h9 h42)⟩⟩
            | exact absurd h29 (by decide)
        · refine T.iconst (pc' := 46) (v := nI 1) (q_d dX3_canBeRound_0 25 rfl) rfl (by decide) ?_
          refine T.goto (tgt := 50) (q_d dX3_canBeRound_0 26 rfl) (by decide) ?_
          refine T.zret (q_d dX3_canBeRound_0 28 rfl) rfl (by decide) rfl rfl ?_
          first
            | exact ⟨rfl, Or.inl ⟨rfl, h4, Or.inl h17⟩⟩
            | exact ⟨rfl, Or.inl ⟨rfl, h4, Or.inr h42⟩⟩
            | exact ⟨rfl, Or.inr ⟨rfl, fun h => h.2.elim h17 (fun h9 => h9 h42)⟩⟩
            | exact absurd h29 (by decide)
    · refine T.iconst (pc' := 21) (v := nI 1) (q_d dX3_canBeRound_0 12 rfl) rfl (by decide) ?_
      refine T.goto (tgt := 25) (q_d dX3_canBeRound_0 13 rfl) (by decide) ?_
      refine T.istore (pc' := 27) (q_d dX3_canBeRound_0 15 rfl) rfl (by decide) rfl rfl ?_
      refine T.iload (pc' := 29) (q_d dX3_canBeRound_0 16 rfl) rfl rfl ?_
      refine T.if_neN (tgt := 45) (pc' := 32) (q_d dX3_canBeRound_0 17 rfl) rfl (by decide) (by omega) (fun h29 => ?_) (fun h29 => ?_)
      · refine T.iconst (pc' := 46) (v := nI 1) (q_d dX3_canBeRound_0 25 rfl) rfl (by decide) ?_
        refine T.goto (tgt := 50) (q_d dX3_canBeRound_0 26 rfl) (by decide) ?_
        refine T.zret (q_d dX3_canBeRound_0 28 rfl) rfl (by decide) rfl rfl ?_
        first
          | exact ⟨rfl, Or.inl ⟨rfl, h4, Or.inl h17⟩⟩
          | exact ⟨rfl, Or.inl ⟨rfl, h4, Or.inr h42⟩⟩
          | exact ⟨rfl, Or.inr ⟨rfl, fun h => h.2.elim h17 (fun h9 => h9 h42)⟩⟩
          | exact absurd h29 (by decide)
      · refine T.aload_n (pc' := 33) (q_d dX3_canBeRound_0 18 rfl) rfl rfl rfl ?_
        refine T.aload_n (pc' := 34) (q_d dX3_canBeRound_0 19 rfl) rfl rfl rfl ?_
        refine T.getI (pc' := 37) (ci := 3) (k0 := 5) (q_d dX3_canBeRound_0 20 rfl) rfl (SO.o ho) (Nat.lt_of_le_of_lt (Nat.le_add_right _ _) (SO.lt ho)) rfl inX3 (by decide) rfl wF_X3_37 h1 ?_
        refine T.iload_n (pc' := 38) (q_d dX3_canBeRound_0 21 rfl) rfl rfl rfl ?_
        refine T.iload_n (pc' := 39) (q_d dX3_canBeRound_0 22 rfl) rfl rfl rfl ?_
        refine T.callV (pc' := 42) (ci := 1) (q_d dX3_canBeRound_0 23 rfl) rfl uX1_after wM_X3_59 (c_after hP hw hT w1 (show g < 5 by omega)) rfl rfl (by decide) rfl rfl (by decide) (Nat.le_of_ble_eq_true rfl) rfl rfl (fun _ => rfl) ?_
        rintro _ _ ⟨rfl, rfl⟩
        dsimp only [Option.toList, List.cons_append, List.nil_append, List.append_nil]
        refine T.if_eqN (tgt := 49) (pc' := 45) (q_d dX3_canBeRound_0 24 rfl) rfl (by decide) (by omega) (fun h42 => ?_) (fun h42 => ?_)
        · refine T.iconst (pc' := 50) (v := nI 0) (q_d dX3_canBeRound_0 27 rfl) rfl (by decide) ?_
          refine T.zret (q_d dX3_canBeRound_0 28 rfl) rfl (by decide) rfl rfl ?_
          first
            | exact ⟨rfl, Or.inl ⟨rfl, h4, Or.inl h17⟩⟩
            | exact ⟨rfl, Or.inl ⟨rfl, h4, Or.inr h42⟩⟩
            | exact ⟨rfl, Or.inr ⟨rfl, fun h => h.2.elim h17 (fun h9 => h9 h42)⟩⟩
            | exact absurd h29 (by decide)
        · refine T.iconst (pc' := 46) (v := nI 1) (q_d dX3_canBeRound_0 25 rfl) rfl (by decide) ?_
          refine T.goto (tgt := 50) (q_d dX3_canBeRound_0 26 rfl) (by decide) ?_
          refine T.zret (q_d dX3_canBeRound_0 28 rfl) rfl (by decide) rfl rfl ?_
          first
            | exact ⟨rfl, Or.inl ⟨rfl, h4, Or.inl h17⟩⟩
            | exact ⟨rfl, Or.inl ⟨rfl, h4, Or.inr h42⟩⟩
            | exact ⟨rfl, Or.inr ⟨rfl, fun h => h.2.elim h17 (fun h9 => h9 h42)⟩⟩
            | exact absurd h29 (by decide)
  · refine T.iconst (pc' := 8) (v := nI 0) (q_d dX3_canBeRound_0 3 rfl) rfl (by decide) ?_
    refine T.zret (q_d dX3_canBeRound_0 4 rfl) rfl (by decide) rfl rfl ?_
    exact ⟨rfl, Or.inr ⟨rfl, fun h => h.1 h4⟩⟩
theorem c_addRound (ho : SO o) (hP : M.2.2 = pX pa sw) (hs : RS M o s) (hw : WF b s) (hT : RT M s) {c g : Nat} (hg : g < 4) : Ct l hdX kX mX3_addRound [.ref o, .ref 20, .int (nI c), .int (nI g)] M (fun v M' => v = none ∧ M' = qI (qI (qI (qI (qI M o 5 (thn s (s 1) c g)) (o + 5) (s 2 % 8) c) (o + 6) (s 2 % 8) g) (o + 7) (s 2 % 8) (thn s (s 1) c g)) o 6 (s 2 + 1)) := by
  refine Ct.of [some (.ref o), some (.ref 20), some (.int (nI c)), some (.int (nI g)), none] (by decide +kernel) (fun h => absurd h (by decide)) (Nat.le_of_ble_eq_true rfl) rfl ?_
  have h1 := hs.2.1
  have h2 := hs.2.2.1
  have w1 := hw.2.1
  have m8 : s 2 % 8 < 8 := Nat.mod_lt _ (by decide)
  refine T.aload_n (pc' := 1) (q_d dX3_addRound_0 0 rfl) rfl rfl rfl ?_
  refine T.aload_n (pc' := 2) (q_d dX3_addRound_0 1 rfl) rfl rfl rfl ?_
  refine T.aload_n (pc' := 3) (q_d dX3_addRound_0 2 rfl) rfl rfl rfl ?_
  refine T.getI (pc' := 6) (ci := 3) (k0 := 5) (q_d dX3_addRound_0 3 rfl) rfl (SO.o ho) (Nat.lt_of_le_of_lt (Nat.le_add_right _ _) (SO.lt ho)) rfl inX3 (by decide) rfl wF_X3_37 h1 ?_
  refine T.iload_n (pc' := 7) (q_d dX3_addRound_0 4 rfl) rfl rfl rfl ?_
  refine T.iload_n (pc' := 8) (q_d dX3_addRound_0 5 rfl) rfl rfl rfl ?_
  refine T.callV (pc' := 11) (ci := 1) (q_d dX3_addRound_0 6 rfl) rfl uX1_after wM_X3_59 (c_after hP hw hT w1 (show g < 5 by omega)) rfl rfl (by decide) rfl rfl (by decide) (Nat.le_of_ble_eq_true rfl) rfl rfl (fun _ => rfl) ?_
  rintro _ _ ⟨rfl, rfl⟩
  dsimp only [Option.toList, List.cons_append, List.nil_append, List.append_nil]
  refine T.putI (pc' := 14) (ci := 3) (k0 := 5) (q_d dX3_addRound_0 7 rfl) rfl (SO.o ho) (Nat.lt_of_le_of_lt (Nat.le_add_right _ _) (SO.lt ho)) rfl inX3 tyX3 tyX3_ok nmX3 (by decide) rfl wF_X3_37 rfl rfl rfl ?_
  refine T.aload_n (pc' := 15) (q_d dX3_addRound_0 8 rfl) rfl rfl rfl ?_
  refine T.getI (pc' := 18) (ci := 3) (k0 := 6) (q_d dX3_addRound_0 9 rfl) rfl (SO.o ho) (Nat.lt_of_le_of_lt (Nat.le_add_right _ _) (SO.lt ho)) rfl inX3 (by decide) rfl wF_X3_40 ((qI_ne (Or.inr (by decide))).trans h2) ?_
  refine T.callS (pc' := 21) (q_d dX3_addRound_0 10 rfl) rfl uX3_rowOfRound wM_X3_65 c_rowOfRound rfl rfl (by decide) (Nat.le_of_ble_eq_true rfl) rfl rfl (fun _ => rfl) ?_
  rintro _ _ ⟨rfl, rfl⟩
  dsimp only [Option.toList, List.cons_append, List.nil_append, List.append_nil]
  refine T.istore (pc' := 23) (q_d dX3_addRound_0 11 rfl) rfl (by decide) rfl rfl ?_
  refine T.aload_n (pc' := 24) (q_d dX3_addRound_0 12 rfl) rfl rfl rfl ?_
  refine T.getR (pc' := 27) (ci := 3) (k0 := 7) (q_d dX3_addRound_0 13 rfl) rfl (SO.o ho) (Nat.lt_of_le_of_lt (Nat.le_add_right _ _) (SO.lt ho)) rfl inX3 (by decide) rfl wF_X3_24 (rP hP (SO.p7 ho)) ?_
  refine T.iload (pc' := 29) (q_d dX3_addRound_0 14 rfl) rfl rfl ?_
  refine T.iload_n (pc' := 30) (q_d dX3_addRound_0 15 rfl) rfl rfl rfl ?_
  refine T.iast (pc' := 31) (q_d dX3_addRound_0 16 rfl) rfl (SO.a5 ho) (Nat.lt_of_le_of_lt (by omega) (SO.lt ho)) rfl (by omega) (by decide) ?_
  refine T.aload_n (pc' := 32) (q_d dX3_addRound_0 17 rfl) rfl rfl rfl ?_
  refine T.getR (pc' := 35) (ci := 3) (k0 := 8) (q_d dX3_addRound_0 18 rfl) rfl (SO.o ho) (Nat.lt_of_le_of_lt (Nat.le_add_right _ _) (SO.lt ho)) rfl inX3 (by decide) rfl wF_X3_27 (rP hP (SO.p8 ho)) ?_
  refine T.iload (pc' := 37) (q_d dX3_addRound_0 19 rfl) rfl rfl ?_
  refine T.iload_n (pc' := 38) (q_d dX3_addRound_0 20 rfl) rfl rfl rfl ?_
  refine T.iast (pc' := 39) (q_d dX3_addRound_0 21 rfl) rfl (SO.a6 ho) (Nat.lt_of_le_of_lt (by omega) (SO.lt ho)) rfl (by omega) (by decide) ?_
  refine T.aload_n (pc' := 40) (q_d dX3_addRound_0 22 rfl) rfl rfl rfl ?_
  refine T.getR (pc' := 43) (ci := 3) (k0 := 9) (q_d dX3_addRound_0 23 rfl) rfl (SO.o ho) (Nat.lt_of_le_of_lt (Nat.le_add_right _ _) (SO.lt ho)) rfl inX3 (by decide) rfl wF_X3_30 (rP hP (SO.p9 ho)) ?_
  refine T.iload (pc' := 45) (q_d dX3_addRound_0 24 rfl) rfl rfl ?_
  refine T.aload_n (pc' := 46) (q_d dX3_addRound_0 25 rfl) rfl rfl rfl ?_
  refine T.getI (pc' := 49) (ci := 3) (k0 := 5) (q_d dX3_addRound_0 26 rfl) rfl (SO.o ho) (Nat.lt_of_le_of_lt (Nat.le_add_right _ _) (SO.lt ho)) rfl inX3 (by decide) rfl wF_X3_37 (by rw [qI_ne (Or.inl (by omega)), qI_ne (Or.inl (by omega)), qI_eq]) ?_
  refine T.iast (pc' := 50) (q_d dX3_addRound_0 27 rfl) rfl (SO.a7 ho) (Nat.lt_of_le_of_lt (by omega) (SO.lt ho)) rfl (by omega) (by decide) ?_
  refine T.aload_n (pc' := 51) (q_d dX3_addRound_0 28 rfl) rfl rfl rfl ?_
  refine T.dup (pc' := 52) (q_d dX3_addRound_0 29 rfl) rfl rfl ?_
  refine T.getI (pc' := 55) (ci := 3) (k0 := 6) (q_d dX3_addRound_0 30 rfl) rfl (SO.o ho) (Nat.lt_of_le_of_lt (Nat.le_add_right _ _) (SO.lt ho)) rfl inX3 (by decide) rfl wF_X3_40 (by rw [qI_ne (Or.inl (by omega)), qI_ne (Or.inl (by omega)), qI_ne (Or.inl (by omega)), qI_ne (Or.inr (by decide)), h2]) ?_
  refine T.iconst (pc' := 56) (v := nI 1) (q_d dX3_addRound_0 31 rfl) rfl (by decide) ?_
  refine T.iadd (pc' := 57) (q_d dX3_addRound_0 32 rfl) rfl (nI_add _ _) ?_
  refine T.putI (pc' := 60) (ci := 3) (k0 := 6) (q_d dX3_addRound_0 33 rfl) rfl (SO.o ho) (Nat.lt_of_le_of_lt (Nat.le_add_right _ _) (SO.lt ho)) rfl inX3 tyX3 tyX3_ok nmX3 (by decide) rfl wF_X3_40 rfl rfl rfl ?_
  refine T.vret (q_d dX3_addRound_0 34 rfl) rfl rfl rfl ?_
  exact ⟨rfl, rfl⟩
end CX1B
theorem RS_round {M : qM} {o b : Nat} {s : Nat → Nat} (hs : RS M o s) (hw : WF b s) {c g : Nat} : RS (qI (qI (qI (qI (qI M o 5 (thn s (s 1) c g)) (o + 5) (s 2 % 8) c) (o + 6) (s 2 % 8) g) (o + 7) (s 2 % 8) (thn s (s 1) c g)) o 6 (s 2 + 1)) o (sRound s c g) := by
  obtain ⟨e0, e1, e2, e3, e4, e5, e6, e7⟩ := hs
  have f : ∀ j, j ≠ 1 → j ≠ 2 → j ≠ 3 → j < 28 → sRound s c g j = s j := fun j a1 a2 a3 a4 => by
    unfold sRound
    rw [if_neg a1, if_neg a2, if_neg a3, if_neg (by omega), if_neg (by omega), if_neg (by omega), if_neg (by omega)]
  refine ⟨?_, ?_, ?_, fun i hi => ?_, fun i hi => ?_, fun i hi => ?_, fun i hi => ?_, fun k hk hk2 => ?_⟩
  · rw [qI_ne (Or.inr (by decide)), qI_ne (Or.inl (by omega)), qI_ne (Or.inl (by omega)), qI_ne (Or.inl (by omega)), qI_ne (Or.inr (by decide)), f 0 (by decide) (by decide) (by decide) (by decide)]; exact e0
  · rw [qI_ne (Or.inr (by decide)), qI_ne (Or.inl (by omega)), qI_ne (Or.inl (by omega)), qI_ne (Or.inl (by omega)), qI_eq]; rfl
  · rw [qI_eq]; rfl
  · rw [qI_ne (Or.inl (by omega)), qI_ne (Or.inl (by omega)), qI_ne (Or.inl (by omega)), qI_ne (Or.inl (by omega)), qI_ne (Or.inl (by omega)), f _ (by omega) (by omega) (by omega) (by omega)]; exact e3 i hi
  · rw [qI_ne (Or.inl (by omega)), qI_ne (Or.inl (by omega)), qI_ne (Or.inl (by omega)), qI_ne (Or.inl (by omega)), qI_ne (Or.inl (by omega)), f _ (by omega) (by omega) (by omega) (by omega)]; exact e4 i hi
  · rw [qI_ne (Or.inl (by omega)), qI_ne (Or.inl (by omega)), qI_ne (Or.inl (by omega)), qI_ne (Or.inl (by omega)), qI_ne (Or.inl (by omega)), f _ (by omega) (by omega) (by omega) (by omega)]; exact e5 i hi
  · rw [qI_ne (Or.inl (by omega)), qI_ne (Or.inl (by omega)), qI_ne (Or.inl (by omega)), qI_ne (Or.inl (by omega)), qI_ne (Or.inl (by omega)), f _ (by omega) (by omega) (by omega) (by omega)]; exact e6 i hi
  · have h2 : sRound s c g 2 = s 2 + 1 := rfl
    rw [h2] at hk2 ⊢
    by_cases e : k = 0
    · subst e
      rw [show (s 2 + 1 - 1 - 0) % 8 = s 2 % 8 by omega]
      refine ⟨?_, ?_, ?_⟩
      · rw [qI_ne (Or.inl (by omega)), qI_ne (Or.inl (by omega)), qI_ne (Or.inl (by omega)), qI_eq]; rfl
      · rw [qI_ne (Or.inl (by omega)), qI_ne (Or.inl (by omega)), qI_eq]; rfl
      · rw [qI_ne (Or.inl (by omega)), qI_eq]; rfl
    · have h9 := e7 (k - 1) (by omega) (by omega)
      have hne : (s 2 + 1 - 1 - k) % 8 ≠ s 2 % 8 := by omega
      have hix : (s 2 + 1 - 1 - k) % 8 = (s 2 - 1 - (k - 1)) % 8 := by omega
      have g1 : ∀ j, 31 ≤ j → j < 52 → sRound s c g j = s (j - 3) := fun j a1 a2 => by
        unfold sRound
        rw [if_neg (by omega), if_neg (by omega), if_neg (by omega), if_neg (by omega), if_neg (by omega), if_neg (by omega), if_pos ⟨a1, a2⟩]
      rw [g1 _ (by omega) (by omega), g1 _ (by omega) (by omega), g1 _ (by omega) (by omega), show 28 + 3 * k - 3 = 28 + 3 * (k - 1) by omega, show 29 + 3 * k - 3 = 29 + 3 * (k - 1) by omega, show 30 + 3 * k - 3 = 30 + 3 * (k - 1) by omega]
      refine ⟨?_, ?_, ?_⟩
      · rw [qI_ne (Or.inl (by omega)), qI_ne (Or.inl (by omega)), qI_ne (Or.inl (by omega)), qI_ne (Or.inr hne), qI_ne (Or.inl (by omega)), hix]; exact h9.1
      · rw [qI_ne (Or.inl (by omega)), qI_ne (Or.inl (by omega)), qI_ne (Or.inr hne), qI_ne (Or.inl (by omega)), qI_ne (Or.inl (by omega)), hix]; exact h9.2.1
      · rw [qI_ne (Or.inl (by omega)), qI_ne (Or.inr hne), qI_ne (Or.inl (by omega)), qI_ne (Or.inl (by omega)), qI_ne (Or.inl (by omega)), hix]; exact h9.2.2
