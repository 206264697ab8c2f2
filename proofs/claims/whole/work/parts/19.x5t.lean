/-! the rounds of the text -/
def stepR (n : Nat) (t s : Nat → Nat) (p : Nat) : Nat × (Nat → Nat) × Nat :=
  if okR n t p = false then (1, s, p)
  else if ¬ goodP (oneV n t p) (othV n t p) (pB n t p - p) (s 0) (s 6) then (2, s, p)
  else if 4 ≤ t (pB n t p + 1) - 48 ∨ ¬ canR s (setP (oneV n t p) (othV n t p)) (t (pB n t p + 1) - 48) then (3, s, p)
  else (0, sRound s (setP (oneV n t p) (othV n t p)) (t (pB n t p + 1) - 48), pB n t p + 3)
def runT (n : Nat) (t : Nat → Nat) : Nat → (Nat → Nat) → Nat → Nat → Nat × (Nat → Nat) × Nat × Nat
  | 0, s, p, r => (0, s, p, r)
  | f + 1, s, p, r => if p < n then (if (stepR n t s p).1 = 0 then runT n t f (stepR n t s p).2.1 (stepR n t s p).2.2 (r + 1) else ((stepR n t s p).1, s, p, r)) else (0, s, p, r)
theorem pA_in {n : Nat} {t : Nat → Nat} {p : Nat} : p ≤ pA n t p ∧ pA n t p ≤ p + 1 := by unfold pA; split <;> omega
theorem pB_in {n : Nat} {t : Nat → Nat} {p : Nat} : p ≤ pB n t p ∧ pB n t p ≤ p + 2 := by have := pA_in (n := n) (t := t) (p := p); unfold pB; split <;> omega
theorem one_in {n : Nat} {t : Nat → Nat} {p : Nat} : oneV n t p = 4294967295 ∨ oneV n t p ≤ 9 := by
  unfold oneV
  split
  · next h => have := dg_iff.mp h; omega
  · exact Or.inl rfl
theorem oth_in {n : Nat} {t : Nat → Nat} {p : Nat} : othV n t p = 4294967295 ∨ othV n t p ≤ 9 := by
  unfold othV
  split
  · next h => have := dg_iff.mp h; omega
  · exact Or.inl rfl
theorem okR_in {n : Nat} {t : Nat → Nat} {p : Nat} (h : okR n t p = true) : pB n t p + 2 < n ∧ 48 ≤ t (pB n t p + 1) ∧ t (pB n t p + 1) ≤ 57 := by
  unfold okR at h
  simp only [Bool.and_eq_true] at h
  exact ⟨(sg_iff.mp h.2.2).1, (dg_iff.mp h.2.1).2⟩
theorem stepR_0 {n : Nat} {t s : Nat → Nat} {p : Nat} (h : (stepR n t s p).1 = 0) : okR n t p = true ∧ goodP (oneV n t p) (othV n t p) (pB n t p - p) (s 0) (s 6) ∧ t (pB n t p + 1) - 48 < 4 ∧ canR s (setP (oneV n t p) (othV n t p)) (t (pB n t p + 1) - 48) ∧ stepR n t s p = (0, sRound s (setP (oneV n t p) (othV n t p)) (t (pB n t p + 1) - 48), pB n t p + 3) := by
  unfold stepR at h ⊢
  by_cases h1 : okR n t p = false
  · rw [if_pos h1] at h; exact absurd h (show ¬ (1 : Nat) = 0 by decide)
  · rw [if_neg h1] at h ⊢
    by_cases h2 : ¬ goodP (oneV n t p) (othV n t p) (pB n t p - p) (s 0) (s 6)
    · rw [if_pos h2] at h; exact absurd h (show ¬ (2 : Nat) = 0 by decide)
    · rw [if_neg h2] at h ⊢
      by_cases h3 : 4 ≤ t (pB n t p + 1) - 48 ∨ ¬ canR s (setP (oneV n t p) (othV n t p)) (t (pB n t p + 1) - 48)
      · rw [if_pos h3] at h; exact absurd h (show ¬ (3 : Nat) = 0 by decide)
      · rw [if_neg h3]
        refine ⟨by simpa using h1, Classical.not_not.mp h2, ?_, ?_, rfl⟩
        · exact Nat.not_le.mp (fun q => h3 (Or.inl q))
        · exact Classical.not_not.mp (fun q => h3 (Or.inr q))
theorem stepR_ne {n : Nat} {t s : Nat → Nat} {p : Nat} : (stepR n t s p).1 ≤ 3 := by
  unfold stepR
  split
  · show (1 : Nat) ≤ 3; decide
  · split
    · show (2 : Nat) ≤ 3; decide
    · split
      · show (3 : Nat) ≤ 3; decide
      · show (0 : Nat) ≤ 3; decide
/-- what trying a round leaves -/
def TrQ (M : qM) (n : Nat) (t s : Nat → Nat) (p : Nat) : Option Value → qM → Prop := fun v M' =>
  v = some (.int (nI (stepR n t s p).1)) ∧ RS M' 9 (stepR n t s p).2.1 ∧ M'.1 18 2 = (stepR n t s p).2.2 ∧ M'.1 18 3 = M.1 18 3 + (if (stepR n t s p).1 = 0 then 1 else 0) ∧ M'.1 18 1 = M.1 18 1 ∧ M'.2 = M.2 ∧ ∀ a, a ≠ 18 → (a < 9 ∨ 16 < a) → M'.1 a = M.1 a
section CX5T
variable {l : Launch} {M : qM} {b : Nat} {s : Nat → Nat} {k : Nat} {was : Nat → Nat → Nat} {n : Nat} {t pa : Nat → Nat} {sw : Bool}
theorem c_tryRound (hP : M.2.2 = pX pa sw) (hs : RS M 9 s) (hw : WF b s) (hT : RT M s) (hx : TX M n t) (hwt : WT n t) {p : Nat} (hp : p ≤ 60) (h2 : M.1 18 2 = p) : Ct l hdX kX mX5_tryRound [.ref 0, .ref 20] M (TrQ M n t s p) := by
  refine Ct.of [some (.ref 0), some (.ref 20), none] (by decide +kernel) (fun h => absurd h (by decide)) (Nat.le_of_ble_eq_true rfl) rfl ?_
  have o1 := one_in (n := n) (t := t) (p := p)
  have o2 := oth_in (n := n) (t := t) (p := p)
  have pb := pB_in (n := n) (t := t) (p := p)
  have w0 := hw.1
  have w6 := hw.2.2.2.2.2.1
  have ho9 : SO 9 := Or.inr (Or.inl rfl)
  refine T.aload_n (pc' := 1) (q_d dX5_tryRound_0 0 rfl) rfl rfl rfl ?_
  refine T.getR (pc' := 4) (ci := 5) (k0 := 4) (q_d dX5_tryRound_0 1 rfl) rfl rfl (by decide) rfl inX5 (by decide) rfl wF_X5_26 (rP hP rfl) ?_
  refine T.callV (pc' := 7) (ci := 2) (q_d dX5_tryRound_0 2 rfl) rfl uX2_readRound wM_X5_269 (c_readRound hP hx hwt hp h2) rfl rfl (by decide) rfl rfl (by decide) (Nat.le_of_ble_eq_true rfl) rfl rfl (fun _ => rfl) ?_
  rintro v9 M2 ⟨m2, ma, ⟨m1, ms, mr⟩, r7, r8, r6, hv⟩
  have hP2 : M2.2.2 = pX pa sw := by rw [m2]; exact hP
  have hs2 : RS M2 9 s := hs.mono (fun a a1 a2 => ma a (by omega))
  have hT2 : RT M2 s := hT.mono (fun a a1 a2 => ma a (by omega))
  obtain ⟨rv, rfl, rl, hv⟩ := or_num hv
  dsimp only [Option.toList, List.cons_append, List.nil_append, List.append_nil]
  refine T.if_neN (tgt := 12) (pc' := 10) (q_d dX5_tryRound_0 3 rfl) rfl (by decide) (by omega) (fun h7 => ?_) (fun h7 => ?_)
  · obtain ⟨hok, r4, r5⟩ : okR n t p = true ∧ M2.1 18 4 = t (pB n t p + 1) - 48 ∧ M2.1 18 5 = pB n t p + 3 := by
      rcases hv with ⟨-, q⟩ | ⟨q, -⟩
      · exact q
      · exact absurd q h7
    have hin := okR_in hok
    refine T.aload_n (pc' := 13) (q_d dX5_tryRound_0 6 rfl) rfl rfl rfl ?_
    refine T.getR (pc' := 16) (ci := 5) (k0 := 4) (q_d dX5_tryRound_0 7 rfl) rfl rfl (by decide) rfl inX5 (by decide) rfl wF_X5_26 (rP (P := pX pa sw) (by first | exact hP2 | exact hP) rfl) ?_
    refine T.aload_n (pc' := 17) (q_d dX5_tryRound_0 8 rfl) rfl rfl rfl ?_
    refine T.getR (pc' := 20) (ci := 5) (k0 := 1) (q_d dX5_tryRound_0 9 rfl) rfl rfl (by decide) rfl inX5 (by decide) rfl wF_X5_16 (rP (P := pX pa sw) (by first | exact hP2 | exact hP) rfl) ?_
    refine T.getI (pc' := 23) (ci := 3) (k0 := 0) (q_d dX5_tryRound_0 10 rfl) rfl rfl (by decide) rfl inX3 (by decide) rfl wF_X5_65 hs2.1 ?_
    refine T.aload_n (pc' := 24) (q_d dX5_tryRound_0 11 rfl) rfl rfl rfl ?_
    refine T.getR (pc' := 27) (ci := 5) (k0 := 1) (q_d dX5_tryRound_0 12 rfl) rfl rfl (by decide) rfl inX5 (by decide) rfl wF_X5_16 (rP (P := pX pa sw) (by first | exact hP2 | exact hP) rfl) ?_
    refine T.getR (pc' := 30) (ci := 3) (k0 := 4) (q_d dX5_tryRound_0 13 rfl) rfl rfl (by decide) rfl inX3 (by decide) rfl wF_X5_111 (rP (P := pX pa sw) (by first | exact hP2 | exact hP) rfl) ?_
    refine T.iconst (pc' := 31) (v := nI 2) (q_d dX5_tryRound_0 14 rfl) rfl (by decide) ?_
    refine T.iald (pc' := 32) (q_d dX5_tryRound_0 15 rfl) rfl rfl (by decide) rfl (by omega) (by decide) (show M2.1 (9 + 4) 2 = s 6 from hs2.2.2.2.2.2.2.1 2 (by decide)) ?_
    refine T.callV (pc' := 35) (ci := 2) (q_d dX5_tryRound_0 16 rfl) rfl uX2_hasGoodPlaces wM_X5_272 (c_hasGoodPlaces hP2 r7 r8 r6 o1 o2 (by omega) (show s 0 ≤ 7 from w0) (show s 6 ≤ 2 by omega)) rfl rfl (by decide) rfl rfl (by decide) (Nat.le_of_ble_eq_true rfl) rfl rfl (fun _ => rfl) ?_
    rintro v8 _ ⟨rfl, hg⟩
    obtain ⟨gv, rfl, gl, hg⟩ := or_num hg
    dsimp only [Option.toList, List.cons_append, List.nil_append, List.append_nil]
    refine T.if_neN (tgt := 40) (pc' := 38) (q_d dX5_tryRound_0 17 rfl) rfl (by decide) (by omega) (fun h35 => ?_) (fun h35 => ?_)
    · have hgd : goodP (oneV n t p) (othV n t p) (pB n t p - p) (s 0) (s 6) := by
        rcases hg with ⟨-, q⟩ | ⟨q, -⟩
        · exact q
        · exact absurd q h35
      refine T.aload_n (pc' := 41) (q_d dX5_tryRound_0 20 rfl) rfl rfl rfl ?_
      refine T.getR (pc' := 44) (ci := 5) (k0 := 4) (q_d dX5_tryRound_0 21 rfl) rfl rfl (by decide) rfl inX5 (by decide) rfl wF_X5_26 (rP (P := pX pa sw) (by first | exact hP2 | exact hP) rfl) ?_
      refine T.callV (pc' := 47) (ci := 2) (q_d dX5_tryRound_0 22 rfl) rfl uX2_placesRead wM_X5_275 (c_placesRead hP2 r7 r8 o1 o2) rfl rfl (by decide) rfl rfl (by decide) (Nat.le_of_ble_eq_true rfl) rfl rfl (fun _ => rfl) ?_
      rintro _ _ ⟨rfl, rfl⟩
      dsimp only [Option.toList, List.cons_append, List.nil_append, List.append_nil]
      refine T.istore_n (pc' := 48) (q_d dX5_tryRound_0 23 rfl) rfl rfl (by decide) rfl rfl ?_
      refine T.aload_n (pc' := 49) (q_d dX5_tryRound_0 24 rfl) rfl rfl rfl ?_
      refine T.getR (pc' := 52) (ci := 5) (k0 := 4) (q_d dX5_tryRound_0 25 rfl) rfl rfl (by decide) rfl inX5 (by decide) rfl wF_X5_26 (rP (P := pX pa sw) (by first | exact hP2 | exact hP) rfl) ?_
      refine T.getI (pc' := 55) (ci := 2) (k0 := 4) (q_d dX5_tryRound_0 26 rfl) rfl rfl (by decide) rfl inX2 (by decide) rfl wF_X5_278 r4 ?_
      refine T.iconst (pc' := 56) (v := nI 4) (q_d dX5_tryRound_0 27 rfl) rfl (by decide) ?_
      refine T.icmp_geN (tgt := 78) (pc' := 59) (q_d dX5_tryRound_0 28 rfl) rfl (by decide) (by omega) (by omega) (fun h56 => ?_) (fun h56 => ?_)
      · refine T.iconst (pc' := 79) (v := nI 3) (q_d dX5_tryRound_0 38 rfl) rfl (by decide) ?_
        refine T.iret (q_d dX5_tryRound_0 39 rfl) rfl rfl rfl ?_
        have hcd : 4 ≤ t (pB n t p + 1) - 48 ∨ ¬ canR s (setP (oneV n t p) (othV n t p)) (t (pB n t p + 1) - 48) := by
          first
            | exact Or.inl h56
            | (rcases hc with ⟨q, -⟩ | ⟨-, q⟩
               · exact absurd h75 (by omega)
               · exact Or.inr q)
        have est : stepR n t s p = (3, s, p) := by unfold stepR; rw [if_neg (by rw [hok]; decide), if_neg (fun q => q hgd), if_pos hcd]
        unfold TrQ
        rw [est]
        exact ⟨rfl, hs2, ms.trans h2, mr, m1, m2, fun a a1 _ => ma a a1⟩
      · refine T.aload_n (pc' := 60) (q_d dX5_tryRound_0 29 rfl) rfl rfl rfl ?_
        refine T.getR (pc' := 63) (ci := 5) (k0 := 1) (q_d dX5_tryRound_0 30 rfl) rfl rfl (by decide) rfl inX5 (by decide) rfl wF_X5_16 (rP (P := pX pa sw) (by first | exact hP2 | exact hP) rfl) ?_
        refine T.aload_n (pc' := 64) (q_d dX5_tryRound_0 31 rfl) rfl rfl rfl ?_
        refine T.iload_n (pc' := 65) (q_d dX5_tryRound_0 32 rfl) rfl rfl rfl ?_
        refine T.aload_n (pc' := 66) (q_d dX5_tryRound_0 33 rfl) rfl rfl rfl ?_
        refine T.getR (pc' := 69) (ci := 5) (k0 := 4) (q_d dX5_tryRound_0 34 rfl) rfl rfl (by decide) rfl inX5 (by decide) rfl wF_X5_26 (rP (P := pX pa sw) (by first | exact hP2 | exact hP) rfl) ?_
        refine T.getI (pc' := 72) (ci := 2) (k0 := 4) (q_d dX5_tryRound_0 35 rfl) rfl rfl (by decide) rfl inX2 (by decide) rfl wF_X5_278 r4 ?_
        refine T.callV (pc' := 75) (ci := 3) (q_d dX5_tryRound_0 36 rfl) rfl uX3_canBeRound wM_X5_133 (c_canBeRound ho9 hP2 hs2 hw hT2 (show t (pB n t p + 1) - 48 < 4 by omega)) rfl rfl (by decide) rfl rfl (by decide) (Nat.le_of_ble_eq_true rfl) rfl rfl (fun _ => rfl) ?_
        rintro v7 _ ⟨rfl, hc⟩
        obtain ⟨cv, rfl, cl, hc⟩ := or_num hc
        dsimp only [Option.toList, List.cons_append, List.nil_append, List.append_nil]
        refine T.if_neN (tgt := 80) (pc' := 78) (q_d dX5_tryRound_0 37 rfl) rfl (by decide) (by omega) (fun h75 => ?_) (fun h75 => ?_)
        · have hcd : canR s (setP (oneV n t p) (othV n t p)) (t (pB n t p + 1) - 48) := by
            rcases hc with ⟨-, q⟩ | ⟨q, -⟩
            · exact q
            · exact absurd q h75
          have est : stepR n t s p = (0, sRound s (setP (oneV n t p) (othV n t p)) (t (pB n t p + 1) - 48), pB n t p + 3) := by
            unfold stepR
            rw [if_neg (by rw [hok]; decide), if_neg (fun q => q hgd), if_neg (fun q => q.elim (fun z => by omega) (fun z => z hcd))]
          refine T.aload_n (pc' := 81) (q_d dX5_tryRound_1 0 rfl) rfl rfl rfl ?_
          refine T.getR (pc' := 84) (ci := 5) (k0 := 1) (q_d dX5_tryRound_1 1 rfl) rfl rfl (by decide) rfl inX5 (by decide) rfl wF_X5_16 (rP (P := pX pa sw) (by first | exact hP2 | exact hP) rfl) ?_
          refine T.aload_n (pc' := 85) (q_d dX5_tryRound_1 2 rfl) rfl rfl rfl ?_
          refine T.iload_n (pc' := 86) (q_d dX5_tryRound_1 3 rfl) rfl rfl rfl ?_
          refine T.aload_n (pc' := 87) (q_d dX5_tryRound_1 4 rfl) rfl rfl rfl ?_
          refine T.getR (pc' := 90) (ci := 5) (k0 := 4) (q_d dX5_tryRound_1 5 rfl) rfl rfl (by decide) rfl inX5 (by decide) rfl wF_X5_26 (rP (P := pX pa sw) (by first | exact hP2 | exact hP) rfl) ?_
          refine T.getI (pc' := 93) (ci := 2) (k0 := 4) (q_d dX5_tryRound_1 6 rfl) rfl rfl (by decide) rfl inX2 (by decide) rfl wF_X5_278 r4 ?_
          refine T.callV (pc' := 96) (ci := 3) (q_d dX5_tryRound_1 7 rfl) rfl uX3_addRound wM_X5_137 (c_addRound ho9 hP2 hs2 hw hT2 (show t (pB n t p + 1) - 48 < 4 by omega)) rfl rfl (by decide) rfl rfl (by decide) (Nat.le_of_ble_eq_true rfl) rfl rfl (fun _ => rfl) ?_
          rintro _ M3 ⟨rfl, e9⟩
          subst e9
          dsimp only [Option.toList, List.cons_append, List.nil_append, List.append_nil]
          refine T.aload_n (pc' := 97) (q_d dX5_tryRound_1 8 rfl) rfl rfl rfl ?_
          refine T.getR (pc' := 100) (ci := 5) (k0 := 4) (q_d dX5_tryRound_1 9 rfl) rfl rfl (by decide) rfl inX5 (by decide) rfl wF_X5_26 (rP (P := pX pa sw) (by first | exact hP2 | exact hP) rfl) ?_
          refine T.callV (pc' := 103) (ci := 2) (q_d dX5_tryRound_1 10 rfl) rfl uX2_goOn wM_X5_281 (c_goOn (by exact hP2)) rfl rfl (by decide) rfl rfl (by decide) (Nat.le_of_ble_eq_true rfl) rfl rfl (fun _ => rfl) ?_
          rintro _ M4 ⟨rfl, e8⟩
          subst e8
          dsimp only [Option.toList, List.cons_append, List.nil_append, List.append_nil]
          refine T.iconst (pc' := 104) (v := nI 0) (q_d dX5_tryRound_1 11 rfl) rfl (by decide) ?_
          refine T.iret (q_d dX5_tryRound_1 12 rfl) rfl rfl rfl ?_
          unfold TrQ
          rw [est]
          have hr := RS_round hs2 hw (c := setP (oneV n t p) (othV n t p)) (g := t (pB n t p + 1) - 48)
          refine ⟨rfl, hr.mono (fun a a1 a2 => ?_), ?_, ?_, ?_, m2, fun a a1 a2 => ?_⟩
          · funext j; rw [qI_ne (Or.inl (by omega)), qI_ne (Or.inl (by omega))]
          · rw [qI_ne (Or.inr (by decide)), qI_eq]
            simp only [qI]
            simpa using r5
          · rw [qI_eq]
            simp only [qI]
            simp [mr]
          · simp only [qI]
            simpa using m1
          · funext j
            rw [qI_ne (Or.inl a1), qI_ne (Or.inl a1), qI_ne (Or.inl (by omega)), qI_ne (Or.inl (by omega)), qI_ne (Or.inl (by omega)), qI_ne (Or.inl (by omega)), qI_ne (Or.inl (by omega)), ma a a1]
        · refine T.iconst (pc' := 79) (v := nI 3) (q_d dX5_tryRound_0 38 rfl) rfl (by decide) ?_
          refine T.iret (q_d dX5_tryRound_0 39 rfl) rfl rfl rfl ?_
          have hcd : 4 ≤ t (pB n t p + 1) - 48 ∨ ¬ canR s (setP (oneV n t p) (othV n t p)) (t (pB n t p + 1) - 48) := by
            first
              | exact Or.inl h56
              | (rcases hc with ⟨q, -⟩ | ⟨-, q⟩
                 · exact absurd h75 (by omega)
                 · exact Or.inr q)
          have est : stepR n t s p = (3, s, p) := by unfold stepR; rw [if_neg (by rw [hok]; decide), if_neg (fun q => q hgd), if_pos hcd]
          unfold TrQ
          rw [est]
          exact ⟨rfl, hs2, ms.trans h2, mr, m1, m2, fun a a1 _ => ma a a1⟩
    · refine T.iconst (pc' := 39) (v := nI 2) (q_d dX5_tryRound_0 18 rfl) rfl (by decide) ?_
      refine T.iret (q_d dX5_tryRound_0 19 rfl) rfl rfl rfl ?_
      have hgd : ¬ goodP (oneV n t p) (othV n t p) (pB n t p - p) (s 0) (s 6) := by
        rcases hg with ⟨q, -⟩ | ⟨-, q⟩
        · exact absurd h35 (by omega)
        · exact q
      have est : stepR n t s p = (2, s, p) := by unfold stepR; rw [if_neg (by rw [hok]; decide), if_pos hgd]
      unfold TrQ
      rw [est]
      exact ⟨rfl, hs2, ms.trans h2, mr, m1, m2, fun a a1 _ => ma a a1⟩
  · refine T.iconst (pc' := 11) (v := nI 1) (q_d dX5_tryRound_0 4 rfl) rfl (by decide) ?_
    refine T.iret (q_d dX5_tryRound_0 5 rfl) rfl rfl rfl ?_
    have hok : okR n t p = false := by
      rcases hv with ⟨q, -⟩ | ⟨-, q⟩
      · exact absurd h7 (by omega)
      · exact q
    have est : stepR n t s p = (1, s, p) := by unfold stepR; rw [if_pos hok]
    unfold TrQ
    rw [est]
    exact ⟨rfl, hs2, ms.trans h2, mr, m1, m2, fun a a1 _ => ma a a1⟩
theorem c_tryText (hX : RX M b s k was n t pa sw) : Ct l hdX kX mX5_tryText [.ref 0] M (fun v M' => v = some (.int (nI (runT n t 60 s 0 0).1)) ∧ RS M' 9 (runT n t 60 s 0 0).2.1 ∧ WF (b + 60) (runT n t 60 s 0 0).2.1 ∧ Cy s (runT n t 60 s 0 0).2.1 ∧ M'.1 18 2 = (runT n t 60 s 0 0).2.2.1 ∧ M'.1 18 3 = (runT n t 60 s 0 0).2.2.2 ∧ RX M' b s k was n t pa sw) := by
  refine Ct.of [some (.ref 0), none, none, none] (by decide +kernel) (fun h => absurd h (by decide)) (Nat.le_of_ble_eq_true rfl) rfl ?_
  have hX0 := hX
  obtain ⟨q1, q2, q3, q4, q5, q6, q7, q8, q9, q10⟩ := hX
  have fin : ∀ (M0 M' : qM), RX M0 b s k was n t pa sw → M'.2 = M0.2 → M'.1 18 1 = M0.1 18 1 → (∀ a, a ≠ 18 → (a < 9 ∨ 16 < a) → M'.1 a = M0.1 a) → RX M' b s k was n t pa sw := by
    intro M0 M' hX h2 h1 ha
    obtain ⟨z1, z2, z3, z4, z5, z6, z7, z8, z9, z10⟩ := hX
    refine ⟨by rw [h2]; exact z1, z2, z3.mono (fun a a1 a2 => ha a (by omega) (by omega)), z4, by rw [ha 0 (by decide) (by decide)]; exact z5, z6, fun i hi => ⟨(z7 i hi).1.mono (fun a a1 a2 => by have := z2.ge (show i < 4 by omega); exact ha a (by omega) (by omega)), (z7 i hi).2⟩, ⟨h1.trans z8.1, fun i hi => by rw [ha 19 (by decide) (by decide)]; exact z8.2 i hi⟩, z9, z10.mono ?_ (fun a a1 a2 => ha a (by omega) (by omega))⟩
    rw [ha 0 (by decide) (by decide)]; exact ⟨rfl, rfl, rfl⟩
  have loop : ∀ d i rs st p r (M' : qM), i + d = 60 → RX M' b s k was n t pa sw → M'.1 0 8 = 1 → RS M' 9 st → WF (b + i) st → Cy s st → M'.1 18 2 = p → p ≤ 60 → M'.1 18 3 = r → (rs ≤ 3) → (rs = 0 → runT n t 60 s 0 0 = runT n t d st p r) → (rs ≠ 0 → runT n t 60 s 0 0 = (rs, st, p, r)) →
      T l hdX kX mX5_tryText (fun v M' => v = some (.int (nI (runT n t 60 s 0 0).1)) ∧ RS M' 9 (runT n t 60 s 0 0).2.1 ∧ WF (b + 60) (runT n t 60 s 0 0).2.1 ∧ Cy s (runT n t 60 s 0 0).2.1 ∧ M'.1 18 2 = (runT n t 60 s 0 0).2.2.1 ∧ M'.1 18 3 = (runT n t 60 s 0 0).2.2.2 ∧ RX M' b s k was n t pa sw) 0 0 36 [some (.ref 0), some (.ref 20), some (.int (nI rs)), some (.int (nI i))] [] M' := by
    intro d
    induction d with
    | zero =>
      intro i rs st p r M' hi hX' h8 hs' hw' hcy h2 hp h3 hrs hr0 hr1
      refine T.iload_n (pc' := 37) (q_d dX5_tryText_0 20 rfl) rfl rfl rfl ?_
      refine T.bipush (pc' := 39) (v := nI 60) (q_d dX5_tryText_0 21 rfl) rfl (by decide) ?_
      refine T.icmp_geN (tgt := 75) (pc' := 42) (q_d dX5_tryText_0 22 rfl) rfl (by decide) (by omega) (by omega) (fun h39 => ?_) (fun h39 => ?_)
      · refine T.iload_n (pc' := 76) (q_d dX5_tryText_0 38 rfl) rfl rfl rfl ?_
        refine T.iret (q_d dX5_tryText_0 39 rfl) rfl rfl rfl ?_
        have e : runT n t 60 s 0 0 = (rs, st, p, r) := by
          by_cases z : rs = 0
          · rw [hr0 z, z]; rfl
          · exact hr1 z
        rw [e]
        exact ⟨rfl, hs', hw'.mono (by omega), hcy, h2, h3, hX'⟩
      · exact absurd h39 (by omega)
    | succ d ih =>
      intro i rs st p r M' hi hX' h8 hs' hw' hcy h2 hp h3 hrs hr0 hr1
      have hX1 := hX'
      obtain ⟨z1, z2, z3, z4, z5, z6, z7, z8, z9, z10⟩ := hX1
      have h60 := z9.1
      have hT' : RT M' st := hcy.lRT z4.1 (z10.2.2.2.1 h8)
      refine T.iload_n (pc' := 37) (q_d dX5_tryText_0 20 rfl) rfl rfl rfl ?_
      refine T.bipush (pc' := 39) (v := nI 60) (q_d dX5_tryText_0 21 rfl) rfl (by decide) ?_
      refine T.icmp_geN (tgt := 75) (pc' := 42) (q_d dX5_tryText_0 22 rfl) rfl (by decide) (by omega) (by omega) (fun h39 => ?_) (fun h39 => ?_)
      · exact absurd h39 (by omega)
      · refine T.iload_n (pc' := 43) (q_d dX5_tryText_0 23 rfl) rfl rfl rfl ?_
        refine T.if_neN (tgt := 75) (pc' := 46) (q_d dX5_tryText_0 24 rfl) rfl (by decide) (by omega) (fun h43 => ?_) (fun h43 => ?_)
        · refine T.iload_n (pc' := 76) (q_d dX5_tryText_0 38 rfl) rfl rfl rfl ?_
          refine T.iret (q_d dX5_tryText_0 39 rfl) rfl rfl rfl ?_
          have e : runT n t 60 s 0 0 = (rs, st, p, r) := by
            first
              | exact hr1 h43
              | (rw [hr0 h43, runT, if_neg (by omega), h43])
          rw [e]
          exact ⟨rfl, hs', hw'.mono (by omega), hcy, h2, h3, hX'⟩
        · refine T.aload_n (pc' := 47) (q_d dX5_tryText_0 25 rfl) rfl rfl rfl ?_
          refine T.getR (pc' := 50) (ci := 5) (k0 := 4) (q_d dX5_tryText_0 26 rfl) rfl rfl (by decide) rfl inX5 (by decide) rfl wF_X5_26 (rP z1 rfl) ?_
          refine T.getI (pc' := 53) (ci := 2) (k0 := 2) (q_d dX5_tryText_0 27 rfl) rfl rfl (by decide) rfl inX2 (by decide) rfl wF_X5_236 h2 ?_
          refine T.aload_n (pc' := 54) (q_d dX5_tryText_0 28 rfl) rfl rfl rfl ?_
          refine T.getR (pc' := 57) (ci := 5) (k0 := 4) (q_d dX5_tryText_0 29 rfl) rfl rfl (by decide) rfl inX5 (by decide) rfl wF_X5_26 (rP z1 rfl) ?_
          refine T.getI (pc' := 60) (ci := 2) (k0 := 1) (q_d dX5_tryText_0 30 rfl) rfl rfl (by decide) rfl inX2 (by decide) rfl wF_X5_222 z8.1 ?_
          refine T.icmp_geN (tgt := 75) (pc' := 63) (q_d dX5_tryText_0 31 rfl) rfl (by decide) (by omega) (by omega) (fun h60 => ?_) (fun h60 => ?_)
          · refine T.iload_n (pc' := 76) (q_d dX5_tryText_0 38 rfl) rfl rfl rfl ?_
            refine T.iret (q_d dX5_tryText_0 39 rfl) rfl rfl rfl ?_
            have e : runT n t 60 s 0 0 = (rs, st, p, r) := by
              first
                | exact hr1 h43
                | (rw [hr0 h43, runT, if_neg (by omega), h43])
            rw [e]
            exact ⟨rfl, hs', hw'.mono (by omega), hcy, h2, h3, hX'⟩
          · refine T.aload_n (pc' := 64) (q_d dX5_tryText_0 32 rfl) rfl rfl rfl ?_
            refine T.aload_n (pc' := 65) (q_d dX5_tryText_0 33 rfl) rfl rfl rfl ?_
            refine T.callV (pc' := 68) (ci := 5) (q_d dX5_tryText_0 34 rfl) rfl uX5_tryRound wM_X5_265 (c_tryRound z1 hs' hw' hT' z8 z9 hp h2) rfl rfl (by decide) rfl rfl (by decide) (Nat.le_of_ble_eq_true rfl) rfl rfl (fun _ => rfl) ?_
            rintro _ M2 ⟨rfl, f1, f2, f3, f4, f5, f6⟩
            dsimp only [Option.toList, List.cons_append, List.nil_append, List.append_nil]
            refine T.istore_n (pc' := 69) (q_d dX5_tryText_0 35 rfl) rfl rfl (by decide) rfl rfl ?_
            refine T.iinc (pc' := 72) (q_d dX5_tryText_0 36 rfl) rfl rfl (nN_p _ 1) (by decide) rfl rfl ?_
            refine T.goto (tgt := 36) (q_d dX5_tryText_0 37 rfl) (by decide) ?_
            have e9 := hr0 h43
            have e8 : runT n t (d + 1) st p r = if (stepR n t st p).1 = 0 then runT n t d (stepR n t st p).2.1 (stepR n t st p).2.2 (r + 1) else ((stepR n t st p).1, st, p, r) := by rw [runT, if_pos (by omega)]
            rw [e8] at e9
            have hle := stepR_ne (n := n) (t := t) (s := st) (p := p)
            have hX2 := fin _ M2 hX' f5 f4 f6
            have h82 : M2.1 0 8 = 1 := by rw [f6 0 (by decide) (by decide)]; exact h8
            by_cases e0 : (stepR n t st p).1 = 0
            · rw [if_pos e0] at e9
              rw [if_pos e0] at f3
              obtain ⟨g1, g2, g3, g4, g5⟩ := stepR_0 e0
              have hin := okR_in g1
              rw [g5] at f1 f2 e9
              have hcy2 := hcy.ltrans (Cy.lround st (setP (oneV n t p) (othV n t p)) (t (pB n t p + 1) - 48))
              rw [e0]
              exact ih (i + 1) 0 _ _ _ M2 (by omega) hX2 h82 f1 (hw'.round g4) hcy2 f2 (show pB n t p + 3 ≤ 60 by omega) (f3.trans (by rw [h3])) (by decide) (fun _ => e9) (fun z => absurd rfl z)
            · rw [if_neg e0] at e9
              rw [if_neg e0] at f3
              have g5 : (stepR n t st p).2 = (st, p) := by
                unfold stepR at e0 ⊢
                split
                · rfl
                · split
                  · rfl
                  · split
                    · rfl
                    · next a1 a2 a3 => rw [if_neg a1, if_neg a2, if_neg a3] at e0; exact absurd rfl e0
              rw [g5] at f1 f2
              exact ih (i + 1) (stepR n t st p).1 st p r M2 (by omega) hX2 h82 f1 (hw'.mono (by omega)) hcy f2 hp (f3.trans (by rw [h3]; rfl)) hle (fun z => absurd z e0) (fun _ => e9)
  refine T.aload_n (pc' := 1) (q_d dX5_tryText_0 0 rfl) rfl rfl rfl ?_
  refine T.getR (pc' := 4) (ci := 5) (k0 := 1) (q_d dX5_tryText_0 1 rfl) rfl rfl (by decide) rfl inX5 (by decide) rfl wF_X5_16 (rP (P := pX pa sw) (by first | exact hP2 | exact q1) rfl) ?_
  refine T.aload_n (pc' := 5) (q_d dX5_tryText_0 2 rfl) rfl rfl rfl ?_
  refine T.getR (pc' := 8) (ci := 5) (k0 := 0) (q_d dX5_tryText_0 3 rfl) rfl rfl (by decide) rfl inX5 (by decide) rfl wF_X5_10 (rP (P := pX pa sw) (by first | exact hP2 | exact q1) rfl) ?_
  refine T.callV (pc' := 11) (ci := 3) (q_d dX5_tryText_0 4 rfl) rfl uX3_takeFrom wM_X5_225 (c_takeFrom (Or.inr (Or.inl rfl)) (Or.inl rfl) (show 9 + 8 ≤ 1 ∨ 1 + 8 ≤ 9 from Or.inr (by decide)) q1 q3) rfl rfl (by decide) rfl rfl (by decide) (Nat.le_of_ble_eq_true rfl) rfl rfl (fun _ => rfl) ?_
  rintro _ M2 ⟨rfl, f1, f2⟩
  have hP2 : M2.2.2 = pX pa sw := by rw [f2.1]; exact q1
  have hXa : RX (qI (qI M2 18 2 0) 18 3 0) b s k was n t pa sw := fin M _ hX0 f2.1 (by simp only [qI]; simp; rw [f2.2 18 (by decide)]) (fun a a1 a2 => by funext j; rw [qI_ne (Or.inl a1), qI_ne (Or.inl a1), f2.2 a (by omega)])
  dsimp only [Option.toList, List.cons_append, List.nil_append, List.append_nil]
  refine T.aload_n (pc' := 12) (q_d dX5_tryText_0 5 rfl) rfl rfl rfl ?_
  refine T.getR (pc' := 15) (ci := 5) (k0 := 4) (q_d dX5_tryText_0 6 rfl) rfl rfl (by decide) rfl inX5 (by decide) rfl wF_X5_26 (rP (P := pX pa sw) (by first | exact hP2 | exact q1) rfl) ?_
  refine T.iconst (pc' := 16) (v := nI 0) (q_d dX5_tryText_0 7 rfl) rfl (by decide) ?_
  refine T.putI (pc' := 19) (ci := 2) (k0 := 2) (q_d dX5_tryText_0 8 rfl) rfl rfl (by decide) rfl inX2 tyX2 tyX2_ok nmX2 (by decide) rfl wF_X5_236 rfl rfl rfl ?_
  refine T.aload_n (pc' := 20) (q_d dX5_tryText_0 9 rfl) rfl rfl rfl ?_
  refine T.getR (pc' := 23) (ci := 5) (k0 := 4) (q_d dX5_tryText_0 10 rfl) rfl rfl (by decide) rfl inX5 (by decide) rfl wF_X5_26 (rP (P := pX pa sw) (by first | exact hP2 | exact q1) rfl) ?_
  refine T.iconst (pc' := 24) (v := nI 0) (q_d dX5_tryText_0 11 rfl) rfl (by decide) ?_
  refine T.putI (pc' := 27) (ci := 2) (k0 := 3) (q_d dX5_tryText_0 12 rfl) rfl rfl (by decide) rfl inX2 tyX2 tyX2_ok nmX2 (by decide) rfl wF_X5_239 rfl rfl rfl ?_
  refine T.aload_n (pc' := 28) (q_d dX5_tryText_0 13 rfl) rfl rfl rfl ?_
  refine T.callV (pc' := 31) (ci := 5) (q_d dX5_tryText_0 14 rfl) rfl uX5_standingMoves wM_X5_129 (c_standingMoves hXa) rfl rfl (by decide) rfl rfl (by decide) (Nat.le_of_ble_eq_true rfl) rfl rfl (fun _ => rfl) ?_
  rintro _ M3 ⟨rfl, e8, e9, e10, f28, fT, hTb⟩
  have hXb := hXa.tb fT hTb
  dsimp only [Option.toList, List.cons_append, List.nil_append, List.append_nil]
  refine T.astore_n (pc' := 32) (q_d dX5_tryText_0 15 rfl) rfl rfl (by decide) rfl rfl ?_
  refine T.iconst (pc' := 33) (v := nI 0) (q_d dX5_tryText_0 16 rfl) rfl (by decide) ?_
  refine T.istore_n (pc' := 34) (q_d dX5_tryText_0 17 rfl) rfl rfl (by decide) rfl rfl ?_
  refine T.iconst (pc' := 35) (v := nI 0) (q_d dX5_tryText_0 18 rfl) rfl (by decide) ?_
  refine T.istore_n (pc' := 36) (q_d dX5_tryText_0 19 rfl) rfl rfl (by decide) rfl rfl ?_
  refine loop 60 0 0 s 0 0 M3 (by decide) hXb e8 ?_ q4 (Cy.lrefl s) ?_ (by decide) ?_ (by decide) (fun _ => rfl) (fun z => absurd rfl z)
  · exact (f1.mono (fun a a1 a2 => by rw [fT.2.1 a (by omega) (by omega)]; funext j; rw [qI_ne (Or.inl (by omega)), qI_ne (Or.inl (by omega))]))
  · rw [fT.2.1 18 (by decide) (by decide), qI_ne (Or.inr (by decide)), qI_eq]
  · rw [fT.2.1 18 (by decide) (by decide), qI_eq]
end CX5T
