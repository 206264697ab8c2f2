/-! the reference: the text -/
section CMA
variable {l : Launch} {M M' : qM} {b b' : Nat} {s s' : Nat → Nat} {k : Nat} {was : Nat → Nat → Nat} {n : Nat} {t : Nat → Nat}
def sgV (n : Nat) (t : Nat → Nat) (p : Nat) : Nat := if p < n then t p else 4294967295
theorem RM.fld (q : RM M b s k was n t) {f x : Nat} (h4 : 4 ≠ f) (h6 : 6 ≠ f) : RM (qI M 0 f x) b s k was n t :=
  q.sc ⟨rfl, by funext j; exact qI_ne (Or.inl (by decide)), by funext j; exact qI_ne (Or.inl (by decide)), by funext j; exact qI_ne (Or.inl (by decide)), qI_ne (Or.inr h4), qI_ne (Or.inr h6)⟩
theorem sgV_lt (hw : WT n t) (p : Nat) : sgV n t p < 4294967296 := by
  unfold sgV
  split
  · next h => have := hw.2 p h; omega
  · decide
theorem sgV_dg (hw : WT n t) (p : Nat) : inS (sgV n t p) 48 57 = true ↔ dg n t p = true := by
  rw [inS_iff (sgV_lt hw p) (by decide) (by decide), dg_iff]
  unfold sgV
  split
  · next h => omega
  · next h => omega
theorem sgV_sg (hw : WT n t) {p c : Nat} (hc : c < 1000) : sgV n t p = c ↔ sg n t p c = true := by
  rw [sg_iff]
  unfold sgV
  split
  · next h => exact ⟨fun q => ⟨h, q⟩, fun q => q.2⟩
  · next h => constructor
              · intro q; omega
              · intro q; exact absurd q.1 h
theorem RM.s1 (q : RM M b s k was n t) (h2 : M'.2 = M.2) (ha : ∀ a, a ≠ 1 → M'.1 a = M.1 a) (h1 : ∀ j, j < 52 → M'.1 1 j = s' j) (hw : WF b' s') (hb : b ≤ b') : RM M' b' s' k was n t := by
  obtain ⟨q1, q2, q3, q4, q5, q6, q7, q8, q9⟩ := q
  exact ⟨by rw [h2]; exact q1, h1, hw, by rw [ha 0 (by decide)]; exact q4, q5, fun i hi => ⟨fun j hj => by rw [ha 2 (by decide)]; exact (q6 i hi).1 j hj, (q6 i hi).2.mono hb⟩, by rw [ha 0 (by decide)]; exact q7, fun i hi => by rw [ha 5 (by decide)]; exact q8 i hi, q9⟩
theorem m_sign (hX : RM M b s k was n t) {p : Nat} (h7 : M.1 0 7 = p) (hp : p < 1000) : Ct l hdM kM mX6_sign [.ref 0] M (RI M (sgV n t p)) := by
  refine Ct.of [some (.ref 0)] (by decide +kernel) (fun h => absurd h (by decide)) (Nat.le_of_ble_eq_true rfl) rfl ?_
  have h60 := hX.2.2.2.2.2.2.2.2.1
  by_cases hl : p < n
  · refine T.aload_n (pc' := 1) (q_d dX6_sign_0 0 rfl) rfl rfl rfl ?_
    refine T.getI (pc' := 4) (ci := 6) (k0 := 7) (q_d dX6_sign_0 1 rfl) rfl rfl (by decide) rfl inX6 (by decide) rfl wF_X6_121 h7 ?_
    refine T.aload_n (pc' := 5) (q_d dX6_sign_0 2 rfl) rfl rfl rfl ?_
    refine T.getI (pc' := 8) (ci := 6) (k0 := 6) (q_d dX6_sign_0 3 rfl) rfl rfl (by decide) rfl inX6 (by decide) rfl wF_X6_118 hX.2.2.2.2.2.2.1 ?_
    refine T.icmp_geN (tgt := 23) (pc' := 11) (q_d dX6_sign_0 4 rfl) rfl (by decide) (by omega) (by omega) (fun h8 => ?_) (fun h8 => ?_)
    · exact absurd h8 (by omega)
    · refine T.aload_n (pc' := 12) (q_d dX6_sign_0 5 rfl) rfl rfl rfl ?_
      refine T.getR (pc' := 15) (ci := 6) (k0 := 5) (q_d dX6_sign_0 6 rfl) rfl rfl (by decide) rfl inX6 (by decide) rfl wF_X6_22 (rP hX.1 rfl) ?_
      refine T.aload_n (pc' := 16) (q_d dX6_sign_0 7 rfl) rfl rfl rfl ?_
      refine T.getI (pc' := 19) (ci := 6) (k0 := 7) (q_d dX6_sign_0 8 rfl) rfl rfl (by decide) rfl inX6 (by decide) rfl wF_X6_121 h7 ?_
      refine T.cald (pc' := 20) (q_d dX6_sign_0 9 rfl) rfl rfl (by decide) rfl (by omega) (by decide) (hX.2.2.2.2.2.2.2.1 p hl) ?_
      refine T.goto (tgt := 24) (q_d dX6_sign_0 10 rfl) (by decide) ?_
      refine T.iret (q_d dX6_sign_0 12 rfl) rfl rfl rfl ?_
      exact ⟨rfl, by unfold sgV; rw [if_pos hl]⟩
  · refine T.aload_n (pc' := 1) (q_d dX6_sign_0 0 rfl) rfl rfl rfl ?_
    refine T.getI (pc' := 4) (ci := 6) (k0 := 7) (q_d dX6_sign_0 1 rfl) rfl rfl (by decide) rfl inX6 (by decide) rfl wF_X6_121 h7 ?_
    refine T.aload_n (pc' := 5) (q_d dX6_sign_0 2 rfl) rfl rfl rfl ?_
    refine T.getI (pc' := 8) (ci := 6) (k0 := 6) (q_d dX6_sign_0 3 rfl) rfl rfl (by decide) rfl inX6 (by decide) rfl wF_X6_118 hX.2.2.2.2.2.2.1 ?_
    refine T.icmp_geN (tgt := 23) (pc' := 11) (q_d dX6_sign_0 4 rfl) rfl (by decide) (by omega) (by omega) (fun h8 => ?_) (fun h8 => ?_)
    · refine T.iconst (pc' := 24) (v := nI 4294967295) (q_d dX6_sign_0 11 rfl) rfl (by decide) ?_
      refine T.iret (q_d dX6_sign_0 12 rfl) rfl rfl rfl ?_
      exact ⟨rfl, by unfold sgV; rw [if_neg hl]⟩
    · exact absurd h8 (by omega)
theorem m_takes (hX : RM M b s k was n t) {p : Nat} (h7 : M.1 0 7 = p) (hp : p < 1000) {c : Nat} (hc : c < 1000) : Ct l hdM kM mX6_takes [.ref 0, .int (nI c)] M (fun v M' => v = some (.int (nI (if sg n t p c = true then 1 else 0))) ∧ M' = qI M 0 7 (p + if sg n t p c = true then 1 else 0)) := by
  refine Ct.of [some (.ref 0), some (.int (nI c)), none] (by decide +kernel) (fun h => absurd h (by decide)) (Nat.le_of_ble_eq_true rfl) rfl ?_
  have hw := hX.2.2.2.2.2.2.2.2
  have hv := sgV_lt hw p
  have hs := sgV_sg hw (p := p) hc
  by_cases q : sg n t p c = true
  · rw [q]
    refine T.aload_n (pc' := 1) (q_d dX6_takes_0 0 rfl) rfl rfl rfl ?_
    refine T.callV (pc' := 4) (ci := 6) (q_d dX6_takes_0 1 rfl) rfl uX6_sign wM_X6_124 (m_sign hX h7 hp) rfl rfl (by decide) rfl rfl (by decide) (Nat.le_of_ble_eq_true rfl) rfl rfl (fun _ => rfl) ?_
    rintro _ _ ⟨rfl, rfl⟩
    dsimp only [Option.toList, List.cons_append, List.nil_append, List.append_nil]
    refine T.iload_n (pc' := 5) (q_d dX6_takes_0 2 rfl) rfl rfl rfl ?_
    refine T.icmp_neN (tgt := 12) (pc' := 8) (q_d dX6_takes_0 3 rfl) rfl (by decide) (by omega) (by omega) (fun h5 => ?_) (fun h5 => ?_)
    · exact absurd (hs.mpr q) h5
    · refine T.iconst (pc' := 9) (v := nI 1) (q_d dX6_takes_0 4 rfl) rfl (by decide) ?_
      refine T.goto (tgt := 13) (q_d dX6_takes_0 5 rfl) (by decide) ?_
      refine T.istore_n (pc' := 14) (q_d dX6_takes_0 7 rfl) rfl rfl (by decide) rfl rfl ?_
      refine T.aload_n (pc' := 15) (q_d dX6_takes_0 8 rfl) rfl rfl rfl ?_
      refine T.dup (pc' := 16) (q_d dX6_takes_0 9 rfl) rfl rfl ?_
      refine T.getI (pc' := 19) (ci := 6) (k0 := 7) (q_d dX6_takes_0 10 rfl) rfl rfl (by decide) rfl inX6 (by decide) rfl wF_X6_121 h7 ?_
      refine T.iload_n (pc' := 20) (q_d dX6_takes_0 11 rfl) rfl rfl rfl ?_
      refine T.if_eqN (tgt := 27) (pc' := 23) (q_d dX6_takes_0 12 rfl) rfl (by decide) (by decide) (fun h20 => ?_) (fun h20 => ?_)
      · exact absurd h20 (by decide)
      · refine T.iconst (pc' := 24) (v := nI 1) (q_d dX6_takes_0 13 rfl) rfl (by decide) ?_
        refine T.goto (tgt := 28) (q_d dX6_takes_0 14 rfl) (by decide) ?_
        refine T.iadd (pc' := 29) (q_d dX6_takes_0 16 rfl) rfl (nI_add _ _) ?_
        refine T.putI (pc' := 32) (ci := 6) (k0 := 7) (q_d dX6_takes_0 17 rfl) rfl rfl (by decide) rfl inX6 tyX6 tyX6_ok nmX6 (by decide) rfl wF_X6_121 rfl rfl rfl ?_
        refine T.iload_n (pc' := 33) (q_d dX6_takes_0 18 rfl) rfl rfl rfl ?_
        refine T.zret (q_d dX6_takes_0 19 rfl) rfl (by decide) rfl rfl ?_
        exact ⟨rfl, rfl⟩
  · rw [if_neg q]
    refine T.aload_n (pc' := 1) (q_d dX6_takes_0 0 rfl) rfl rfl rfl ?_
    refine T.callV (pc' := 4) (ci := 6) (q_d dX6_takes_0 1 rfl) rfl uX6_sign wM_X6_124 (m_sign hX h7 hp) rfl rfl (by decide) rfl rfl (by decide) (Nat.le_of_ble_eq_true rfl) rfl rfl (fun _ => rfl) ?_
    rintro _ _ ⟨rfl, rfl⟩
    dsimp only [Option.toList, List.cons_append, List.nil_append, List.append_nil]
    refine T.iload_n (pc' := 5) (q_d dX6_takes_0 2 rfl) rfl rfl rfl ?_
    refine T.icmp_neN (tgt := 12) (pc' := 8) (q_d dX6_takes_0 3 rfl) rfl (by decide) (by omega) (by omega) (fun h5 => ?_) (fun h5 => ?_)
    · refine T.iconst (pc' := 13) (v := nI 0) (q_d dX6_takes_0 6 rfl) rfl (by decide) ?_
      refine T.istore_n (pc' := 14) (q_d dX6_takes_0 7 rfl) rfl rfl (by decide) rfl rfl ?_
      refine T.aload_n (pc' := 15) (q_d dX6_takes_0 8 rfl) rfl rfl rfl ?_
      refine T.dup (pc' := 16) (q_d dX6_takes_0 9 rfl) rfl rfl ?_
      refine T.getI (pc' := 19) (ci := 6) (k0 := 7) (q_d dX6_takes_0 10 rfl) rfl rfl (by decide) rfl inX6 (by decide) rfl wF_X6_121 h7 ?_
      refine T.iload_n (pc' := 20) (q_d dX6_takes_0 11 rfl) rfl rfl rfl ?_
      refine T.if_eqN (tgt := 27) (pc' := 23) (q_d dX6_takes_0 12 rfl) rfl (by decide) (by decide) (fun h20 => ?_) (fun h20 => ?_)
      · refine T.iconst (pc' := 28) (v := nI 0) (q_d dX6_takes_0 15 rfl) rfl (by decide) ?_
        refine T.iadd (pc' := 29) (q_d dX6_takes_0 16 rfl) rfl (nI_add _ _) ?_
        refine T.putI (pc' := 32) (ci := 6) (k0 := 7) (q_d dX6_takes_0 17 rfl) rfl rfl (by decide) rfl inX6 tyX6 tyX6_ok nmX6 (by decide) rfl wF_X6_121 rfl rfl rfl ?_
        refine T.iload_n (pc' := 33) (q_d dX6_takes_0 18 rfl) rfl rfl rfl ?_
        refine T.zret (q_d dX6_takes_0 19 rfl) rfl (by decide) rfl rfl ?_
        exact ⟨rfl, rfl⟩
      · exact absurd rfl h20
    · exact absurd (hs.mp h5) q
theorem two_ones {a c : Nat} (ha : a < 7) (hc : c < 7) : ones (1 <<< a ||| 1 <<< c) ≤ 2 := by
  have h : ∀ a c : Fin 7, ones (1 <<< a.val ||| 1 <<< c.val) ≤ 2 := by decide +kernel
  exact h ⟨a, ha⟩ ⟨c, hc⟩
theorem one_ones {a : Nat} (ha : a < 7) : ones (1 <<< a) ≤ 1 := by
  have h : ∀ a : Fin 7, ones (1 <<< a.val) ≤ 1 := by decide +kernel
  exact h ⟨a, ha⟩
/-- what one round of the text leaves -/
def DnQ (M : qM) (b : Nat) (s : Nat → Nat) (k : Nat) (was : Nat → Nat → Nat) (n : Nat) (t : Nat → Nat) (p : Nat) : Option Value → qM → Prop := fun v M' =>
  v = some (.int (nI (stepR n t s p).1)) ∧ RM M' (b + 1) (stepR n t s p).2.1 k was n t ∧ ((stepR n t s p).1 = 0 → M'.1 0 7 = (stepR n t s p).2.2) ∧ M'.1 3 = M.1 3 ∧ M'.1 4 = M.1 4 ∧ M'.1 0 8 = M.1 0 8 ∧ M'.1 0 9 = M.1 0 9
theorem m_doesNext (hX : RM M b s k was n t) (hb : b < 2 ^ 30) {p : Nat} (h7 : M.1 0 7 = p) (hp : p ≤ 60) : Ct l hdM kM mX6_doesNext [.ref 0] M (DnQ M b s k was n t p) := by
  refine Ct.of [some (.ref 0), none, none, none, none] (by decide +kernel) (fun h => absurd h (by decide)) (Nat.le_of_ble_eq_true rfl) rfl ?_
  have hw := hX.2.2.2.2.2.2.2.2
  have w7 := hX.2.2.1.1
  have w6 := hX.2.2.1.2.2.2.2.2.1
  have w0 := p2_le w7
  have pb := pB_in (n := n) (t := t) (p := p)
  have bad : ∀ r (M1 : qM), stepR n t s p = (r, s, p) → r ≠ 0 → RM M1 b s k was n t → M1.1 3 = M.1 3 → M1.1 4 = M.1 4 → M1.1 0 8 = M.1 0 8 → M1.1 0 9 = M.1 0 9 → DnQ M b s k was n t p (some (.int (nI r))) M1 := by
    intro r M1 e hr hx e3 e4 e8 e9
    unfold DnQ
    rw [e]
    exact ⟨rfl, hx.le (Nat.le_succ _), fun h => absurd h hr, e3, e4, e8, e9⟩
  have tail : ∀ mask g cnt q (M1 : qM), q = pB n t p → M1.1 0 7 = q → RM M1 b s k was n t → M1.1 3 = M.1 3 → M1.1 4 = M.1 4 → M1.1 0 8 = M.1 0 8 → M1.1 0 9 = M.1 0 9 → g ≤ 1 → cnt ≤ 2 → ((g = 1 ∧ cnt ≤ s 6) ↔ goodP (oneV n t p) (othV n t p) (pB n t p - p) (s 0) (s 6)) → mask = setP (oneV n t p) (othV n t p) → (g = 1 → cnt ≤ s 6 → mask < 2 ^ s 0 ∧ ones mask ≤ s 6) → mask < 4294967296 →
      T l hdM kM mX6_doesNext (DnQ M b s k was n t p) 0 0 85 [some (.ref 0), some (.int (nI mask)), some (.int (nI g)), some (.int (nI cnt)), none] [] M1 := by
    intro mask g cnt q M1 hq h71 hX1 e3 e4 e8 e9 hg hcnt hgood hmask hmk hml
    have hv1 := sgV_lt hw (q + 1)
    have hdg := sgV_dg hw (q + 1)
    have no1 : okR n t p = false → stepR n t s p = (1, s, p) := fun h => by unfold stepR; rw [if_pos h]
    by_cases c1 : sg n t q 58 = true
    · by_cases c2 : dg n t (q + 1) = true
      · have hd2 := dg_iff.mp c2
        have ev : sgV n t (q + 1) = t (q + 1) := if_pos hd2.1
        by_cases c3 : sg n t (q + 2) 59 = true
        · have hok : okR n t p = true := by unfold okR; rw [← hq, c1, c2, c3]; rfl
          have hcv := chk_val s mask (t (q + 1) - 48)
          have no2 : ¬ goodP (oneV n t p) (othV n t p) (pB n t p - p) (s 0) (s 6) → stepR n t s p = (2, s, p) := fun h => by unfold stepR; rw [if_neg (by rw [hok]; decide), if_pos h]
          have ho : ∀ M2 : qM, M2 = qI (qI (qI M1 0 7 (q + 1)) 0 7 (q + 1 + 1)) 0 7 (q + 1 + 1 + 1) → RM M2 b s k was n t ∧ M2.1 3 = M.1 3 ∧ M2.1 4 = M.1 4 ∧ M2.1 0 8 = M.1 0 8 ∧ M2.1 0 9 = M.1 0 9 ∧ M2.1 0 7 = q + 3 := by
            rintro _ rfl
            refine ⟨((hX1.fld (by decide) (by decide)).fld (by decide) (by decide)).fld (by decide) (by decide), ?_, ?_, ?_, ?_, qI_eq⟩
            · rw [← e3]; funext j; rw [qI_ne (Or.inl (by decide)), qI_ne (Or.inl (by decide)), qI_ne (Or.inl (by decide))]
            · rw [← e4]; funext j; rw [qI_ne (Or.inl (by decide)), qI_ne (Or.inl (by decide)), qI_ne (Or.inl (by decide))]
            · rw [qI_ne (Or.inr (by decide)), qI_ne (Or.inr (by decide)), qI_ne (Or.inr (by decide)), e8]
            · rw [qI_ne (Or.inr (by decide)), qI_ne (Or.inr (by decide)), qI_ne (Or.inr (by decide)), e9]
          have hi5 : inS (sgV n t (q + 1)) 48 57 = true := hdg.mpr c2
          refine T.aload_n (pc' := 86) (q_d dX6_doesNext_1 10 rfl) rfl rfl rfl ?_
          refine T.bipush (pc' := 88) (v := nI 58) (q_d dX6_doesNext_1 11 rfl) rfl (by decide) ?_
          refine T.callV (pc' := 91) (ci := 6) (q_d dX6_doesNext_1 12 rfl) rfl uX6_takes wM_X6_127 (m_takes hX1 h71 (show q < 1000 by omega) (c := 58) (by decide)) rfl rfl (by decide) rfl rfl (by decide) (Nat.le_of_ble_eq_true rfl) rfl rfl (fun _ => rfl) ?_
          rintro _ _ ⟨rfl, rfl⟩
          rw [c1]
          have hX2 : RM (qI M1 0 7 (q + 1)) b s k was n t := hX1.fld (by decide) (by decide)
          dsimp only [Option.toList, List.cons_append, List.nil_append, List.append_nil]
          refine T.if_eqN (tgt := 108) (pc' := 94) (q_d dX6_doesNext_1 13 rfl) rfl (by decide) (by decide) (fun h91 => ?_) (fun h91 => ?_)
          · exact absurd h91 (by decide)
          · refine T.aload_n (pc' := 95) (q_d dX6_doesNext_1 14 rfl) rfl rfl rfl ?_
            refine T.callV (pc' := 98) (ci := 6) (q_d dX6_doesNext_1 15 rfl) rfl uX6_sign wM_X6_124 (m_sign hX2 qI_eq (show q + 1 < 1000 by omega)) rfl rfl (by decide) rfl rfl (by decide) (Nat.le_of_ble_eq_true rfl) rfl rfl (fun _ => rfl) ?_
            rintro _ _ ⟨rfl, rfl⟩
            dsimp only [Option.toList, List.cons_append, List.nil_append, List.append_nil]
            refine T.bipush (pc' := 100) (v := nI 48) (q_d dX6_doesNext_1 16 rfl) rfl (by decide) ?_
            refine T.bipush (pc' := 102) (v := nI 57) (q_d dX6_doesNext_1 17 rfl) rfl (by decide) ?_
            refine T.callS (pc' := 105) (q_d dX6_doesNext_1 18 rfl) rfl uX6_in wM_X6_43 (m_in hv1 (by decide) (hi := 57) (by decide)) rfl rfl (by decide) (Nat.le_of_ble_eq_true rfl) rfl rfl (fun _ => rfl) ?_
            rintro _ _ ⟨rfl, rfl⟩
            dsimp only [Option.toList, List.cons_append, List.nil_append, List.append_nil]
            refine T.if_neN (tgt := 110) (pc' := 108) (q_d dX6_doesNext_1 19 rfl) rfl (by decide) (by split <;> decide) (fun h105 => ?_) (fun h105 => ?_)
            · refine T.aload_n (pc' := 111) (q_d dX6_doesNext_1 22 rfl) rfl rfl rfl ?_
              refine T.callV (pc' := 114) (ci := 6) (q_d dX6_doesNext_1 23 rfl) rfl uX6_sign wM_X6_124 (m_sign hX2 qI_eq (show q + 1 < 1000 by omega)) rfl rfl (by decide) rfl rfl (by decide) (Nat.le_of_ble_eq_true rfl) rfl rfl (fun _ => rfl) ?_
              rintro _ _ ⟨rfl, rfl⟩
              dsimp only [Option.toList, List.cons_append, List.nil_append, List.append_nil]
              refine T.bipush (pc' := 116) (v := nI 48) (q_d dX6_doesNext_1 24 rfl) rfl (by decide) ?_
              refine T.isub (pc' := 117) (q_d dX6_doesNext_1 25 rfl) rfl ((congrArg (fun z => nI z - nI 48) ev).trans (nN_sub (by omega))) ?_
              refine T.istore (pc' := 119) (q_d dX6_doesNext_1 26 rfl) rfl (by decide) rfl rfl ?_
              refine T.aload_n (pc' := 120) (q_d dX6_doesNext_1 27 rfl) rfl rfl rfl ?_
              refine T.dup (pc' := 121) (q_d dX6_doesNext_1 28 rfl) rfl rfl ?_
              refine T.getI (pc' := 124) (ci := 6) (k0 := 7) (q_d dX6_doesNext_1 29 rfl) rfl rfl (by decide) rfl inX6 (by decide) rfl wF_X6_121 qI_eq ?_
              refine T.iconst (pc' := 125) (v := nI 1) (q_d dX6_doesNext_1 30 rfl) rfl (by decide) ?_
              refine T.iadd (pc' := 126) (q_d dX6_doesNext_1 31 rfl) rfl (nI_add _ _) ?_
              refine T.putI (pc' := 129) (ci := 6) (k0 := 7) (q_d dX6_doesNext_1 32 rfl) rfl rfl (by decide) rfl inX6 tyX6 tyX6_ok nmX6 (by decide) rfl wF_X6_121 rfl rfl rfl ?_
              have hX3 : RM (qI (qI M1 0 7 (q + 1)) 0 7 (q + 1 + 1)) b s k was n t := hX2.fld (by decide) (by decide)
              refine T.aload_n (pc' := 130) (q_d dX6_doesNext_1 33 rfl) rfl rfl rfl ?_
              refine T.bipush (pc' := 132) (v := nI 59) (q_d dX6_doesNext_1 34 rfl) rfl (by decide) ?_
              refine T.callV (pc' := 135) (ci := 6) (q_d dX6_doesNext_1 35 rfl) rfl uX6_takes wM_X6_127 (m_takes hX3 qI_eq (show q + 1 + 1 < 1000 by omega) (c := 59) (by decide)) rfl rfl (by decide) rfl rfl (by decide) (Nat.le_of_ble_eq_true rfl) rfl rfl (fun _ => rfl) ?_
              rintro _ M4 ⟨rfl, e9'⟩
              rw [c3] at e9'
              obtain ⟨hX4, z3, z4, z8, z9, z7⟩ := ho _ e9'
              rw [c3]
              dsimp only [Option.toList, List.cons_append, List.nil_append, List.append_nil]
              refine T.if_neN (tgt := 140) (pc' := 138) (q_d dX6_doesNext_1 36 rfl) rfl (by decide) (by decide) (fun h135 => ?_) (fun h135 => ?_)
              · refine T.iload_n (pc' := 141) (q_d dX6_doesNext_1 39 rfl) rfl rfl rfl ?_
                refine T.if_eqN (tgt := 155) (pc' := 144) (q_d dX6_doesNext_2 0 rfl) rfl (by decide) (by omega) (fun h141 => ?_) (fun h141 => ?_)
                · refine T.iconst (pc' := 156) (v := nI 2) (q_d dX6_doesNext_2 7 rfl) rfl (by decide) ?_
                  refine T.goto (tgt := 176) (q_d dX6_doesNext_2 8 rfl) (by decide) ?_
                  refine T.iret (q_d dX6_doesNext_2 18 rfl) rfl rfl rfl ?_
                  first
                    | (have hng : ¬ goodP (oneV n t p) (othV n t p) (pB n t p - p) (s 0) (s 6) := fun z => absurd (hgood.mpr z).1 (by omega)
                       exact bad 2 M4 (no2 hng) (by decide) hX4 z3 z4 z8 z9)
                    | (have hng : ¬ goodP (oneV n t p) (othV n t p) (pB n t p - p) (s 0) (s 6) := fun z => absurd (hgood.mpr z).2 (by omega)
                       exact bad 2 M4 (no2 hng) (by decide) hX4 z3 z4 z8 z9)
                    | (have g1 : g = 1 := by omega
                       have hc : cnt ≤ s 6 := by omega
                       have hgd := hgood.mp ⟨g1, hc⟩
                       obtain ⟨m1, m2⟩ := hmk g1 hc
                       by_cases hr : t (q + 1) - 48 ≤ 3 ∧ canR s mask (t (q + 1) - 48)
                       · have ec : chk s mask (t (q + 1) - 48) = (ones (thn s (s 1) mask (t (q + 1) - 48)), sRound s mask (t (q + 1) - 48)) := by unfold chk; rw [if_pos ⟨m1, hr.1, m2⟩, if_pos hr.2]
                         have est : stepR n t s p = (0, sRound s mask (t (q + 1) - 48), q + 3) := by
                           unfold stepR
                           rw [if_neg (by rw [hok]; decide), if_neg (fun z => z hgd), ← hmask, ← hq, if_neg (fun z => z.elim (fun y => by omega) (fun y => y hr.2))]
                         have o9 := ones_le (thn s (s 1) mask (t (q + 1) - 48))
                         rw [ec] at h168 f1
                         first
                           | exact absurd (Int32.not_le.mp (le_big (y := 4293967295) (show ones (thn s (s 1) mask (t (q + 1) - 48)) < 2 ^ 31 by omega) (by decide) (by decide))) h168
                           | (unfold DnQ
                              rw [est]
                              exact ⟨rfl, hX4.s1 f2 fa f1 (hX.2.2.1.round hr.2) (Nat.le_succ _), fun _ => by rw [fa 0 (by decide)]; exact z7, (fa 3 (by decide)).trans z3, (fa 4 (by decide)).trans z4, by rw [fa 0 (by decide)]; exact z8, by rw [fa 0 (by decide)]; exact z9⟩)
                       · have est : stepR n t s p = (3, s, p) := by
                           unfold stepR
                           rw [if_neg (by rw [hok]; decide), if_neg (fun z => z hgd), ← hmask, ← hq, if_pos]
                           by_cases y : 4 ≤ t (q + 1) - 48
                           · exact Or.inl y
                           · exact Or.inr (fun z => hr ⟨by omega, z⟩)
                         have hcv2 : ((chk s mask (t (q + 1) - 48)).1 = 4293967295 ∨ (chk s mask (t (q + 1) - 48)).1 = 4293967294) ∧ (chk s mask (t (q + 1) - 48)).2 = s := by
                           rcases hcv with ⟨y1, y2⟩ | ⟨y1, y2⟩ | ⟨_, y2, _, _, y3, _⟩
                           · exact ⟨Or.inl y1, y2⟩
                           · exact ⟨Or.inr y1, y2⟩
                           · exact absurd ⟨y3, y2⟩ hr
                         have hno : ¬ nI 4293967295 < nI (chk s mask (t (q + 1) - 48)).1 := by
                           rcases hcv2.1 with y | y <;> rw [y] <;> decide
                         first
                           | exact absurd h168 hno
                           | (rw [hcv2.2] at f1
                              exact bad 3 M5 est (by decide) (hX4.s1 f2 fa f1 hX.2.2.1 (Nat.le_refl _)) ((fa 3 (by decide)).trans z3) ((fa 4 (by decide)).trans z4) (by rw [fa 0 (by decide)]; exact z8) (by rw [fa 0 (by decide)]; exact z9)))
                · refine T.iload_n (pc' := 145) (q_d dX6_doesNext_2 1 rfl) rfl rfl rfl ?_
                  refine T.aload_n (pc' := 146) (q_d dX6_doesNext_2 2 rfl) rfl rfl rfl ?_
                  refine T.getR (pc' := 149) (ci := 6) (k0 := 0) (q_d dX6_doesNext_2 3 rfl) rfl rfl (by decide) rfl inX6 (by decide) rfl wF_X6_7 (rP (P := pM) (by first | exact hX4.1 | exact hX3.1 | exact hX2.1 | exact hX1.1) rfl) ?_
                  refine T.bipush (pc' := 151) (v := nI 6) (q_d dX6_doesNext_2 4 rfl) rfl (by decide) ?_
                  refine T.iald (pc' := 152) (q_d dX6_doesNext_2 5 rfl) rfl rfl (by decide) rfl (by omega) (by decide) (hX4.2.1 6 (by decide)) ?_
                  refine T.icmp_leN (tgt := 159) (pc' := 155) (q_d dX6_doesNext_2 6 rfl) rfl (by decide) (by omega) (by omega) (fun h152 => ?_) (fun h152 => ?_)
                  · refine T.aload_n (pc' := 160) (q_d dX6_doesNext_2 9 rfl) rfl rfl rfl ?_
                    refine T.iload_n (pc' := 161) (q_d dX6_doesNext_2 10 rfl) rfl rfl rfl ?_
                    refine T.iload (pc' := 163) (q_d dX6_doesNext_2 11 rfl) rfl rfl ?_
                    refine T.callV (pc' := 166) (ci := 6) (q_d dX6_doesNext_2 12 rfl) rfl uX6_checks wM_X6_88 (m_checks hX4 hb hml (show t (q + 1) - 48 < 4294967296 by omega)) rfl rfl (by decide) rfl rfl (by decide) (Nat.le_of_ble_eq_true rfl) rfl rfl (fun _ => rfl) ?_
                    rintro _ M5 ⟨rfl, f2, fa, f1⟩
                    dsimp only [Option.toList, List.cons_append, List.nil_append, List.append_nil]
                    refine T.ldc (pc' := 168) (v := nI 4293967295) (q_d dX6_doesNext_2 13 rfl) rfl wN_X6_47 ?_
                    refine T.icmp_gt (tgt := 175) (pc' := 171) (q_d dX6_doesNext_2 14 rfl) rfl (by decide)  (fun h168 => ?_) (fun h168 => ?_)
                    · refine T.iconst (pc' := 176) (v := nI 0) (q_d dX6_doesNext_2 17 rfl) rfl (by decide) ?_
                      refine T.iret (q_d dX6_doesNext_2 18 rfl) rfl rfl rfl ?_
                      first
                        | (have hng : ¬ goodP (oneV n t p) (othV n t p) (pB n t p - p) (s 0) (s 6) := fun z => absurd (hgood.mpr z).1 (by omega)
                           exact bad 2 M4 (no2 hng) (by decide) hX4 z3 z4 z8 z9)
                        | (have hng : ¬ goodP (oneV n t p) (othV n t p) (pB n t p - p) (s 0) (s 6) := fun z => absurd (hgood.mpr z).2 (by omega)
                           exact bad 2 M4 (no2 hng) (by decide) hX4 z3 z4 z8 z9)
                        | (have g1 : g = 1 := by omega
                           have hc : cnt ≤ s 6 := by omega
                           have hgd := hgood.mp ⟨g1, hc⟩
                           obtain ⟨m1, m2⟩ := hmk g1 hc
                           by_cases hr : t (q + 1) - 48 ≤ 3 ∧ canR s mask (t (q + 1) - 48)
                           · have ec : chk s mask (t (q + 1) - 48) = (ones (thn s (s 1) mask (t (q + 1) - 48)), sRound s mask (t (q + 1) - 48)) := by unfold chk; rw [if_pos ⟨m1, hr.1, m2⟩, if_pos hr.2]
                             have est : stepR n t s p = (0, sRound s mask (t (q + 1) - 48), q + 3) := by
                               unfold stepR
                               rw [if_neg (by rw [hok]; decide), if_neg (fun z => z hgd), ← hmask, ← hq, if_neg (fun z => z.elim (fun y => by omega) (fun y => y hr.2))]
                             have o9 := ones_le (thn s (s 1) mask (t (q + 1) - 48))
                             rw [ec] at h168 f1
                             first
                               | exact absurd (Int32.not_le.mp (le_big (y := 4293967295) (show ones (thn s (s 1) mask (t (q + 1) - 48)) < 2 ^ 31 by omega) (by decide) (by decide))) h168
                               | (unfold DnQ
                                  rw [est]
                                  exact ⟨rfl, hX4.s1 f2 fa f1 (hX.2.2.1.round hr.2) (Nat.le_succ _), fun _ => by rw [fa 0 (by decide)]; exact z7, (fa 3 (by decide)).trans z3, (fa 4 (by decide)).trans z4, by rw [fa 0 (by decide)]; exact z8, by rw [fa 0 (by decide)]; exact z9⟩)
                           · have est : stepR n t s p = (3, s, p) := by
                               unfold stepR
                               rw [if_neg (by rw [hok]; decide), if_neg (fun z => z hgd), ← hmask, ← hq, if_pos]
                               by_cases y : 4 ≤ t (q + 1) - 48
                               · exact Or.inl y
                               · exact Or.inr (fun z => hr ⟨by omega, z⟩)
                             have hcv2 : ((chk s mask (t (q + 1) - 48)).1 = 4293967295 ∨ (chk s mask (t (q + 1) - 48)).1 = 4293967294) ∧ (chk s mask (t (q + 1) - 48)).2 = s := by
                               rcases hcv with ⟨y1, y2⟩ | ⟨y1, y2⟩ | ⟨_, y2, _, _, y3, _⟩
                               · exact ⟨Or.inl y1, y2⟩
                               · exact ⟨Or.inr y1, y2⟩
                               · exact absurd ⟨y3, y2⟩ hr
                             have hno : ¬ nI 4293967295 < nI (chk s mask (t (q + 1) - 48)).1 := by
                               rcases hcv2.1 with y | y <;> rw [y] <;> decide
                             first
                               | exact absurd h168 hno
                               | (rw [hcv2.2] at f1
                                  exact bad 3 M5 est (by decide) (hX4.s1 f2 fa f1 hX.2.2.1 (Nat.le_refl _)) ((fa 3 (by decide)).trans z3) ((fa 4 (by decide)).trans z4) (by rw [fa 0 (by decide)]; exact z8) (by rw [fa 0 (by decide)]; exact z9)))
                    · refine T.iconst (pc' := 172) (v := nI 3) (q_d dX6_doesNext_2 15 rfl) rfl (by decide) ?_
                      refine T.goto (tgt := 176) (q_d dX6_doesNext_2 16 rfl) (by decide) ?_
                      refine T.iret (q_d dX6_doesNext_2 18 rfl) rfl rfl rfl ?_
                      first
                        | (have hng : ¬ goodP (oneV n t p) (othV n t p) (pB n t p - p) (s 0) (s 6) := fun z => absurd (hgood.mpr z).1 (by omega)
                           exact bad 2 M4 (no2 hng) (by decide) hX4 z3 z4 z8 z9)
                        | (have hng : ¬ goodP (oneV n t p) (othV n t p) (pB n t p - p) (s 0) (s 6) := fun z => absurd (hgood.mpr z).2 (by omega)
                           exact bad 2 M4 (no2 hng) (by decide) hX4 z3 z4 z8 z9)
                        | (have g1 : g = 1 := by omega
                           have hc : cnt ≤ s 6 := by omega
                           have hgd := hgood.mp ⟨g1, hc⟩
                           obtain ⟨m1, m2⟩ := hmk g1 hc
                           by_cases hr : t (q + 1) - 48 ≤ 3 ∧ canR s mask (t (q + 1) - 48)
                           · have ec : chk s mask (t (q + 1) - 48) = (ones (thn s (s 1) mask (t (q + 1) - 48)), sRound s mask (t (q + 1) - 48)) := by unfold chk; rw [if_pos ⟨m1, hr.1, m2⟩, if_pos hr.2]
                             have est : stepR n t s p = (0, sRound s mask (t (q + 1) - 48), q + 3) := by
                               unfold stepR
                               rw [if_neg (by rw [hok]; decide), if_neg (fun z => z hgd), ← hmask, ← hq, if_neg (fun z => z.elim (fun y => by omega) (fun y => y hr.2))]
                             have o9 := ones_le (thn s (s 1) mask (t (q + 1) - 48))
                             rw [ec] at h168 f1
                             first
                               | exact absurd (Int32.not_le.mp (le_big (y := 4293967295) (show ones (thn s (s 1) mask (t (q + 1) - 48)) < 2 ^ 31 by omega) (by decide) (by decide))) h168
                               | (unfold DnQ
                                  rw [est]
                                  exact ⟨rfl, hX4.s1 f2 fa f1 (hX.2.2.1.round hr.2) (Nat.le_succ _), fun _ => by rw [fa 0 (by decide)]; exact z7, (fa 3 (by decide)).trans z3, (fa 4 (by decide)).trans z4, by rw [fa 0 (by decide)]; exact z8, by rw [fa 0 (by decide)]; exact z9⟩)
                           · have est : stepR n t s p = (3, s, p) := by
                               unfold stepR
                               rw [if_neg (by rw [hok]; decide), if_neg (fun z => z hgd), ← hmask, ← hq, if_pos]
                               by_cases y : 4 ≤ t (q + 1) - 48
                               · exact Or.inl y
                               · exact Or.inr (fun z => hr ⟨by omega, z⟩)
                             have hcv2 : ((chk s mask (t (q + 1) - 48)).1 = 4293967295 ∨ (chk s mask (t (q + 1) - 48)).1 = 4293967294) ∧ (chk s mask (t (q + 1) - 48)).2 = s := by
                               rcases hcv with ⟨y1, y2⟩ | ⟨y1, y2⟩ | ⟨_, y2, _, _, y3, _⟩
                               · exact ⟨Or.inl y1, y2⟩
                               · exact ⟨Or.inr y1, y2⟩
                               · exact absurd ⟨y3, y2⟩ hr
                             have hno : ¬ nI 4293967295 < nI (chk s mask (t (q + 1) - 48)).1 := by
                               rcases hcv2.1 with y | y <;> rw [y] <;> decide
                             first
                               | exact absurd h168 hno
                               | (rw [hcv2.2] at f1
                                  exact bad 3 M5 est (by decide) (hX4.s1 f2 fa f1 hX.2.2.1 (Nat.le_refl _)) ((fa 3 (by decide)).trans z3) ((fa 4 (by decide)).trans z4) (by rw [fa 0 (by decide)]; exact z8) (by rw [fa 0 (by decide)]; exact z9)))
                  · refine T.iconst (pc' := 156) (v := nI 2) (q_d dX6_doesNext_2 7 rfl) rfl (by decide) ?_
                    refine T.goto (tgt := 176) (q_d dX6_doesNext_2 8 rfl) (by decide) ?_
                    refine T.iret (q_d dX6_doesNext_2 18 rfl) rfl rfl rfl ?_
                    first
                      | (have hng : ¬ goodP (oneV n t p) (othV n t p) (pB n t p - p) (s 0) (s 6) := fun z => absurd (hgood.mpr z).1 (by omega)
                         exact bad 2 M4 (no2 hng) (by decide) hX4 z3 z4 z8 z9)
                      | (have hng : ¬ goodP (oneV n t p) (othV n t p) (pB n t p - p) (s 0) (s 6) := fun z => absurd (hgood.mpr z).2 (by omega)
                         exact bad 2 M4 (no2 hng) (by decide) hX4 z3 z4 z8 z9)
                      | (have g1 : g = 1 := by omega
                         have hc : cnt ≤ s 6 := by omega
                         have hgd := hgood.mp ⟨g1, hc⟩
                         obtain ⟨m1, m2⟩ := hmk g1 hc
                         by_cases hr : t (q + 1) - 48 ≤ 3 ∧ canR s mask (t (q + 1) - 48)
                         · have ec : chk s mask (t (q + 1) - 48) = (ones (thn s (s 1) mask (t (q + 1) - 48)), sRound s mask (t (q + 1) - 48)) := by unfold chk; rw [if_pos ⟨m1, hr.1, m2⟩, if_pos hr.2]
                           have est : stepR n t s p = (0, sRound s mask (t (q + 1) - 48), q + 3) := by
                             unfold stepR
                             rw [if_neg (by rw [hok]; decide), if_neg (fun z => z hgd), ← hmask, ← hq, if_neg (fun z => z.elim (fun y => by omega) (fun y => y hr.2))]
                           have o9 := ones_le (thn s (s 1) mask (t (q + 1) - 48))
                           rw [ec] at h168 f1
                           first
                             | exact absurd (Int32.not_le.mp (le_big (y := 4293967295) (show ones (thn s (s 1) mask (t (q + 1) - 48)) < 2 ^ 31 by omega) (by decide) (by decide))) h168
                             | (unfold DnQ
                                rw [est]
                                exact ⟨rfl, hX4.s1 f2 fa f1 (hX.2.2.1.round hr.2) (Nat.le_succ _), fun _ => by rw [fa 0 (by decide)]; exact z7, (fa 3 (by decide)).trans z3, (fa 4 (by decide)).trans z4, by rw [fa 0 (by decide)]; exact z8, by rw [fa 0 (by decide)]; exact z9⟩)
                         · have est : stepR n t s p = (3, s, p) := by
                             unfold stepR
                             rw [if_neg (by rw [hok]; decide), if_neg (fun z => z hgd), ← hmask, ← hq, if_pos]
                             by_cases y : 4 ≤ t (q + 1) - 48
                             · exact Or.inl y
                             · exact Or.inr (fun z => hr ⟨by omega, z⟩)
                           have hcv2 : ((chk s mask (t (q + 1) - 48)).1 = 4293967295 ∨ (chk s mask (t (q + 1) - 48)).1 = 4293967294) ∧ (chk s mask (t (q + 1) - 48)).2 = s := by
                             rcases hcv with ⟨y1, y2⟩ | ⟨y1, y2⟩ | ⟨_, y2, _, _, y3, _⟩
                             · exact ⟨Or.inl y1, y2⟩
                             · exact ⟨Or.inr y1, y2⟩
                             · exact absurd ⟨y3, y2⟩ hr
                           have hno : ¬ nI 4293967295 < nI (chk s mask (t (q + 1) - 48)).1 := by
                             rcases hcv2.1 with y | y <;> rw [y] <;> decide
                           first
                             | exact absurd h168 hno
                             | (rw [hcv2.2] at f1
                                exact bad 3 M5 est (by decide) (hX4.s1 f2 fa f1 hX.2.2.1 (Nat.le_refl _)) ((fa 3 (by decide)).trans z3) ((fa 4 (by decide)).trans z4) (by rw [fa 0 (by decide)]; exact z8) (by rw [fa 0 (by decide)]; exact z9)))
              · exact absurd h135 (by decide)
            · exact absurd h105 (by rw [if_pos hi5]; decide)
        · have hok : okR n t p = false := by unfold okR; rw [← hq, c1, c2]; simpa using c3
          have hi5 : inS (sgV n t (q + 1)) 48 57 = true := hdg.mpr c2
          have hX2 : RM (qI M1 0 7 (q + 1)) b s k was n t := hX1.fld (by decide) (by decide)
          refine T.aload_n (pc' := 86) (q_d dX6_doesNext_1 10 rfl) rfl rfl rfl ?_
          refine T.bipush (pc' := 88) (v := nI 58) (q_d dX6_doesNext_1 11 rfl) rfl (by decide) ?_
          refine T.callV (pc' := 91) (ci := 6) (q_d dX6_doesNext_1 12 rfl) rfl uX6_takes wM_X6_127 (m_takes hX1 h71 (show q < 1000 by omega) (c := 58) (by decide)) rfl rfl (by decide) rfl rfl (by decide) (Nat.le_of_ble_eq_true rfl) rfl rfl (fun _ => rfl) ?_
          rintro _ _ ⟨rfl, rfl⟩
          rw [c1]
          dsimp only [Option.toList, List.cons_append, List.nil_append, List.append_nil]
          refine T.if_eqN (tgt := 108) (pc' := 94) (q_d dX6_doesNext_1 13 rfl) rfl (by decide) (by decide) (fun h91 => ?_) (fun h91 => ?_)
          · exact absurd h91 (by decide)
          · refine T.aload_n (pc' := 95) (q_d dX6_doesNext_1 14 rfl) rfl rfl rfl ?_
            refine T.callV (pc' := 98) (ci := 6) (q_d dX6_doesNext_1 15 rfl) rfl uX6_sign wM_X6_124 (m_sign hX2 qI_eq (show q + 1 < 1000 by omega)) rfl rfl (by decide) rfl rfl (by decide) (Nat.le_of_ble_eq_true rfl) rfl rfl (fun _ => rfl) ?_
            rintro _ _ ⟨rfl, rfl⟩
            dsimp only [Option.toList, List.cons_append, List.nil_append, List.append_nil]
            refine T.bipush (pc' := 100) (v := nI 48) (q_d dX6_doesNext_1 16 rfl) rfl (by decide) ?_
            refine T.bipush (pc' := 102) (v := nI 57) (q_d dX6_doesNext_1 17 rfl) rfl (by decide) ?_
            refine T.callS (pc' := 105) (q_d dX6_doesNext_1 18 rfl) rfl uX6_in wM_X6_43 (m_in hv1 (by decide) (hi := 57) (by decide)) rfl rfl (by decide) (Nat.le_of_ble_eq_true rfl) rfl rfl (fun _ => rfl) ?_
            rintro _ _ ⟨rfl, rfl⟩
            dsimp only [Option.toList, List.cons_append, List.nil_append, List.append_nil]
            refine T.if_neN (tgt := 110) (pc' := 108) (q_d dX6_doesNext_1 19 rfl) rfl (by decide) (by split <;> decide) (fun h105 => ?_) (fun h105 => ?_)
            · refine T.aload_n (pc' := 111) (q_d dX6_doesNext_1 22 rfl) rfl rfl rfl ?_
              refine T.callV (pc' := 114) (ci := 6) (q_d dX6_doesNext_1 23 rfl) rfl uX6_sign wM_X6_124 (m_sign hX2 qI_eq (show q + 1 < 1000 by omega)) rfl rfl (by decide) rfl rfl (by decide) (Nat.le_of_ble_eq_true rfl) rfl rfl (fun _ => rfl) ?_
              rintro _ _ ⟨rfl, rfl⟩
              dsimp only [Option.toList, List.cons_append, List.nil_append, List.append_nil]
              refine T.bipush (pc' := 116) (v := nI 48) (q_d dX6_doesNext_1 24 rfl) rfl (by decide) ?_
              refine T.isub (pc' := 117) (q_d dX6_doesNext_1 25 rfl) rfl ((congrArg (fun z => nI z - nI 48) ev).trans (nN_sub (by omega))) ?_
              refine T.istore (pc' := 119) (q_d dX6_doesNext_1 26 rfl) rfl (by decide) rfl rfl ?_
              refine T.aload_n (pc' := 120) (q_d dX6_doesNext_1 27 rfl) rfl rfl rfl ?_
              refine T.dup (pc' := 121) (q_d dX6_doesNext_1 28 rfl) rfl rfl ?_
              refine T.getI (pc' := 124) (ci := 6) (k0 := 7) (q_d dX6_doesNext_1 29 rfl) rfl rfl (by decide) rfl inX6 (by decide) rfl wF_X6_121 qI_eq ?_
              refine T.iconst (pc' := 125) (v := nI 1) (q_d dX6_doesNext_1 30 rfl) rfl (by decide) ?_
              refine T.iadd (pc' := 126) (q_d dX6_doesNext_1 31 rfl) rfl (nI_add _ _) ?_
              refine T.putI (pc' := 129) (ci := 6) (k0 := 7) (q_d dX6_doesNext_1 32 rfl) rfl rfl (by decide) rfl inX6 tyX6 tyX6_ok nmX6 (by decide) rfl wF_X6_121 rfl rfl rfl ?_
              have hX3 : RM (qI (qI M1 0 7 (q + 1)) 0 7 (q + 1 + 1)) b s k was n t := hX2.fld (by decide) (by decide)
              refine T.aload_n (pc' := 130) (q_d dX6_doesNext_1 33 rfl) rfl rfl rfl ?_
              refine T.bipush (pc' := 132) (v := nI 59) (q_d dX6_doesNext_1 34 rfl) rfl (by decide) ?_
              refine T.callV (pc' := 135) (ci := 6) (q_d dX6_doesNext_1 35 rfl) rfl uX6_takes wM_X6_127 (m_takes hX3 qI_eq (show q + 1 + 1 < 1000 by omega) (c := 59) (by decide)) rfl rfl (by decide) rfl rfl (by decide) (Nat.le_of_ble_eq_true rfl) rfl rfl (fun _ => rfl) ?_
              rintro _ M4 ⟨rfl, e9'⟩
              dsimp only [Option.toList, List.cons_append, List.nil_append, List.append_nil]
              refine T.if_neN (tgt := 140) (pc' := 138) (q_d dX6_doesNext_1 36 rfl) rfl (by decide) (by split <;> decide) (fun h135 => ?_) (fun h135 => ?_)
              · exact absurd (if_neg c3) h135
              · refine T.iconst (pc' := 139) (v := nI 1) (q_d dX6_doesNext_1 37 rfl) rfl (by decide) ?_
                refine T.iret (q_d dX6_doesNext_1 38 rfl) rfl rfl rfl ?_
                subst e9'
                refine bad 1 _ (no1 hok) (by decide) (hX3.fld (by decide) (by decide)) ?_ ?_ ?_ ?_
                · rw [← e3]; funext j; rw [qI_ne (Or.inl (by decide)), qI_ne (Or.inl (by decide)), qI_ne (Or.inl (by decide))]
                · rw [← e4]; funext j; rw [qI_ne (Or.inl (by decide)), qI_ne (Or.inl (by decide)), qI_ne (Or.inl (by decide))]
                · rw [qI_ne (Or.inr (by decide)), qI_ne (Or.inr (by decide)), qI_ne (Or.inr (by decide)), e8]
                · rw [qI_ne (Or.inr (by decide)), qI_ne (Or.inr (by decide)), qI_ne (Or.inr (by decide)), e9]
            · exact absurd h105 (by rw [if_pos hi5]; decide)
      · have hok : okR n t p = false := by unfold okR; rw [← hq, c1]; simp only [Bool.not_eq_true] at c2; rw [c2]; rfl
        have hi5 : ¬ inS (sgV n t (q + 1)) 48 57 = true := fun z => c2 (hdg.mp z)
        have hX2 : RM (qI M1 0 7 (q + 1)) b s k was n t := hX1.fld (by decide) (by decide)
        refine T.aload_n (pc' := 86) (q_d dX6_doesNext_1 10 rfl) rfl rfl rfl ?_
        refine T.bipush (pc' := 88) (v := nI 58) (q_d dX6_doesNext_1 11 rfl) rfl (by decide) ?_
        refine T.callV (pc' := 91) (ci := 6) (q_d dX6_doesNext_1 12 rfl) rfl uX6_takes wM_X6_127 (m_takes hX1 h71 (show q < 1000 by omega) (c := 58) (by decide)) rfl rfl (by decide) rfl rfl (by decide) (Nat.le_of_ble_eq_true rfl) rfl rfl (fun _ => rfl) ?_
        rintro _ _ ⟨rfl, rfl⟩
        rw [c1]
        dsimp only [Option.toList, List.cons_append, List.nil_append, List.append_nil]
        refine T.if_eqN (tgt := 108) (pc' := 94) (q_d dX6_doesNext_1 13 rfl) rfl (by decide) (by decide) (fun h91 => ?_) (fun h91 => ?_)
        · exact absurd h91 (by decide)
        · refine T.aload_n (pc' := 95) (q_d dX6_doesNext_1 14 rfl) rfl rfl rfl ?_
          refine T.callV (pc' := 98) (ci := 6) (q_d dX6_doesNext_1 15 rfl) rfl uX6_sign wM_X6_124 (m_sign hX2 qI_eq (show q + 1 < 1000 by omega)) rfl rfl (by decide) rfl rfl (by decide) (Nat.le_of_ble_eq_true rfl) rfl rfl (fun _ => rfl) ?_
          rintro _ _ ⟨rfl, rfl⟩
          dsimp only [Option.toList, List.cons_append, List.nil_append, List.append_nil]
          refine T.bipush (pc' := 100) (v := nI 48) (q_d dX6_doesNext_1 16 rfl) rfl (by decide) ?_
          refine T.bipush (pc' := 102) (v := nI 57) (q_d dX6_doesNext_1 17 rfl) rfl (by decide) ?_
          refine T.callS (pc' := 105) (q_d dX6_doesNext_1 18 rfl) rfl uX6_in wM_X6_43 (m_in hv1 (by decide) (hi := 57) (by decide)) rfl rfl (by decide) (Nat.le_of_ble_eq_true rfl) rfl rfl (fun _ => rfl) ?_
          rintro _ _ ⟨rfl, rfl⟩
          dsimp only [Option.toList, List.cons_append, List.nil_append, List.append_nil]
          refine T.if_neN (tgt := 110) (pc' := 108) (q_d dX6_doesNext_1 19 rfl) rfl (by decide) (by split <;> decide) (fun h105 => ?_) (fun h105 => ?_)
          · exact absurd (if_neg hi5) h105
          · refine T.iconst (pc' := 109) (v := nI 1) (q_d dX6_doesNext_1 20 rfl) rfl (by decide) ?_
            refine T.iret (q_d dX6_doesNext_1 21 rfl) rfl rfl rfl ?_
            refine bad 1 _ (no1 hok) (by decide) hX2 ?_ ?_ ?_ ?_
            · rw [← e3]; funext j; exact qI_ne (Or.inl (by decide))
            · rw [← e4]; funext j; exact qI_ne (Or.inl (by decide))
            · exact (qI_ne (Or.inr (by decide))).trans e8
            · exact (qI_ne (Or.inr (by decide))).trans e9
    · have hok : okR n t p = false := by unfold okR; rw [← hq]; simp only [Bool.not_eq_true] at c1; rw [c1]; rfl
      refine T.aload_n (pc' := 86) (q_d dX6_doesNext_1 10 rfl) rfl rfl rfl ?_
      refine T.bipush (pc' := 88) (v := nI 58) (q_d dX6_doesNext_1 11 rfl) rfl (by decide) ?_
      refine T.callV (pc' := 91) (ci := 6) (q_d dX6_doesNext_1 12 rfl) rfl uX6_takes wM_X6_127 (m_takes hX1 h71 (show q < 1000 by omega) (c := 58) (by decide)) rfl rfl (by decide) rfl rfl (by decide) (Nat.le_of_ble_eq_true rfl) rfl rfl (fun _ => rfl) ?_
      rintro _ M4 ⟨rfl, e9'⟩
      dsimp only [Option.toList, List.cons_append, List.nil_append, List.append_nil]
      refine T.if_eqN (tgt := 108) (pc' := 94) (q_d dX6_doesNext_1 13 rfl) rfl (by decide) (by split <;> decide) (fun h91 => ?_) (fun h91 => ?_)
      · refine T.iconst (pc' := 109) (v := nI 1) (q_d dX6_doesNext_1 20 rfl) rfl (by decide) ?_
        refine T.iret (q_d dX6_doesNext_1 21 rfl) rfl rfl rfl ?_
        subst e9'
        refine bad 1 _ (no1 hok) (by decide) (hX1.fld (by decide) (by decide)) ?_ ?_ ?_ ?_
        · rw [← e3]; funext j; exact qI_ne (Or.inl (by decide))
        · rw [← e4]; funext j; exact qI_ne (Or.inl (by decide))
        · exact (qI_ne (Or.inr (by decide))).trans e8
        · exact (qI_ne (Or.inr (by decide))).trans e9
      · exact absurd (if_neg c1) h91
  have step : ∀ mask g cnt q (M1 : qM), M1.1 0 7 = q → RM M1 b s k was n t → dg n t q = true → cnt < 2 → mask < 2 ^ 31 → g ≤ 1 → q < 100 →
      T l hdM kM mX6_doesNext (DnQ M b s k was n t p) 0 0 6 [some (.ref 0), some (.int (nI (mask ||| 1 <<< (t q - 48)))), some (.int (nI (if g = 1 ∧ t q - 48 < s 0 ∧ mask >>> (t q - 48) &&& 1 = 0 then 1 else 0))), some (.int (nI (cnt + 1))), none] [] (qI M1 0 7 (q + 1)) →
      T l hdM kM mX6_doesNext (DnQ M b s k was n t p) 0 0 6 [some (.ref 0), some (.int (nI mask)), some (.int (nI g)), some (.int (nI cnt)), none] [] M1 := by
    intro mask g cnt q M1 h71 hX1 hd hcnt hml hg hq h
    have hd2 := dg_iff.mp hd
    have hv1 := sgV_lt hw q
    have ev : sgV n t q = t q := if_pos hd2.1
    have hi5 : inS (sgV n t q) 48 57 = true := (sgV_dg hw q).mpr hd
    have gb := and1_01 (mask >>> (t q - 48))
    refine T.aload_n (pc' := 7) (q_d dX6_doesNext_0 6 rfl) rfl rfl rfl ?_
    refine T.callV (pc' := 10) (ci := 6) (q_d dX6_doesNext_0 7 rfl) rfl uX6_sign wM_X6_124 (m_sign hX1 h71 (show q < 1000 by omega)) rfl rfl (by decide) rfl rfl (by decide) (Nat.le_of_ble_eq_true rfl) rfl rfl (fun _ => rfl) ?_
    rintro _ _ ⟨rfl, rfl⟩
    dsimp only [Option.toList, List.cons_append, List.nil_append, List.append_nil]
    refine T.bipush (pc' := 12) (v := nI 48) (q_d dX6_doesNext_0 8 rfl) rfl (by decide) ?_
    refine T.bipush (pc' := 14) (v := nI 57) (q_d dX6_doesNext_0 9 rfl) rfl (by decide) ?_
    refine T.callS (pc' := 17) (q_d dX6_doesNext_0 10 rfl) rfl uX6_in wM_X6_43 (m_in hv1 (by decide) (hi := 57) (by decide)) rfl rfl (by decide) (Nat.le_of_ble_eq_true rfl) rfl rfl (fun _ => rfl) ?_
    rintro _ _ ⟨rfl, rfl⟩
    dsimp only [Option.toList, List.cons_append, List.nil_append, List.append_nil]
    refine T.if_eqN (tgt := 85) (pc' := 20) (q_d dX6_doesNext_0 11 rfl) rfl (by decide) (by split <;> decide) (fun h17 => ?_) (fun h17 => ?_)
    · exact absurd h17 (by rw [if_pos hi5]; decide)
    · refine T.iload_n (pc' := 21) (q_d dX6_doesNext_0 12 rfl) rfl rfl rfl ?_
      refine T.iconst (pc' := 22) (v := nI 2) (q_d dX6_doesNext_0 13 rfl) rfl (by decide) ?_
      refine T.icmp_geN (tgt := 85) (pc' := 25) (q_d dX6_doesNext_0 14 rfl) rfl (by decide) (by omega) (by omega) (fun h22 => ?_) (fun h22 => ?_)
      · exact absurd hcnt (by omega)
      · refine T.aload_n (pc' := 26) (q_d dX6_doesNext_0 15 rfl) rfl rfl rfl ?_
        refine T.callV (pc' := 29) (ci := 6) (q_d dX6_doesNext_0 16 rfl) rfl uX6_sign wM_X6_124 (m_sign hX1 h71 (show q < 1000 by omega)) rfl rfl (by decide) rfl rfl (by decide) (Nat.le_of_ble_eq_true rfl) rfl rfl (fun _ => rfl) ?_
        rintro _ _ ⟨rfl, rfl⟩
        dsimp only [Option.toList, List.cons_append, List.nil_append, List.append_nil]
        refine T.bipush (pc' := 31) (v := nI 48) (q_d dX6_doesNext_0 17 rfl) rfl (by decide) ?_
        refine T.isub (pc' := 32) (q_d dX6_doesNext_0 18 rfl) rfl ((congrArg (fun z => nI z - nI 48) ev).trans (nN_sub (by omega))) ?_
        refine T.istore (pc' := 34) (q_d dX6_doesNext_0 19 rfl) rfl (by decide) rfl rfl ?_
        refine T.iload_n (pc' := 35) (q_d dX6_doesNext_0 20 rfl) rfl rfl rfl ?_
        refine T.if_eqN (tgt := 60) (pc' := 38) (q_d dX6_doesNext_0 21 rfl) rfl (by decide) (by omega) (fun h35 => ?_) (fun h35 => ?_)
        · refine T.iconst (pc' := 61) (v := nI 0) (q_d dX6_doesNext_0 34 rfl) rfl (by decide) ?_
          refine T.istore_n (pc' := 62) (q_d dX6_doesNext_0 35 rfl) rfl rfl (by decide) rfl rfl ?_
          refine T.iload_n (pc' := 63) (q_d dX6_doesNext_0 36 rfl) rfl rfl rfl ?_
          refine T.iconst (pc' := 64) (v := nI 1) (q_d dX6_doesNext_0 37 rfl) rfl (by decide) ?_
          refine T.iload (pc' := 66) (q_d dX6_doesNext_0 38 rfl) rfl rfl ?_
          refine T.ishl (pc' := 67) (q_d dX6_doesNext_0 39 rfl) rfl (nN_shl _ (by omega)) ?_
          refine T.ior (pc' := 68) (q_d dX6_doesNext_1 0 rfl) rfl (nN_or _ _) ?_
          refine T.istore_n (pc' := 69) (q_d dX6_doesNext_1 1 rfl) rfl rfl (by decide) rfl rfl ?_
          refine T.iinc (pc' := 72) (q_d dX6_doesNext_1 2 rfl) rfl rfl (nN_p _ 1) (by decide) rfl rfl ?_
          refine T.aload_n (pc' := 73) (q_d dX6_doesNext_1 3 rfl) rfl rfl rfl ?_
          refine T.dup (pc' := 74) (q_d dX6_doesNext_1 4 rfl) rfl rfl ?_
          refine T.getI (pc' := 77) (ci := 6) (k0 := 7) (q_d dX6_doesNext_1 5 rfl) rfl rfl (by decide) rfl inX6 (by decide) rfl wF_X6_121 h71 ?_
          refine T.iconst (pc' := 78) (v := nI 1) (q_d dX6_doesNext_1 6 rfl) rfl (by decide) ?_
          refine T.iadd (pc' := 79) (q_d dX6_doesNext_1 7 rfl) rfl (nI_add _ _) ?_
          refine T.putI (pc' := 82) (ci := 6) (k0 := 7) (q_d dX6_doesNext_1 8 rfl) rfl rfl (by decide) rfl inX6 tyX6 tyX6_ok nmX6 (by decide) rfl wF_X6_121 rfl rfl rfl ?_
          refine T.goto (tgt := 6) (q_d dX6_doesNext_1 9 rfl) (by decide) ?_
          refine T.drop (loc' := _) ?_ h
          first
            | (rw [if_neg (fun z => absurd z.1 (by omega))]
               exact ⟨rfl, rfl, rfl, rfl, trivial⟩)
            | (rw [if_neg (fun z => by rw [if_pos z.2.1] at h44; exact absurd h44 (by decide))]
               exact ⟨rfl, rfl, rfl, rfl, trivial⟩)
            | (rw [if_neg (fun z => h53 z.2.2)]
               exact ⟨rfl, rfl, rfl, rfl, trivial⟩)
            | (have hpl : t q - 48 < s 0 := by
                 by_cases z : t q - 48 < s 0
                 · exact z
                 · rw [if_neg z] at h44; exact absurd rfl h44
               rw [if_pos ⟨by omega, hpl, h53⟩]
               exact ⟨rfl, rfl, rfl, rfl, trivial⟩)
        · refine T.aload_n (pc' := 39) (q_d dX6_doesNext_0 22 rfl) rfl rfl rfl ?_
          refine T.iload (pc' := 41) (q_d dX6_doesNext_0 23 rfl) rfl rfl ?_
          refine T.callV (pc' := 44) (ci := 6) (q_d dX6_doesNext_0 24 rfl) rfl uX6_isPlace wM_X6_63 (m_isPlace hX1 (show t q - 48 < 4294967296 by omega)) rfl rfl (by decide) rfl rfl (by decide) (Nat.le_of_ble_eq_true rfl) rfl rfl (fun _ => rfl) ?_
          rintro _ _ ⟨rfl, rfl⟩
          dsimp only [Option.toList, List.cons_append, List.nil_append, List.append_nil]
          refine T.if_eqN (tgt := 60) (pc' := 47) (q_d dX6_doesNext_0 25 rfl) rfl (by decide) (by split <;> decide) (fun h44 => ?_) (fun h44 => ?_)
          · refine T.iconst (pc' := 61) (v := nI 0) (q_d dX6_doesNext_0 34 rfl) rfl (by decide) ?_
            refine T.istore_n (pc' := 62) (q_d dX6_doesNext_0 35 rfl) rfl rfl (by decide) rfl rfl ?_
            refine T.iload_n (pc' := 63) (q_d dX6_doesNext_0 36 rfl) rfl rfl rfl ?_
            refine T.iconst (pc' := 64) (v := nI 1) (q_d dX6_doesNext_0 37 rfl) rfl (by decide) ?_
            refine T.iload (pc' := 66) (q_d dX6_doesNext_0 38 rfl) rfl rfl ?_
            refine T.ishl (pc' := 67) (q_d dX6_doesNext_0 39 rfl) rfl (nN_shl _ (by omega)) ?_
            refine T.ior (pc' := 68) (q_d dX6_doesNext_1 0 rfl) rfl (nN_or _ _) ?_
            refine T.istore_n (pc' := 69) (q_d dX6_doesNext_1 1 rfl) rfl rfl (by decide) rfl rfl ?_
            refine T.iinc (pc' := 72) (q_d dX6_doesNext_1 2 rfl) rfl rfl (nN_p _ 1) (by decide) rfl rfl ?_
            refine T.aload_n (pc' := 73) (q_d dX6_doesNext_1 3 rfl) rfl rfl rfl ?_
            refine T.dup (pc' := 74) (q_d dX6_doesNext_1 4 rfl) rfl rfl ?_
            refine T.getI (pc' := 77) (ci := 6) (k0 := 7) (q_d dX6_doesNext_1 5 rfl) rfl rfl (by decide) rfl inX6 (by decide) rfl wF_X6_121 h71 ?_
            refine T.iconst (pc' := 78) (v := nI 1) (q_d dX6_doesNext_1 6 rfl) rfl (by decide) ?_
            refine T.iadd (pc' := 79) (q_d dX6_doesNext_1 7 rfl) rfl (nI_add _ _) ?_
            refine T.putI (pc' := 82) (ci := 6) (k0 := 7) (q_d dX6_doesNext_1 8 rfl) rfl rfl (by decide) rfl inX6 tyX6 tyX6_ok nmX6 (by decide) rfl wF_X6_121 rfl rfl rfl ?_
            refine T.goto (tgt := 6) (q_d dX6_doesNext_1 9 rfl) (by decide) ?_
            refine T.drop (loc' := _) ?_ h
            first
              | (rw [if_neg (fun z => absurd z.1 (by omega))]
                 exact ⟨rfl, rfl, rfl, rfl, trivial⟩)
              | (rw [if_neg (fun z => by rw [if_pos z.2.1] at h44; exact absurd h44 (by decide))]
                 exact ⟨rfl, rfl, rfl, rfl, trivial⟩)
              | (rw [if_neg (fun z => h53 z.2.2)]
                 exact ⟨rfl, rfl, rfl, rfl, trivial⟩)
              | (have hpl : t q - 48 < s 0 := by
                   by_cases z : t q - 48 < s 0
                   · exact z
                   · rw [if_neg z] at h44; exact absurd rfl h44
                 rw [if_pos ⟨by omega, hpl, h53⟩]
                 exact ⟨rfl, rfl, rfl, rfl, trivial⟩)
          · refine T.iload_n (pc' := 48) (q_d dX6_doesNext_0 26 rfl) rfl rfl rfl ?_
            refine T.iload (pc' := 50) (q_d dX6_doesNext_0 27 rfl) rfl rfl ?_
            refine T.ishr (pc' := 51) (q_d dX6_doesNext_0 28 rfl) rfl (nN_shr (by omega) (by omega)) ?_
            refine T.iconst (pc' := 52) (v := nI 1) (q_d dX6_doesNext_0 29 rfl) rfl (by decide) ?_
            refine T.iand (pc' := 53) (q_d dX6_doesNext_0 30 rfl) rfl (nN_and _ _) ?_
            refine T.if_neN (tgt := 60) (pc' := 56) (q_d dX6_doesNext_0 31 rfl) rfl (by decide) (by omega) (fun h53 => ?_) (fun h53 => ?_)
            · refine T.iconst (pc' := 61) (v := nI 0) (q_d dX6_doesNext_0 34 rfl) rfl (by decide) ?_
              refine T.istore_n (pc' := 62) (q_d dX6_doesNext_0 35 rfl) rfl rfl (by decide) rfl rfl ?_
              refine T.iload_n (pc' := 63) (q_d dX6_doesNext_0 36 rfl) rfl rfl rfl ?_
              refine T.iconst (pc' := 64) (v := nI 1) (q_d dX6_doesNext_0 37 rfl) rfl (by decide) ?_
              refine T.iload (pc' := 66) (q_d dX6_doesNext_0 38 rfl) rfl rfl ?_
              refine T.ishl (pc' := 67) (q_d dX6_doesNext_0 39 rfl) rfl (nN_shl _ (by omega)) ?_
              refine T.ior (pc' := 68) (q_d dX6_doesNext_1 0 rfl) rfl (nN_or _ _) ?_
              refine T.istore_n (pc' := 69) (q_d dX6_doesNext_1 1 rfl) rfl rfl (by decide) rfl rfl ?_
              refine T.iinc (pc' := 72) (q_d dX6_doesNext_1 2 rfl) rfl rfl (nN_p _ 1) (by decide) rfl rfl ?_
              refine T.aload_n (pc' := 73) (q_d dX6_doesNext_1 3 rfl) rfl rfl rfl ?_
              refine T.dup (pc' := 74) (q_d dX6_doesNext_1 4 rfl) rfl rfl ?_
              refine T.getI (pc' := 77) (ci := 6) (k0 := 7) (q_d dX6_doesNext_1 5 rfl) rfl rfl (by decide) rfl inX6 (by decide) rfl wF_X6_121 h71 ?_
              refine T.iconst (pc' := 78) (v := nI 1) (q_d dX6_doesNext_1 6 rfl) rfl (by decide) ?_
              refine T.iadd (pc' := 79) (q_d dX6_doesNext_1 7 rfl) rfl (nI_add _ _) ?_
              refine T.putI (pc' := 82) (ci := 6) (k0 := 7) (q_d dX6_doesNext_1 8 rfl) rfl rfl (by decide) rfl inX6 tyX6 tyX6_ok nmX6 (by decide) rfl wF_X6_121 rfl rfl rfl ?_
              refine T.goto (tgt := 6) (q_d dX6_doesNext_1 9 rfl) (by decide) ?_
              refine T.drop (loc' := _) ?_ h
              first
                | (rw [if_neg (fun z => absurd z.1 (by omega))]
                   exact ⟨rfl, rfl, rfl, rfl, trivial⟩)
                | (rw [if_neg (fun z => by rw [if_pos z.2.1] at h44; exact absurd h44 (by decide))]
                   exact ⟨rfl, rfl, rfl, rfl, trivial⟩)
                | (rw [if_neg (fun z => h53 z.2.2)]
                   exact ⟨rfl, rfl, rfl, rfl, trivial⟩)
                | (have hpl : t q - 48 < s 0 := by
                     by_cases z : t q - 48 < s 0
                     · exact z
                     · rw [if_neg z] at h44; exact absurd rfl h44
                   rw [if_pos ⟨by omega, hpl, h53⟩]
                   exact ⟨rfl, rfl, rfl, rfl, trivial⟩)
            · refine T.iconst (pc' := 57) (v := nI 1) (q_d dX6_doesNext_0 32 rfl) rfl (by decide) ?_
              refine T.goto (tgt := 61) (q_d dX6_doesNext_0 33 rfl) (by decide) ?_
              refine T.istore_n (pc' := 62) (q_d dX6_doesNext_0 35 rfl) rfl rfl (by decide) rfl rfl ?_
              refine T.iload_n (pc' := 63) (q_d dX6_doesNext_0 36 rfl) rfl rfl rfl ?_
              refine T.iconst (pc' := 64) (v := nI 1) (q_d dX6_doesNext_0 37 rfl) rfl (by decide) ?_
              refine T.iload (pc' := 66) (q_d dX6_doesNext_0 38 rfl) rfl rfl ?_
              refine T.ishl (pc' := 67) (q_d dX6_doesNext_0 39 rfl) rfl (nN_shl _ (by omega)) ?_
              refine T.ior (pc' := 68) (q_d dX6_doesNext_1 0 rfl) rfl (nN_or _ _) ?_
              refine T.istore_n (pc' := 69) (q_d dX6_doesNext_1 1 rfl) rfl rfl (by decide) rfl rfl ?_
              refine T.iinc (pc' := 72) (q_d dX6_doesNext_1 2 rfl) rfl rfl (nN_p _ 1) (by decide) rfl rfl ?_
              refine T.aload_n (pc' := 73) (q_d dX6_doesNext_1 3 rfl) rfl rfl rfl ?_
              refine T.dup (pc' := 74) (q_d dX6_doesNext_1 4 rfl) rfl rfl ?_
              refine T.getI (pc' := 77) (ci := 6) (k0 := 7) (q_d dX6_doesNext_1 5 rfl) rfl rfl (by decide) rfl inX6 (by decide) rfl wF_X6_121 h71 ?_
              refine T.iconst (pc' := 78) (v := nI 1) (q_d dX6_doesNext_1 6 rfl) rfl (by decide) ?_
              refine T.iadd (pc' := 79) (q_d dX6_doesNext_1 7 rfl) rfl (nI_add _ _) ?_
              refine T.putI (pc' := 82) (ci := 6) (k0 := 7) (q_d dX6_doesNext_1 8 rfl) rfl rfl (by decide) rfl inX6 tyX6 tyX6_ok nmX6 (by decide) rfl wF_X6_121 rfl rfl rfl ?_
              refine T.goto (tgt := 6) (q_d dX6_doesNext_1 9 rfl) (by decide) ?_
              refine T.drop (loc' := _) ?_ h
              first
                | (rw [if_neg (fun z => absurd z.1 (by omega))]
                   exact ⟨rfl, rfl, rfl, rfl, trivial⟩)
                | (rw [if_neg (fun z => by rw [if_pos z.2.1] at h44; exact absurd h44 (by decide))]
                   exact ⟨rfl, rfl, rfl, rfl, trivial⟩)
                | (rw [if_neg (fun z => h53 z.2.2)]
                   exact ⟨rfl, rfl, rfl, rfl, trivial⟩)
                | (have hpl : t q - 48 < s 0 := by
                     by_cases z : t q - 48 < s 0
                     · exact z
                     · rw [if_neg z] at h44; exact absurd rfl h44
                   rw [if_pos ⟨by omega, hpl, h53⟩]
                   exact ⟨rfl, rfl, rfl, rfl, trivial⟩)
  have out : ∀ mask g cnt q (M1 : qM), M1.1 0 7 = q → RM M1 b s k was n t → (dg n t q = false ∨ cnt = 2) → cnt ≤ 2 → q < 100 →
      T l hdM kM mX6_doesNext (DnQ M b s k was n t p) 0 0 85 [some (.ref 0), some (.int (nI mask)), some (.int (nI g)), some (.int (nI cnt)), none] [] M1 →
      T l hdM kM mX6_doesNext (DnQ M b s k was n t p) 0 0 6 [some (.ref 0), some (.int (nI mask)), some (.int (nI g)), some (.int (nI cnt)), none] [] M1 := by
    intro mask g cnt q M1 h71 hX1 hd hcnt hq h
    have hv1 := sgV_lt hw q
    have hdq := sgV_dg hw q
    refine T.aload_n (pc' := 7) (q_d dX6_doesNext_0 6 rfl) rfl rfl rfl ?_
    refine T.callV (pc' := 10) (ci := 6) (q_d dX6_doesNext_0 7 rfl) rfl uX6_sign wM_X6_124 (m_sign hX1 h71 (show q < 1000 by omega)) rfl rfl (by decide) rfl rfl (by decide) (Nat.le_of_ble_eq_true rfl) rfl rfl (fun _ => rfl) ?_
    rintro _ _ ⟨rfl, rfl⟩
    dsimp only [Option.toList, List.cons_append, List.nil_append, List.append_nil]
    refine T.bipush (pc' := 12) (v := nI 48) (q_d dX6_doesNext_0 8 rfl) rfl (by decide) ?_
    refine T.bipush (pc' := 14) (v := nI 57) (q_d dX6_doesNext_0 9 rfl) rfl (by decide) ?_
    refine T.callS (pc' := 17) (q_d dX6_doesNext_0 10 rfl) rfl uX6_in wM_X6_43 (m_in hv1 (by decide) (hi := 57) (by decide)) rfl rfl (by decide) (Nat.le_of_ble_eq_true rfl) rfl rfl (fun _ => rfl) ?_
    rintro _ _ ⟨rfl, rfl⟩
    dsimp only [Option.toList, List.cons_append, List.nil_append, List.append_nil]
    refine T.if_eqN (tgt := 85) (pc' := 20) (q_d dX6_doesNext_0 11 rfl) rfl (by decide) (by split <;> decide) (fun h17 => ?_) (fun h17 => ?_)
    · exact h
    · refine T.iload_n (pc' := 21) (q_d dX6_doesNext_0 12 rfl) rfl rfl rfl ?_
      refine T.iconst (pc' := 22) (v := nI 2) (q_d dX6_doesNext_0 13 rfl) rfl (by decide) ?_
      refine T.icmp_geN (tgt := 85) (pc' := 25) (q_d dX6_doesNext_0 14 rfl) rfl (by decide) (by omega) (by omega) (fun h22 => ?_) (fun h22 => ?_)
      · exact h
      · rcases hd with z | z
        · rw [if_neg (fun y => by rw [hdq.mp y] at z; exact absurd z (by decide))] at h17; exact absurd rfl h17
        · omega
  have e3r : ∀ M1 : qM, ∀ x, (qI M1 0 7 x).1 3 = M1.1 3 := fun M1 x => by funext j; exact qI_ne (Or.inl (by decide))
  have e4r : ∀ M1 : qM, ∀ x, (qI M1 0 7 x).1 4 = M1.1 4 := fun M1 x => by funext j; exact qI_ne (Or.inl (by decide))
  have e8r : ∀ M1 : qM, ∀ x, (qI M1 0 7 x).1 0 8 = M1.1 0 8 := fun M1 x => qI_ne (Or.inr (by decide))
  have e9r : ∀ M1 : qM, ∀ x, (qI M1 0 7 x).1 0 9 = M1.1 0 9 := fun M1 x => qI_ne (Or.inr (by decide))
  have hz : ∀ d, (0 : Nat) >>> d &&& 1 = 0 := fun d => by simp
  by_cases d1 : dg n t p = true
  · have ho1 : oneV n t p = t p - 48 := if_pos d1
    have hA : pA n t p = p + 1 := if_pos d1
    have hd1 := dg_iff.mp d1
    have hX1 : RM (qI M 0 7 (p + 1)) b s k was n t := hX.fld (by decide) (by decide)
    by_cases d2 : dg n t (p + 1) = true
    · have ho2 : othV n t p = t (p + 1) - 48 := by unfold othV; rw [hA, if_pos d2]
      have hB : pB n t p = p + 2 := by unfold pB; rw [hA, if_pos d2]
      have hd2 := dg_iff.mp d2
      have hX2 : RM (qI (qI M 0 7 (p + 1)) 0 7 (p + 1 + 1)) b s k was n t := hX1.fld (by decide) (by decide)
      have m1l : (0 ||| 1 <<< (t p - 48)) < 2 ^ 10 := by rw [Nat.zero_or, Nat.one_shiftLeft]; exact Nat.pow_lt_pow_right (by decide) (by omega)
      have m2l : (0 ||| 1 <<< (t p - 48) ||| 1 <<< (t (p + 1) - 48)) < 2 ^ 10 := Nat.or_lt_two_pow m1l (by rw [Nat.one_shiftLeft]; exact Nat.pow_lt_pow_right (by decide) (by omega))
      have hbit : (0 ||| 1 <<< (t p - 48)) >>> (t (p + 1) - 48) &&& 1 = 0 ↔ t p - 48 ≠ t (p + 1) - 48 := by
        rw [Nat.zero_or, sh_bit]
        constructor
        · intro h e; rw [one_bit.mpr e.symm] at h; exact absurd h (by decide)
        · intro h
          cases e : (1 <<< (t p - 48)).testBit (t (p + 1) - 48) with
          | false => rfl
          | true => exact absurd (one_bit.mp e).symm h
      have hgood2 : ((if (if 1 = 1 ∧ t p - 48 < s 0 ∧ 0 >>> (t p - 48) &&& 1 = 0 then 1 else 0) = 1 ∧ t (p + 1) - 48 < s 0 ∧ (0 ||| 1 <<< (t p - 48)) >>> (t (p + 1) - 48) &&& 1 = 0 then 1 else 0) = 1) ↔ (t p - 48 < s 0 ∧ t (p + 1) - 48 < s 0 ∧ t p - 48 ≠ t (p + 1) - 48) := by
        simp only [hbit, hz]
        by_cases a : t p - 48 < s 0 <;> by_cases c : t (p + 1) - 48 < s 0 <;> by_cases e : t p - 48 = t (p + 1) - 48 <;> simp [a, c, e]
      have T2 := tail (0 ||| 1 <<< (t p - 48) ||| 1 <<< (t (p + 1) - 48)) _ 2 (p + 1 + 1) (qI (qI M 0 7 (p + 1)) 0 7 (p + 1 + 1)) (by omega) qI_eq hX2 (by rw [e3r, e3r]) (by rw [e4r, e4r]) (by rw [e8r, e8r]) (by rw [e9r, e9r]) ite_le1 (Nat.le_refl _) (by
          rw [hgood2, ho1, ho2, hB]
          constructor
          · rintro ⟨⟨z1, z2, z3⟩, z4⟩; exact ⟨Or.inr z1, Or.inr z2, fun z => z3 z.2, by omega⟩
          · rintro ⟨z1, z2, z3, z4⟩
            exact ⟨⟨z1.elim (fun z => by omega) id, z2.elim (fun z => by omega) id, fun z => z3 ⟨by omega, z⟩⟩, by omega⟩) (by unfold setP; rw [ho1, ho2, if_neg (by omega), if_neg (by omega), Nat.zero_or]) (fun z1 z2 => by
          have z3 := hgood2.mp z1
          refine ⟨Nat.or_lt_two_pow (by rw [Nat.zero_or, Nat.one_shiftLeft]; exact Nat.pow_lt_pow_right (by decide) z3.1) (by rw [Nat.one_shiftLeft]; exact Nat.pow_lt_pow_right (by decide) z3.2.1), ?_⟩
          rw [Nat.zero_or]
          exact Nat.le_trans (two_ones (by omega) (by omega)) z2) (by omega)
      have L2 := out _ _ 2 _ _ qI_eq hX2 (Or.inr rfl) (Nat.le_refl _) (by omega) T2
      have L1 := step _ _ 1 (p + 1) _ qI_eq hX1 d2 (by decide) (by omega) ite_le1 (by omega) L2
      have L0 := step 0 1 0 p M h7 hX d1 (by decide) (by decide) (by decide) (by omega) L1
      refine T.iconst (pc' := 1) (v := nI 0) (q_d dX6_doesNext_0 0 rfl) rfl (by decide) ?_
      refine T.istore_n (pc' := 2) (q_d dX6_doesNext_0 1 rfl) rfl rfl (by decide) rfl rfl ?_
      refine T.iconst (pc' := 3) (v := nI 1) (q_d dX6_doesNext_0 2 rfl) rfl (by decide) ?_
      refine T.istore_n (pc' := 4) (q_d dX6_doesNext_0 3 rfl) rfl rfl (by decide) rfl rfl ?_
      refine T.iconst (pc' := 5) (v := nI 0) (q_d dX6_doesNext_0 4 rfl) rfl (by decide) ?_
      refine T.istore_n (pc' := 6) (q_d dX6_doesNext_0 5 rfl) rfl rfl (by decide) rfl rfl ?_
      exact L0
    · have d2' : dg n t (p + 1) = false := by simpa using d2
      have ho2 : othV n t p = 4294967295 := by unfold othV; rw [hA, if_neg d2]
      have hB : pB n t p = p + 1 := by unfold pB; rw [hA, if_neg d2]
      have m1l : (0 ||| 1 <<< (t p - 48)) < 2 ^ 10 := by rw [Nat.zero_or, Nat.one_shiftLeft]; exact Nat.pow_lt_pow_right (by decide) (by omega)
      have hgood1 : ((if 1 = 1 ∧ t p - 48 < s 0 ∧ 0 >>> (t p - 48) &&& 1 = 0 then 1 else 0) = 1) ↔ t p - 48 < s 0 := by
        rw [hz]
        by_cases a : t p - 48 < s 0 <;> simp [a]
      have T1 := tail (0 ||| 1 <<< (t p - 48)) _ 1 (p + 1) (qI M 0 7 (p + 1)) (by omega) qI_eq hX1 (e3r _ _) (e4r _ _) (e8r _ _) (e9r _ _) ite_le1 (by decide) (by
          rw [hgood1, ho1, ho2, hB]
          constructor
          · rintro ⟨z1, z4⟩; exact ⟨Or.inr z1, Or.inl rfl, fun z => by omega, by omega⟩
          · rintro ⟨z1, z2, z3, z4⟩
            exact ⟨z1.elim (fun z => by omega) id, by omega⟩) (by unfold setP; rw [ho1, ho2, if_neg (by omega), if_pos rfl, Nat.zero_or, Nat.or_zero]) (fun z1 z2 => by
          have z3 := hgood1.mp z1
          refine ⟨by rw [Nat.zero_or, Nat.one_shiftLeft]; exact Nat.pow_lt_pow_right (by decide) z3, ?_⟩
          rw [Nat.zero_or]
          exact Nat.le_trans (one_ones (by omega)) z2) (by omega)
      have L1 := out _ _ 1 _ _ qI_eq hX1 (Or.inl d2') (by decide) (by omega) T1
      have L0 := step 0 1 0 p M h7 hX d1 (by decide) (by decide) (by decide) (by omega) L1
      refine T.iconst (pc' := 1) (v := nI 0) (q_d dX6_doesNext_0 0 rfl) rfl (by decide) ?_
      refine T.istore_n (pc' := 2) (q_d dX6_doesNext_0 1 rfl) rfl rfl (by decide) rfl rfl ?_
      refine T.iconst (pc' := 3) (v := nI 1) (q_d dX6_doesNext_0 2 rfl) rfl (by decide) ?_
      refine T.istore_n (pc' := 4) (q_d dX6_doesNext_0 3 rfl) rfl rfl (by decide) rfl rfl ?_
      refine T.iconst (pc' := 5) (v := nI 0) (q_d dX6_doesNext_0 4 rfl) rfl (by decide) ?_
      refine T.istore_n (pc' := 6) (q_d dX6_doesNext_0 5 rfl) rfl rfl (by decide) rfl rfl ?_
      exact L0
  · have d1' : dg n t p = false := by simpa using d1
    have ho1 : oneV n t p = 4294967295 := if_neg d1
    have hA : pA n t p = p := if_neg d1
    have ho2 : othV n t p = 4294967295 := by unfold othV; rw [hA, if_neg d1]
    have hB : pB n t p = p := by unfold pB; rw [hA, if_neg d1]
    have T0 := tail 0 1 0 p M hB.symm h7 hX rfl rfl rfl rfl (by decide) (by decide) (by
        rw [ho1, ho2, hB]
        exact ⟨fun _ => ⟨Or.inl rfl, Or.inl rfl, fun z => by omega, by omega⟩, fun _ => ⟨rfl, Nat.zero_le _⟩⟩) (by unfold setP; rw [ho1, ho2, if_pos rfl]; rfl) (fun _ _ => ⟨Nat.two_pow_pos _, Nat.le_trans (show ones 0 ≤ 0 by decide) (Nat.zero_le _)⟩) (by decide)
    have L0 := out _ _ 0 _ _ h7 hX (Or.inl d1') (by decide) (by omega) T0
    refine T.iconst (pc' := 1) (v := nI 0) (q_d dX6_doesNext_0 0 rfl) rfl (by decide) ?_
    refine T.istore_n (pc' := 2) (q_d dX6_doesNext_0 1 rfl) rfl rfl (by decide) rfl rfl ?_
    refine T.iconst (pc' := 3) (v := nI 1) (q_d dX6_doesNext_0 2 rfl) rfl (by decide) ?_
    refine T.istore_n (pc' := 4) (q_d dX6_doesNext_0 3 rfl) rfl rfl (by decide) rfl rfl ?_
    refine T.iconst (pc' := 5) (v := nI 0) (q_d dX6_doesNext_0 4 rfl) rfl (by decide) ?_
    refine T.istore_n (pc' := 6) (q_d dX6_doesNext_0 5 rfl) rfl rfl (by decide) rfl rfl ?_
    exact L0
end CMA
