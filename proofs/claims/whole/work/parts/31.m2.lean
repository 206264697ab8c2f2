/-! the reference: what is done -/
def OM (b : Nat) (r : Nat × St) : Option Value → qM → Prop := fun v M' => v = some (.int (nI r.1)) ∧ RM M' b r.2.1 r.2.2.1 r.2.2.2.1 r.2.2.2.2.1 r.2.2.2.2.2
def chk (s : Nat → Nat) (u v : Nat) : Nat × (Nat → Nat) := if u < 2 ^ s 0 ∧ v ≤ 3 ∧ ones u ≤ s 6 then (if canR s u v then (ones (thn s (s 1) u v), sRound s u v) else (4293967294, s)) else (4293967295, s)
theorem le_big {x y : Nat} (hx : x < 2 ^ 31) (hy : y < 4294967296) (hy2 : 2147483648 ≤ y) : ¬ nI x ≤ nI y := by
  rw [Int32.le_iff_toInt_le, nN_sI (by omega), nN_sI hy]; unfold sI; rw [if_pos (by omega), if_neg (by omega)]; omega
section CM2
variable {l : Launch} {M M' : qM} {b b' : Nat} {s s' : Nat → Nat} {k : Nat} {was : Nat → Nat → Nat} {n : Nat} {t : Nat → Nat}
theorem m_acted {so : Nat → Nat} (hP : M.2.2 = pM) (h4 : M.1 0 4 = k) (hk : k ≤ 4) (hw : ∀ i, i < k → ∀ j, j < 52 → M.1 2 (52 * i + j) = was i j) (h3' : ∀ j, j < 52 → M.1 3 j = so j) {x : Nat} (hx : x < 2 ^ 31) :
    Ct l hdM kM mX6_acted [.ref 0, .int (nI x)] M (fun v M' => v = some (.int (nI x)) ∧ M'.2 = M.2 ∧ (∀ a, a ≠ 0 → a ≠ 2 → M'.1 a = M.1 a) ∧ (∀ j, j ≠ 4 → M'.1 0 j = M.1 0 j) ∧ M'.1 0 4 = pushK k ∧ ∀ i, i < pushK k → ∀ j, j < 52 → M'.1 2 (52 * i + j) = pushW k was so i j) := by
  refine Ct.of [some (.ref 0), some (.int (nI x)), none] (by decide +kernel) (fun h => absurd h (by decide)) (Nat.le_of_ble_eq_true rfl) rfl ?_
  have loopB : ∀ (M1 : qM) k1, k1 ≤ 3 → M1.2.2 = pM → M1.1 0 4 = k1 → (∀ j, j < 52 → M1.1 3 j = so j) → ∀ {Q : Option Value → qM → Prop}, (∀ M', M'.2 = M1.2 → (∀ a, a ≠ 0 → a ≠ 2 → M'.1 a = M1.1 a) → (∀ j, j ≠ 4 → M'.1 0 j = M1.1 0 j) → M'.1 0 4 = k1 + 1 → (∀ y, M'.1 2 y = if 52 * k1 ≤ y ∧ y < 52 * k1 + 52 then so (y - 52 * k1) else M1.1 2 y) → Q (some (.int (nI x))) M') →
      T l hdM kM mX6_acted Q 0 0 54 [some (.ref 0), some (.int (nI x)), none] [] M1 := by
    intro M1 k1 hk1 hP1 h41 h31 Q fin
    have loop : ∀ d i (M' : qM), i + d = 52 → M'.2 = M1.2 → (∀ a, a ≠ 2 → M'.1 a = M1.1 a) → (∀ y, M'.1 2 y = if 52 * k1 ≤ y ∧ y < 52 * k1 + i then so (y - 52 * k1) else M1.1 2 y) →
        T l hdM kM mX6_acted Q 0 0 56 [some (.ref 0), some (.int (nI x)), some (.int (nI i))] [] M' := by
      intro d
      induction d with
      | zero =>
        intro i M' hi h2 ha hy
        have ei : i = 52 := by omega
        subst ei
        have h49 : M'.1 0 4 = k1 := by rw [ha 0 (by decide)]; exact h41
        refine T.iload_n (pc' := 57) (q_d dX6_acted_0 32 rfl) rfl rfl rfl ?_
        refine T.bipush (pc' := 59) (v := nI 52) (q_d dX6_acted_0 33 rfl) rfl (by decide) ?_
        refine T.icmp_geN (tgt := 88) (pc' := 62) (q_d dX6_acted_0 34 rfl) rfl (by decide) (by omega) (by omega) (fun h59 => ?_) (fun h59 => ?_)
        · refine T.aload_n (pc' := 89) (q_d dX6_acted_1 10 rfl) rfl rfl rfl ?_
          refine T.dup (pc' := 90) (q_d dX6_acted_1 11 rfl) rfl rfl ?_
          refine T.getI (pc' := 93) (ci := 6) (k0 := 4) (q_d dX6_acted_1 12 rfl) rfl rfl (by decide) rfl inX6 (by decide) rfl wF_X6_48 h49 ?_
          refine T.iconst (pc' := 94) (v := nI 1) (q_d dX6_acted_1 13 rfl) rfl (by decide) ?_
          refine T.iadd (pc' := 95) (q_d dX6_acted_1 14 rfl) rfl (nI_add _ _) ?_
          refine T.putI (pc' := 98) (ci := 6) (k0 := 4) (q_d dX6_acted_1 15 rfl) rfl rfl (by decide) rfl inX6 tyX6 tyX6_ok nmX6 (by decide) rfl wF_X6_48 rfl rfl rfl ?_
          refine T.iload_n (pc' := 99) (q_d dX6_acted_1 16 rfl) rfl rfl rfl ?_
          refine T.iret (q_d dX6_acted_1 17 rfl) rfl rfl rfl ?_
          refine fin _ h2 (fun a a1 a2 => ?_) (fun j hj => ?_) qI_eq (fun y => ?_)
          · funext z; rw [qI_ne (Or.inl a1), ha a a2]
          · rw [qI_ne (Or.inr hj), ha 0 (by decide)]
          · rw [qI_ne (Or.inl (by decide))]; exact hy y
        · exact absurd h59 (by omega)
      | succ d ih =>
        intro i M' hi h2 ha hy
        have h49 : M'.1 0 4 = k1 := by rw [ha 0 (by decide)]; exact h41
        have hb9 : M'.1 3 i = so i := by rw [ha 3 (by decide)]; exact h31 i (by omega)
        refine T.iload_n (pc' := 57) (q_d dX6_acted_0 32 rfl) rfl rfl rfl ?_
        refine T.bipush (pc' := 59) (v := nI 52) (q_d dX6_acted_0 33 rfl) rfl (by decide) ?_
        refine T.icmp_geN (tgt := 88) (pc' := 62) (q_d dX6_acted_0 34 rfl) rfl (by decide) (by omega) (by omega) (fun h59 => ?_) (fun h59 => ?_)
        · exact absurd h59 (by omega)
        · refine T.aload_n (pc' := 63) (q_d dX6_acted_0 35 rfl) rfl rfl rfl ?_
          refine T.getR (pc' := 66) (ci := 6) (k0 := 1) (q_d dX6_acted_0 36 rfl) rfl rfl (by decide) rfl inX6 (by decide) rfl wF_X6_13 (rP (show M'.2.2 = pM by rw [h2]; exact hP1) rfl) ?_
          refine T.bipush (pc' := 68) (v := nI 52) (q_d dX6_acted_0 37 rfl) rfl (by decide) ?_
          refine T.aload_n (pc' := 69) (q_d dX6_acted_0 38 rfl) rfl rfl rfl ?_
          refine T.getI (pc' := 72) (ci := 6) (k0 := 4) (q_d dX6_acted_0 39 rfl) rfl rfl (by decide) rfl inX6 (by decide) rfl wF_X6_48 h49 ?_
          refine T.imul (pc' := 73) (q_d dX6_acted_1 0 rfl) rfl (pk_mul _ _) ?_
          refine T.iload_n (pc' := 74) (q_d dX6_acted_1 1 rfl) rfl rfl rfl ?_
          refine T.iadd (pc' := 75) (q_d dX6_acted_1 2 rfl) rfl (nI_add _ _) ?_
          refine T.aload_n (pc' := 76) (q_d dX6_acted_1 3 rfl) rfl rfl rfl ?_
          refine T.getR (pc' := 79) (ci := 6) (k0 := 2) (q_d dX6_acted_1 4 rfl) rfl rfl (by decide) rfl inX6 (by decide) rfl wF_X6_16 (rP (show M'.2.2 = pM by rw [h2]; exact hP1) rfl) ?_
          refine T.iload_n (pc' := 80) (q_d dX6_acted_1 5 rfl) rfl rfl rfl ?_
          refine T.iald (pc' := 81) (q_d dX6_acted_1 6 rfl) rfl rfl (by decide) rfl (by omega) (by decide) hb9 ?_
          refine T.iast (pc' := 82) (q_d dX6_acted_1 7 rfl) rfl rfl (by decide) rfl (by omega) (by decide) ?_
          refine T.iinc (pc' := 85) (q_d dX6_acted_1 8 rfl) rfl rfl (nN_p _ 1) (by decide) rfl rfl ?_
          refine T.goto (tgt := 56) (q_d dX6_acted_1 9 rfl) (by decide) ?_
          refine ih (i + 1) _ (by omega) h2 (fun a h9 => ?_) (fun y => ?_)
          · funext z; rw [qI_ne (Or.inl h9), ha a h9]
          · by_cases e : y = 52 * k1 + i
            · subst e
              rw [qI_eq, if_pos (by omega), show 52 * k1 + i - 52 * k1 = i by omega]
            · rw [qI_ne (Or.inr e), hy y]
              by_cases e2 : 52 * k1 ≤ y ∧ y < 52 * k1 + i
              · rw [if_pos e2, if_pos (by omega)]
              · rw [if_neg e2, if_neg (by omega)]
    refine T.iconst (pc' := 55) (v := nI 0) (q_d dX6_acted_0 30 rfl) rfl (by decide) ?_
    refine T.istore_n (pc' := 56) (q_d dX6_acted_0 31 rfl) rfl rfl (by decide) rfl rfl ?_
    exact loop 52 0 M1 (by omega) rfl (fun _ _ => rfl) (fun y => by rw [if_neg (by omega)])
  by_cases hk4 : k = 4
  · have loopA : ∀ d i (M' : qM), i + d = 156 → M'.2 = M.2 → (∀ a, a ≠ 2 → M'.1 a = M.1 a) → (∀ y, M'.1 2 y = if y < i then M.1 2 (y + 52) else M.1 2 y) →
        T l hdM kM mX6_acted (fun v M' => v = some (.int (nI x)) ∧ M'.2 = M.2 ∧ (∀ a, a ≠ 0 → a ≠ 2 → M'.1 a = M.1 a) ∧ (∀ j, j ≠ 4 → M'.1 0 j = M.1 0 j) ∧ M'.1 0 4 = pushK k ∧ ∀ i, i < pushK k → ∀ j, j < 52 → M'.1 2 (52 * i + j) = pushW k was so i j) 0 0 16 [some (.ref 0), some (.int (nI x)), some (.int (nI i))] [] M' := by
      intro d
      induction d with
      | zero =>
        intro i M' hi h2 ha hy
        have ei : i = 156 := by omega
        subst ei
        have h49 : M'.1 0 4 = 4 := by rw [ha 0 (by decide), h4, hk4]
        refine T.iload_n (pc' := 17) (q_d dX6_acted_0 9 rfl) rfl rfl rfl ?_
        refine T.sipush (pc' := 20) (v := nI 156) (q_d dX6_acted_0 10 rfl) rfl (by decide) ?_
        refine T.icmp_geN (tgt := 44) (pc' := 23) (q_d dX6_acted_0 11 rfl) rfl (by decide) (by omega) (by omega) (fun h20 => ?_) (fun h20 => ?_)
        · refine T.aload_n (pc' := 45) (q_d dX6_acted_0 24 rfl) rfl rfl rfl ?_
          refine T.dup (pc' := 46) (q_d dX6_acted_0 25 rfl) rfl rfl ?_
          refine T.getI (pc' := 49) (ci := 6) (k0 := 4) (q_d dX6_acted_0 26 rfl) rfl rfl (by decide) rfl inX6 (by decide) rfl wF_X6_48 h49 ?_
          refine T.iconst (pc' := 50) (v := nI 1) (q_d dX6_acted_0 27 rfl) rfl (by decide) ?_
          refine T.isub (pc' := 51) (q_d dX6_acted_0 28 rfl) rfl (nN_sub (by omega)) ?_
          refine T.putI (pc' := 54) (ci := 6) (k0 := 4) (q_d dX6_acted_0 29 rfl) rfl rfl (by decide) rfl inX6 tyX6 tyX6_ok nmX6 (by decide) rfl wF_X6_48 rfl rfl rfl ?_
          refine T.drop (loc' := [some (.ref 0), some (.int (nI x)), none]) ⟨rfl, rfl, trivial⟩ ?_
          refine loopB _ 3 (by decide) (by show M'.2.2 = _; rw [h2]; exact hP) qI_eq (fun j hj => by rw [qI_ne (Or.inl (by decide)), ha 3 (by decide)]; exact h3' j hj) (fun M2 g2 ga g0 g4 gy => ?_)
          refine ⟨rfl, g2.trans h2, fun a a1 a2 => ?_, fun j hj => ?_, ?_, fun i hi j hj => ?_⟩
          · rw [ga a a1 a2]; funext z; rw [qI_ne (Or.inl a1), ha a a2]
          · rw [g0 j hj, qI_ne (Or.inr hj), ha 0 (by decide)]
          · rw [g4]; unfold pushK; rw [if_pos hk4]
          · unfold pushK at hi
            rw [if_pos hk4] at hi
            unfold pushW
            rw [if_pos hk4, gy]
            by_cases e : i < 3
            · rw [if_neg (by omega), qI_ne (Or.inl (by decide)), hy, if_pos (by omega), show 52 * i + j + 52 = 52 * (i + 1) + j by omega, hw (i + 1) (by omega) j hj]
              show _ = (if i < 3 then was (i + 1) else so) j
              rw [if_pos e]
            · rw [if_pos (by omega), show 52 * i + j - 52 * 3 = j by omega]
              show _ = (if i < 3 then was (i + 1) else so) j
              rw [if_neg e]
        · exact absurd h20 (by omega)
      | succ d ih =>
        intro i M' hi h2 ha hy
        have hv : M'.1 2 (i + 52) = M.1 2 (i + 52) := by rw [hy, if_neg (by omega)]
        refine T.iload_n (pc' := 17) (q_d dX6_acted_0 9 rfl) rfl rfl rfl ?_
        refine T.sipush (pc' := 20) (v := nI 156) (q_d dX6_acted_0 10 rfl) rfl (by decide) ?_
        refine T.icmp_geN (tgt := 44) (pc' := 23) (q_d dX6_acted_0 11 rfl) rfl (by decide) (by omega) (by omega) (fun h20 => ?_) (fun h20 => ?_)
        · exact absurd h20 (by omega)
        · refine T.aload_n (pc' := 24) (q_d dX6_acted_0 12 rfl) rfl rfl rfl ?_
          refine T.getR (pc' := 27) (ci := 6) (k0 := 1) (q_d dX6_acted_0 13 rfl) rfl rfl (by decide) rfl inX6 (by decide) rfl wF_X6_13 (rP (show M'.2.2 = pM by rw [h2]; exact hP) rfl) ?_
          refine T.iload_n (pc' := 28) (q_d dX6_acted_0 14 rfl) rfl rfl rfl ?_
          refine T.aload_n (pc' := 29) (q_d dX6_acted_0 15 rfl) rfl rfl rfl ?_
          refine T.getR (pc' := 32) (ci := 6) (k0 := 1) (q_d dX6_acted_0 16 rfl) rfl rfl (by decide) rfl inX6 (by decide) rfl wF_X6_13 (rP (show M'.2.2 = pM by rw [h2]; exact hP) rfl) ?_
          refine T.iload_n (pc' := 33) (q_d dX6_acted_0 17 rfl) rfl rfl rfl ?_
          refine T.bipush (pc' := 35) (v := nI 52) (q_d dX6_acted_0 18 rfl) rfl (by decide) ?_
          refine T.iadd (pc' := 36) (q_d dX6_acted_0 19 rfl) rfl (nI_add _ _) ?_
          refine T.iald (pc' := 37) (q_d dX6_acted_0 20 rfl) rfl rfl (by decide) rfl (by omega) (by decide) hv ?_
          refine T.iast (pc' := 38) (q_d dX6_acted_0 21 rfl) rfl rfl (by decide) rfl (by omega) (by decide) ?_
          refine T.iinc (pc' := 41) (q_d dX6_acted_0 22 rfl) rfl rfl (nN_p _ 1) (by decide) rfl rfl ?_
          refine T.goto (tgt := 16) (q_d dX6_acted_0 23 rfl) (by decide) ?_
          refine ih (i + 1) _ (by omega) h2 (fun a h9 => ?_) (fun y => ?_)
          · funext z; rw [qI_ne (Or.inl h9), ha a h9]
          · by_cases e : y = i
            · subst e; rw [qI_eq, if_pos (by omega)]
            · rw [qI_ne (Or.inr e), hy y]
              by_cases e2 : y < i
              · rw [if_pos e2, if_pos (by omega)]
              · rw [if_neg e2, if_neg (by omega)]
    refine T.iload_n (pc' := 1) (q_d dX6_acted_0 0 rfl) rfl rfl rfl ?_
    refine T.ldc (pc' := 3) (v := nI 4293967295) (q_d dX6_acted_0 1 rfl) rfl wN_X6_47 ?_
    refine T.icmp_le (tgt := 98) (pc' := 6) (q_d dX6_acted_0 2 rfl) rfl (by decide)  (fun h3 => ?_) (fun h3 => ?_)
    · exact absurd h3 (le_big hx (by decide) (by decide))
    · refine T.aload_n (pc' := 7) (q_d dX6_acted_0 3 rfl) rfl rfl rfl ?_
      refine T.getI (pc' := 10) (ci := 6) (k0 := 4) (q_d dX6_acted_0 4 rfl) rfl rfl (by decide) rfl inX6 (by decide) rfl wF_X6_48 h4 ?_
      refine T.iconst (pc' := 11) (v := nI 4) (q_d dX6_acted_0 5 rfl) rfl (by decide) ?_
      refine T.icmp_neN (tgt := 54) (pc' := 14) (q_d dX6_acted_0 6 rfl) rfl (by decide) (by omega) (by omega) (fun h11 => ?_) (fun h11 => ?_)
      · exact absurd hk4 h11
      · refine T.iconst (pc' := 15) (v := nI 0) (q_d dX6_acted_0 7 rfl) rfl (by decide) ?_
        refine T.istore_n (pc' := 16) (q_d dX6_acted_0 8 rfl) rfl rfl (by decide) rfl rfl ?_
        exact loopA 156 0 M (by omega) rfl (fun _ _ => rfl) (fun y => by rw [if_neg (by omega)])
  · refine T.iload_n (pc' := 1) (q_d dX6_acted_0 0 rfl) rfl rfl rfl ?_
    refine T.ldc (pc' := 3) (v := nI 4293967295) (q_d dX6_acted_0 1 rfl) rfl wN_X6_47 ?_
    refine T.icmp_le (tgt := 98) (pc' := 6) (q_d dX6_acted_0 2 rfl) rfl (by decide)  (fun h3 => ?_) (fun h3 => ?_)
    · exact absurd h3 (le_big hx (by decide) (by decide))
    · refine T.aload_n (pc' := 7) (q_d dX6_acted_0 3 rfl) rfl rfl rfl ?_
      refine T.getI (pc' := 10) (ci := 6) (k0 := 4) (q_d dX6_acted_0 4 rfl) rfl rfl (by decide) rfl inX6 (by decide) rfl wF_X6_48 h4 ?_
      refine T.iconst (pc' := 11) (v := nI 4) (q_d dX6_acted_0 5 rfl) rfl (by decide) ?_
      refine T.icmp_neN (tgt := 54) (pc' := 14) (q_d dX6_acted_0 6 rfl) rfl (by decide) (by omega) (by omega) (fun h11 => ?_) (fun h11 => ?_)
      · refine loopB M k (by omega) hP h4 h3' (fun M2 g2 ga g0 g4 gy => ?_)
        refine ⟨rfl, g2, ga, g0, ?_, fun i hi j hj => ?_⟩
        · rw [g4]; unfold pushK; rw [if_neg hk4]
        · unfold pushK at hi
          rw [if_neg hk4] at hi
          unfold pushW
          rw [if_neg hk4, gy]
          by_cases e : i = k
          · subst e
            rw [if_pos (by omega), show 52 * i + j - 52 * i = j by omega]
            show _ = (if i = i then so else was i) j
            rw [if_pos rfl]
          · rw [if_neg (by omega), hw i (by omega) j hj]
            show _ = (if i = k then so else was i) j
            rw [if_neg e]
      · exact absurd h11 hk4
theorem m_acted0 {x : Nat} (hx : x = 4293967295 ∨ x = 4293967294) : Ct l hdM kM mX6_acted [.ref 0, .int (nI x)] M (RI M x) := by
  refine Ct.of [some (.ref 0), some (.int (nI x)), none] (by decide +kernel) (fun h => absurd h (by decide)) (Nat.le_of_ble_eq_true rfl) rfl ?_
  have hle : nI x ≤ nI 4293967295 := by rcases hx with rfl | rfl <;> decide
  refine T.iload_n (pc' := 1) (q_d dX6_acted_0 0 rfl) rfl rfl rfl ?_
  refine T.ldc (pc' := 3) (v := nI 4293967295) (q_d dX6_acted_0 1 rfl) rfl wN_X6_47 ?_
  refine T.icmp_le (tgt := 98) (pc' := 6) (q_d dX6_acted_0 2 rfl) rfl (by decide)  (fun h3 => ?_) (fun h3 => ?_)
  · refine T.iload_n (pc' := 99) (q_d dX6_acted_1 16 rfl) rfl rfl rfl ?_
    refine T.iret (q_d dX6_acted_1 17 rfl) rfl rfl rfl ?_
    exact ⟨rfl, rfl⟩
  · exact absurd hle h3
/-- acted, after keeps and the change -/
theorem m_actedR {M2 : qM} (hX : RM M b s k was n t) (hP : M2.2.2 = pM) (e2 : M2.1 2 = M.1 2) (e5 : M2.1 5 = M.1 5) (e4 : M2.1 0 4 = M.1 0 4) (e6 : M2.1 0 6 = M.1 0 6) (h3 : ∀ j, j < 52 → M2.1 3 j = s j) (h1 : ∀ j, j < 52 → M2.1 1 j = s' j) (hw : WF b' s') (hb : b ≤ b') {x : Nat} (hx : x < 2 ^ 31) :
    Ct l hdM kM mX6_acted [.ref 0, .int (nI x)] M2 (OM b' (x, act s k was n t s')) := by
  obtain ⟨q1, q2, q3, q4, q5, q6, q7, q8, q9⟩ := hX
  refine (m_acted (was := was) (so := s) hP (e4.trans q4) q5 (fun i hi j hj => by rw [e2]; exact (q6 i hi).1 j hj) h3 hx).mono ?_
  rintro _ M' ⟨rfl, f2, fa, f0, f4, fw⟩
  refine ⟨rfl, by rw [f2]; exact hP, fun j hj => by rw [fa 1 (by decide) (by decide)]; exact h1 j hj, hw, f4, ?_, fun i hi => ⟨fw i hi, ?_⟩, (f0 6 (by decide)).trans (e6.trans q7), fun i hi => by rw [fa 5 (by decide) (by decide), e5]; exact q8 i hi, q9⟩
  · show pushK k ≤ 4
    unfold pushK; split <;> omega
  · show WF b' (pushW k was s i)
    have hi' : i < pushK k := hi
    unfold pushW
    unfold pushK at hi'
    split
    · next h => 
      rw [if_pos h] at hi'
      show WF b' (if i < 3 then was (i + 1) else s)
      split
      · exact (q6 (i + 1) (by omega)).2.mono hb
      · exact q3.mono hb
    · next h =>
      rw [if_neg h] at hi'
      show WF b' (if i = k then s else was i)
      split
      · exact q3.mono hb
      · exact (q6 i (by omega)).2.mono hb
theorem m_place (hX : RM M b s k was n t) {u : Nat} (hu : u < 4294967296) : Ct l hdM kM mX6_place [.ref 0, .int (nI u)] M (OM b (oPlace s k was n t u)) := by
  refine Ct.of [some (.ref 0), some (.int (nI u)), none] (by decide +kernel) (fun h => absurd h (by decide)) (Nat.le_of_ble_eq_true rfl) rfl ?_
  have e := inS_iff (lo := 0) (hi := 3) hu (by decide) (by decide)
  have w7 := hX.2.2.1.1
  by_cases a1 : u ≤ 3
  · have e1 : inS u 0 3 = true := e.mpr ⟨Nat.zero_le _, a1⟩
    by_cases a2 : s 0 < 7
    · have er : oPlace s k was n t u = (s 0, act s k was n t (sPlace s u)) := by unfold oPlace; rw [if_pos a1, if_pos a2]
      have hz := hX.2.2.1.2.2.2.2.2.2.2.2.2.1 (s 0) (Nat.le_refl _) a2
      refine T.iload_n (pc' := 1) (q_d dX6_place_0 0 rfl) rfl rfl rfl ?_
      refine T.iconst (pc' := 2) (v := nI 0) (q_d dX6_place_0 1 rfl) rfl (by decide) ?_
      refine T.iconst (pc' := 3) (v := nI 3) (q_d dX6_place_0 2 rfl) rfl (by decide) ?_
      refine T.callS (pc' := 6) (q_d dX6_place_0 3 rfl) rfl uX6_in wM_X6_43 (m_in hu (by decide) (hi := 3) (by decide)) rfl rfl (by decide) (Nat.le_of_ble_eq_true rfl) rfl rfl (fun _ => rfl) ?_
      rintro _ _ ⟨rfl, rfl⟩
      dsimp only [Option.toList, List.cons_append, List.nil_append, List.append_nil]
      refine T.if_neN (tgt := 12) (pc' := 9) (q_d dX6_place_0 4 rfl) rfl (by decide) (by split <;> decide) (fun h6 => ?_) (fun h6 => ?_)
      · refine T.aload_n (pc' := 13) (q_d dX6_place_0 7 rfl) rfl rfl rfl ?_
        refine T.getR (pc' := 16) (ci := 6) (k0 := 0) (q_d dX6_place_0 8 rfl) rfl rfl (by decide) rfl inX6 (by decide) rfl wF_X6_7 (rP (P := pM) (by first | exact hP2 | exact hX.1) rfl) ?_
        refine T.iconst (pc' := 17) (v := nI 0) (q_d dX6_place_0 9 rfl) rfl (by decide) ?_
        refine T.iald (pc' := 18) (q_d dX6_place_0 10 rfl) rfl rfl (by decide) rfl (by omega) (by decide) (hX.2.1 0 (by decide)) ?_
        refine T.bipush (pc' := 20) (v := nI 7) (q_d dX6_place_0 11 rfl) rfl (by decide) ?_
        refine T.icmp_neN (tgt := 26) (pc' := 23) (q_d dX6_place_0 12 rfl) rfl (by decide) (by omega) (by omega) (fun h20 => ?_) (fun h20 => ?_)
        · refine T.aload_n (pc' := 27) (q_d dX6_place_0 15 rfl) rfl rfl rfl ?_
          refine T.callV (pc' := 30) (ci := 6) (q_d dX6_place_0 16 rfl) rfl uX6_keeps wM_X6_53 (m_keeps hX.1) rfl rfl (by decide) rfl rfl (by decide) (Nat.le_of_ble_eq_true rfl) rfl rfl (fun _ => rfl) ?_
          rintro _ M2 ⟨rfl, f2, fa, f3⟩
          have hP2 : M2.2.2 = pM := by rw [f2]; exact hX.1
          have hs2 : ∀ j, j < 52 → M2.1 1 j = s j := fun j hj => by rw [fa 1 (by decide)]; exact hX.2.1 j hj
          dsimp only [Option.toList, List.cons_append, List.nil_append, List.append_nil]
          refine T.aload_n (pc' := 31) (q_d dX6_place_0 17 rfl) rfl rfl rfl ?_
          refine T.getR (pc' := 34) (ci := 6) (k0 := 0) (q_d dX6_place_0 18 rfl) rfl rfl (by decide) rfl inX6 (by decide) rfl wF_X6_7 (rP (P := pM) (by first | exact hP2 | exact hX.1) rfl) ?_
          refine T.iconst (pc' := 35) (v := nI 0) (q_d dX6_place_0 19 rfl) rfl (by decide) ?_
          refine T.iald (pc' := 36) (q_d dX6_place_0 20 rfl) rfl rfl (by decide) rfl (by omega) (by decide) (hs2 0 (by decide)) ?_
          refine T.istore_n (pc' := 37) (q_d dX6_place_0 21 rfl) rfl rfl (by decide) rfl rfl ?_
          refine T.aload_n (pc' := 38) (q_d dX6_place_0 22 rfl) rfl rfl rfl ?_
          refine T.getR (pc' := 41) (ci := 6) (k0 := 0) (q_d dX6_place_0 23 rfl) rfl rfl (by decide) rfl inX6 (by decide) rfl wF_X6_7 (rP (P := pM) (by first | exact hP2 | exact hX.1) rfl) ?_
          refine T.bipush (pc' := 43) (v := nI 7) (q_d dX6_place_0 24 rfl) rfl (by decide) ?_
          refine T.iload_n (pc' := 44) (q_d dX6_place_0 25 rfl) rfl rfl rfl ?_
          refine T.iadd (pc' := 45) (q_d dX6_place_0 26 rfl) rfl (nI_add _ _) ?_
          refine T.iload_n (pc' := 46) (q_d dX6_place_0 27 rfl) rfl rfl rfl ?_
          refine T.iast (pc' := 47) (q_d dX6_place_0 28 rfl) rfl rfl (by decide) rfl (by omega) (by decide) ?_
          refine T.aload_n (pc' := 48) (q_d dX6_place_0 29 rfl) rfl rfl rfl ?_
          refine T.getR (pc' := 51) (ci := 6) (k0 := 0) (q_d dX6_place_0 30 rfl) rfl rfl (by decide) rfl inX6 (by decide) rfl wF_X6_7 (rP (P := pM) (by first | exact hP2 | exact hX.1) rfl) ?_
          refine T.bipush (pc' := 53) (v := nI 14) (q_d dX6_place_0 31 rfl) rfl (by decide) ?_
          refine T.iload_n (pc' := 54) (q_d dX6_place_0 32 rfl) rfl rfl rfl ?_
          refine T.iadd (pc' := 55) (q_d dX6_place_0 33 rfl) rfl (nI_add _ _) ?_
          refine T.iconst (pc' := 56) (v := nI 0) (q_d dX6_place_0 34 rfl) rfl (by decide) ?_
          refine T.iast (pc' := 57) (q_d dX6_place_0 35 rfl) rfl rfl (by decide) rfl (by omega) (by decide) ?_
          refine T.aload_n (pc' := 58) (q_d dX6_place_0 36 rfl) rfl rfl rfl ?_
          refine T.getR (pc' := 61) (ci := 6) (k0 := 0) (q_d dX6_place_0 37 rfl) rfl rfl (by decide) rfl inX6 (by decide) rfl wF_X6_7 (rP (P := pM) (by first | exact hP2 | exact hX.1) rfl) ?_
          refine T.bipush (pc' := 63) (v := nI 21) (q_d dX6_place_0 38 rfl) rfl (by decide) ?_
          refine T.iload_n (pc' := 64) (q_d dX6_place_0 39 rfl) rfl rfl rfl ?_
          refine T.iadd (pc' := 65) (q_d dX6_place_1 0 rfl) rfl (nI_add _ _) ?_
          refine T.iconst (pc' := 66) (v := nI 0) (q_d dX6_place_1 1 rfl) rfl (by decide) ?_
          refine T.iast (pc' := 67) (q_d dX6_place_1 2 rfl) rfl rfl (by decide) rfl (by omega) (by decide) ?_
          refine T.aload_n (pc' := 68) (q_d dX6_place_1 3 rfl) rfl rfl rfl ?_
          refine T.getR (pc' := 71) (ci := 6) (k0 := 0) (q_d dX6_place_1 4 rfl) rfl rfl (by decide) rfl inX6 (by decide) rfl wF_X6_7 (rP (P := pM) (by first | exact hP2 | exact hX.1) rfl) ?_
          refine T.iconst (pc' := 72) (v := nI 0) (q_d dX6_place_1 5 rfl) rfl (by decide) ?_
          refine T.dup2 (pc' := 73) (q_d dX6_place_1 6 rfl) rfl rfl rfl ?_
          refine T.iald (pc' := 74) (q_d dX6_place_1 7 rfl) rfl rfl (by decide) rfl (by omega) (by decide) ((qI_ne (Or.inr (by omega))).trans ((qI_ne (Or.inr (by omega))).trans ((qI_ne (Or.inr (by omega))).trans (hs2 0 (by decide))))) ?_
          refine T.iconst (pc' := 75) (v := nI 1) (q_d dX6_place_1 8 rfl) rfl (by decide) ?_
          refine T.iadd (pc' := 76) (q_d dX6_place_1 9 rfl) rfl (nI_add _ _) ?_
          refine T.iast (pc' := 77) (q_d dX6_place_1 10 rfl) rfl rfl (by decide) rfl (by omega) (by decide) ?_
          have hN : ∀ j, j < 52 → (qI (qI (qI (qI M2 1 (7 + s 0) u) 1 (14 + s 0) 0) 1 (21 + s 0) 0) 1 0 (s 0 + 1)).1 1 j = sPlace s u j := by
            intro j hj
            unfold sPlace
            by_cases j0 : j = 0
            · subst j0; rw [qI_eq, if_pos rfl]
            · rw [qI_ne (Or.inr j0), if_neg j0]
              by_cases j1 : j = 21 + s 0
              · subst j1; rw [qI_eq, if_neg (by omega)]; exact hz.2.symm
              · rw [qI_ne (Or.inr j1)]
                by_cases j2 : j = 14 + s 0
                · subst j2; rw [qI_eq, if_neg (by omega)]; exact hz.1.symm
                · rw [qI_ne (Or.inr j2)]
                  by_cases j3 : j = 7 + s 0
                  · subst j3; rw [qI_eq, if_pos rfl]
                  · rw [qI_ne (Or.inr j3), if_neg j3]; exact hs2 j hj
          refine T.aload_n (pc' := 78) (q_d dX6_place_1 11 rfl) rfl rfl rfl ?_
          refine T.iload_n (pc' := 79) (q_d dX6_place_1 12 rfl) rfl rfl rfl ?_
          refine T.callV (pc' := 82) (ci := 6) (q_d dX6_place_1 13 rfl) rfl uX6_acted wM_X6_56 (m_actedR (s' := sPlace s u) hX (by exact hP2) (by funext j; rw [qI_ne (Or.inl (by decide)), qI_ne (Or.inl (by decide)), qI_ne (Or.inl (by decide)), qI_ne (Or.inl (by decide)), fa 2 (by decide)]) (by funext j; rw [qI_ne (Or.inl (by decide)), qI_ne (Or.inl (by decide)), qI_ne (Or.inl (by decide)), qI_ne (Or.inl (by decide)), fa 5 (by decide)]) (by rw [qI_ne (Or.inl (by decide)), qI_ne (Or.inl (by decide)), qI_ne (Or.inl (by decide)), qI_ne (Or.inl (by decide)), fa 0 (by decide)]) (by rw [qI_ne (Or.inl (by decide)), qI_ne (Or.inl (by decide)), qI_ne (Or.inl (by decide)), qI_ne (Or.inl (by decide)), fa 0 (by decide)]) (fun j hj => by rw [qI_ne (Or.inl (by decide)), qI_ne (Or.inl (by decide)), qI_ne (Or.inl (by decide)), qI_ne (Or.inl (by decide)), f3 j hj]; exact hX.2.1 j hj) hN (hX.2.2.1.place a2 a1) (Nat.le_refl _) (show s 0 < 2 ^ 31 by omega)) rfl rfl (by decide) rfl rfl (by decide) (Nat.le_of_ble_eq_true rfl) rfl rfl (fun _ => rfl) ?_
          rintro v4 M4 hO
          dsimp only [Option.toList, List.cons_append, List.nil_append, List.append_nil]
          obtain ⟨rfl, hO⟩ := hO
          refine T.iret (q_d dX6_place_1 14 rfl) rfl rfl rfl ?_
          rw [er]
          exact ⟨rfl, hO⟩
        · exact absurd h20 (by omega)
      · exact absurd h6 (by rw [if_pos e1]; decide)
    · have er : oPlace s k was n t u = (4293967293, (s, k, was, n, t)) := by unfold oPlace; rw [if_pos a1, if_neg a2]
      refine T.iload_n (pc' := 1) (q_d dX6_place_0 0 rfl) rfl rfl rfl ?_
      refine T.iconst (pc' := 2) (v := nI 0) (q_d dX6_place_0 1 rfl) rfl (by decide) ?_
      refine T.iconst (pc' := 3) (v := nI 3) (q_d dX6_place_0 2 rfl) rfl (by decide) ?_
      refine T.callS (pc' := 6) (q_d dX6_place_0 3 rfl) rfl uX6_in wM_X6_43 (m_in hu (by decide) (hi := 3) (by decide)) rfl rfl (by decide) (Nat.le_of_ble_eq_true rfl) rfl rfl (fun _ => rfl) ?_
      rintro _ _ ⟨rfl, rfl⟩
      dsimp only [Option.toList, List.cons_append, List.nil_append, List.append_nil]
      refine T.if_neN (tgt := 12) (pc' := 9) (q_d dX6_place_0 4 rfl) rfl (by decide) (by split <;> decide) (fun h6 => ?_) (fun h6 => ?_)
      · refine T.aload_n (pc' := 13) (q_d dX6_place_0 7 rfl) rfl rfl rfl ?_
        refine T.getR (pc' := 16) (ci := 6) (k0 := 0) (q_d dX6_place_0 8 rfl) rfl rfl (by decide) rfl inX6 (by decide) rfl wF_X6_7 (rP hX.1 rfl) ?_
        refine T.iconst (pc' := 17) (v := nI 0) (q_d dX6_place_0 9 rfl) rfl (by decide) ?_
        refine T.iald (pc' := 18) (q_d dX6_place_0 10 rfl) rfl rfl (by decide) rfl (by omega) (by decide) (hX.2.1 0 (by decide)) ?_
        refine T.bipush (pc' := 20) (v := nI 7) (q_d dX6_place_0 11 rfl) rfl (by decide) ?_
        refine T.icmp_neN (tgt := 26) (pc' := 23) (q_d dX6_place_0 12 rfl) rfl (by decide) (by omega) (by omega) (fun h20 => ?_) (fun h20 => ?_)
        · exact absurd h20 (by omega)
        · refine T.ldc (pc' := 25) (v := nI 4293967293) (q_d dX6_place_0 13 rfl) rfl wN_X6_52 ?_
          refine T.iret (q_d dX6_place_0 14 rfl) rfl rfl rfl ?_
          rw [er]
          exact ⟨rfl, hX⟩
      · exact absurd h6 (by rw [if_pos e1]; decide)
  · have e1 : ¬ inS u 0 3 = true := fun q => a1 (e.mp q).2
    have er : oPlace s k was n t u = (4293967295, (s, k, was, n, t)) := by unfold oPlace; rw [if_neg a1]
    refine T.iload_n (pc' := 1) (q_d dX6_place_0 0 rfl) rfl rfl rfl ?_
    refine T.iconst (pc' := 2) (v := nI 0) (q_d dX6_place_0 1 rfl) rfl (by decide) ?_
    refine T.iconst (pc' := 3) (v := nI 3) (q_d dX6_place_0 2 rfl) rfl (by decide) ?_
    refine T.callS (pc' := 6) (q_d dX6_place_0 3 rfl) rfl uX6_in wM_X6_43 (m_in hu (by decide) (hi := 3) (by decide)) rfl rfl (by decide) (Nat.le_of_ble_eq_true rfl) rfl rfl (fun _ => rfl) ?_
    rintro _ _ ⟨rfl, rfl⟩
    dsimp only [Option.toList, List.cons_append, List.nil_append, List.append_nil]
    refine T.if_neN (tgt := 12) (pc' := 9) (q_d dX6_place_0 4 rfl) rfl (by decide) (by split <;> decide) (fun h6 => ?_) (fun h6 => ?_)
    · exact absurd (if_neg e1) h6
    · refine T.ldc (pc' := 11) (v := nI 4293967295) (q_d dX6_place_0 5 rfl) rfl wN_X6_47 ?_
      refine T.iret (q_d dX6_place_0 6 rfl) rfl rfl rfl ?_
      rw [er]
      exact ⟨rfl, hX⟩
theorem rdN_lt {s : Nat → Nat} (h7 : s 0 ≤ 7) (o : Nat) : rdN s o < 2 ^ 31 := by
  have h := sumTo_le (f := fun i => ones (s (o + i))) (m := 7) (fun i => ones_le _) (s 0)
  unfold rdN
  omega
theorem m_road (hX : RM M b s k was n t) {u v : Nat} (hu : u < 4294967296) (hv : v < 4294967296) : Ct l hdM kM mX6_road [.ref 0, .int (nI u), .int (nI v)] M (OM b (oRoad s k was n t u v)) := by
  refine Ct.of [some (.ref 0), some (.int (nI u)), some (.int (nI v))] (by decide +kernel) (fun h => absurd h (by decide)) (Nat.le_of_ble_eq_true rfl) rfl ?_
  have w7 := hX.2.2.1.1
  have w0 := p2_le w7
  by_cases a1 : u < s 0 ∧ v < s 0 ∧ u ≠ v
  · have g1 := and1_01 (s (14 + u) >>> v)
    have hl := hX.2.2.1.2.2.2.2.2.2.2.1 u (by omega)
    by_cases a2 : s (14 + u) >>> v &&& 1 = 0
    · have er : oRoad s k was n t u v = (rdN (sRoad s u v) 14, act s k was n t (sRoad s u v)) := by unfold oRoad; rw [if_pos a1, if_pos a2]
      have hW := hX.2.2.1.road a1.1 a1.2.1 a1.2.2
      refine T.aload_n (pc' := 1) (q_d dX6_road_0 0 rfl) rfl rfl rfl ?_
      refine T.iload_n (pc' := 2) (q_d dX6_road_0 1 rfl) rfl rfl rfl ?_
      refine T.callV (pc' := 5) (ci := 6) (q_d dX6_road_0 2 rfl) rfl uX6_isPlace wM_X6_63 (m_isPlace hX hu) rfl rfl (by decide) rfl rfl (by decide) (Nat.le_of_ble_eq_true rfl) rfl rfl (fun _ => rfl) ?_
      rintro _ _ ⟨rfl, rfl⟩
      dsimp only [Option.toList, List.cons_append, List.nil_append, List.append_nil]
      refine T.if_eqN (tgt := 21) (pc' := 8) (q_d dX6_road_0 3 rfl) rfl (by decide) (by split <;> decide) (fun h5 => ?_) (fun h5 => ?_)
      · exact absurd h5 (by rw [if_pos a1.1]; decide)
      · refine T.aload_n (pc' := 9) (q_d dX6_road_0 4 rfl) rfl rfl rfl ?_
        refine T.iload_n (pc' := 10) (q_d dX6_road_0 5 rfl) rfl rfl rfl ?_
        refine T.callV (pc' := 13) (ci := 6) (q_d dX6_road_0 6 rfl) rfl uX6_isPlace wM_X6_63 (m_isPlace hX hv) rfl rfl (by decide) rfl rfl (by decide) (Nat.le_of_ble_eq_true rfl) rfl rfl (fun _ => rfl) ?_
        rintro _ _ ⟨rfl, rfl⟩
        dsimp only [Option.toList, List.cons_append, List.nil_append, List.append_nil]
        refine T.if_eqN (tgt := 21) (pc' := 16) (q_d dX6_road_0 7 rfl) rfl (by decide) (by split <;> decide) (fun h13 => ?_) (fun h13 => ?_)
        · exact absurd h13 (by rw [if_pos a1.2.1]; decide)
        · refine T.iload_n (pc' := 17) (q_d dX6_road_0 8 rfl) rfl rfl rfl ?_
          refine T.iload_n (pc' := 18) (q_d dX6_road_0 9 rfl) rfl rfl rfl ?_
          refine T.icmp_neN (tgt := 24) (pc' := 21) (q_d dX6_road_0 10 rfl) rfl (by decide) (by omega) (by omega) (fun h18 => ?_) (fun h18 => ?_)
          · refine T.aload_n (pc' := 25) (q_d dX6_road_0 13 rfl) rfl rfl rfl ?_
            refine T.getR (pc' := 28) (ci := 6) (k0 := 0) (q_d dX6_road_0 14 rfl) rfl rfl (by decide) rfl inX6 (by decide) rfl wF_X6_7 (rP (P := pM) (by first | exact hP2 | exact hX.1) rfl) ?_
            refine T.bipush (pc' := 30) (v := nI 14) (q_d dX6_road_0 15 rfl) rfl (by decide) ?_
            refine T.iload_n (pc' := 31) (q_d dX6_road_0 16 rfl) rfl rfl rfl ?_
            refine T.iadd (pc' := 32) (q_d dX6_road_0 17 rfl) rfl (nI_add _ _) ?_
            refine T.iald (pc' := 33) (q_d dX6_road_0 18 rfl) rfl rfl (by decide) rfl (by omega) (by decide) (hX.2.1 (14 + u) (by omega)) ?_
            refine T.iload_n (pc' := 34) (q_d dX6_road_0 19 rfl) rfl rfl rfl ?_
            refine T.ishr (pc' := 35) (q_d dX6_road_0 20 rfl) rfl (nN_shr (by omega) (by omega)) ?_
            refine T.iconst (pc' := 36) (v := nI 1) (q_d dX6_road_0 21 rfl) rfl (by decide) ?_
            refine T.iand (pc' := 37) (q_d dX6_road_0 22 rfl) rfl (nN_and _ _) ?_
            refine T.iconst (pc' := 38) (v := nI 1) (q_d dX6_road_0 23 rfl) rfl (by decide) ?_
            refine T.icmp_neN (tgt := 44) (pc' := 41) (q_d dX6_road_0 24 rfl) rfl (by decide) (by omega) (by omega) (fun h38 => ?_) (fun h38 => ?_)
            · refine T.aload_n (pc' := 45) (q_d dX6_road_0 27 rfl) rfl rfl rfl ?_
              refine T.callV (pc' := 48) (ci := 6) (q_d dX6_road_0 28 rfl) rfl uX6_keeps wM_X6_53 (m_keeps hX.1) rfl rfl (by decide) rfl rfl (by decide) (Nat.le_of_ble_eq_true rfl) rfl rfl (fun _ => rfl) ?_
              rintro _ M2 ⟨rfl, f2, fa, f3⟩
              have hP2 : M2.2.2 = pM := by rw [f2]; exact hX.1
              have hs2 : ∀ j, j < 52 → M2.1 1 j = s j := fun j hj => by rw [fa 1 (by decide)]; exact hX.2.1 j hj
              dsimp only [Option.toList, List.cons_append, List.nil_append, List.append_nil]
              refine T.aload_n (pc' := 49) (q_d dX6_road_0 29 rfl) rfl rfl rfl ?_
              refine T.getR (pc' := 52) (ci := 6) (k0 := 0) (q_d dX6_road_0 30 rfl) rfl rfl (by decide) rfl inX6 (by decide) rfl wF_X6_7 (rP (P := pM) (by first | exact hP2 | exact hX.1) rfl) ?_
              refine T.bipush (pc' := 54) (v := nI 14) (q_d dX6_road_0 31 rfl) rfl (by decide) ?_
              refine T.iload_n (pc' := 55) (q_d dX6_road_0 32 rfl) rfl rfl rfl ?_
              refine T.iadd (pc' := 56) (q_d dX6_road_0 33 rfl) rfl (nI_add _ _) ?_
              refine T.dup2 (pc' := 57) (q_d dX6_road_0 34 rfl) rfl rfl rfl ?_
              refine T.iald (pc' := 58) (q_d dX6_road_0 35 rfl) rfl rfl (by decide) rfl (by omega) (by decide) (hs2 (14 + u) (by omega)) ?_
              refine T.iconst (pc' := 59) (v := nI 1) (q_d dX6_road_0 36 rfl) rfl (by decide) ?_
              refine T.iload_n (pc' := 60) (q_d dX6_road_0 37 rfl) rfl rfl rfl ?_
              refine T.ishl (pc' := 61) (q_d dX6_road_0 38 rfl) rfl (nN_shl _ (by omega)) ?_
              refine T.ior (pc' := 62) (q_d dX6_road_0 39 rfl) rfl (nN_or _ _) ?_
              refine T.iast (pc' := 63) (q_d dX6_road_1 0 rfl) rfl rfl (by decide) rfl (by omega) (by decide) ?_
              refine T.aload_n (pc' := 64) (q_d dX6_road_1 1 rfl) rfl rfl rfl ?_
              refine T.getR (pc' := 67) (ci := 6) (k0 := 0) (q_d dX6_road_1 2 rfl) rfl rfl (by decide) rfl inX6 (by decide) rfl wF_X6_7 (rP (P := pM) (by first | exact hP2 | exact hX.1) rfl) ?_
              refine T.bipush (pc' := 69) (v := nI 14) (q_d dX6_road_1 3 rfl) rfl (by decide) ?_
              refine T.iload_n (pc' := 70) (q_d dX6_road_1 4 rfl) rfl rfl rfl ?_
              refine T.iadd (pc' := 71) (q_d dX6_road_1 5 rfl) rfl (nI_add _ _) ?_
              refine T.dup2 (pc' := 72) (q_d dX6_road_1 6 rfl) rfl rfl rfl ?_
              refine T.iald (pc' := 73) (q_d dX6_road_1 7 rfl) rfl rfl (by decide) rfl (by omega) (by decide) ((qI_ne (Or.inr (by omega))).trans (hs2 (14 + v) (by omega))) ?_
              refine T.iconst (pc' := 74) (v := nI 1) (q_d dX6_road_1 8 rfl) rfl (by decide) ?_
              refine T.iload_n (pc' := 75) (q_d dX6_road_1 9 rfl) rfl rfl rfl ?_
              refine T.ishl (pc' := 76) (q_d dX6_road_1 10 rfl) rfl (nN_shl _ (by omega)) ?_
              refine T.ior (pc' := 77) (q_d dX6_road_1 11 rfl) rfl (nN_or _ _) ?_
              refine T.iast (pc' := 78) (q_d dX6_road_1 12 rfl) rfl rfl (by decide) rfl (by omega) (by decide) ?_
              refine T.aload_n (pc' := 79) (q_d dX6_road_1 13 rfl) rfl rfl rfl ?_
              refine T.getR (pc' := 82) (ci := 6) (k0 := 0) (q_d dX6_road_1 14 rfl) rfl rfl (by decide) rfl inX6 (by decide) rfl wF_X6_7 (rP (P := pM) (by first | exact hP2 | exact hX.1) rfl) ?_
              refine T.bipush (pc' := 84) (v := nI 21) (q_d dX6_road_1 15 rfl) rfl (by decide) ?_
              refine T.iload_n (pc' := 85) (q_d dX6_road_1 16 rfl) rfl rfl rfl ?_
              refine T.iadd (pc' := 86) (q_d dX6_road_1 17 rfl) rfl (nI_add _ _) ?_
              refine T.dup2 (pc' := 87) (q_d dX6_road_1 18 rfl) rfl rfl rfl ?_
              refine T.iald (pc' := 88) (q_d dX6_road_1 19 rfl) rfl rfl (by decide) rfl (by omega) (by decide) ((qI_ne (Or.inr (by omega))).trans ((qI_ne (Or.inr (by omega))).trans (hs2 (21 + u) (by omega)))) ?_
              refine T.iconst (pc' := 89) (v := nI 1) (q_d dX6_road_1 20 rfl) rfl (by decide) ?_
              refine T.iload_n (pc' := 90) (q_d dX6_road_1 21 rfl) rfl rfl rfl ?_
              refine T.ishl (pc' := 91) (q_d dX6_road_1 22 rfl) rfl (nN_shl _ (by omega)) ?_
              refine T.ior (pc' := 92) (q_d dX6_road_1 23 rfl) rfl (nN_or _ _) ?_
              refine T.iast (pc' := 93) (q_d dX6_road_1 24 rfl) rfl rfl (by decide) rfl (by omega) (by decide) ?_
              refine T.aload_n (pc' := 94) (q_d dX6_road_1 25 rfl) rfl rfl rfl ?_
              refine T.getR (pc' := 97) (ci := 6) (k0 := 0) (q_d dX6_road_1 26 rfl) rfl rfl (by decide) rfl inX6 (by decide) rfl wF_X6_7 (rP (P := pM) (by first | exact hP2 | exact hX.1) rfl) ?_
              refine T.bipush (pc' := 99) (v := nI 21) (q_d dX6_road_1 27 rfl) rfl (by decide) ?_
              refine T.iload_n (pc' := 100) (q_d dX6_road_1 28 rfl) rfl rfl rfl ?_
              refine T.iadd (pc' := 101) (q_d dX6_road_1 29 rfl) rfl (nI_add _ _) ?_
              refine T.dup2 (pc' := 102) (q_d dX6_road_1 30 rfl) rfl rfl rfl ?_
              refine T.iald (pc' := 103) (q_d dX6_road_1 31 rfl) rfl rfl (by decide) rfl (by omega) (by decide) ((qI_ne (Or.inr (by omega))).trans ((qI_ne (Or.inr (by omega))).trans ((qI_ne (Or.inr (by omega))).trans (hs2 (21 + v) (by omega))))) ?_
              refine T.iconst (pc' := 104) (v := nI 1) (q_d dX6_road_1 32 rfl) rfl (by decide) ?_
              refine T.iload_n (pc' := 105) (q_d dX6_road_1 33 rfl) rfl rfl rfl ?_
              refine T.ishl (pc' := 106) (q_d dX6_road_1 34 rfl) rfl (nN_shl _ (by omega)) ?_
              refine T.ior (pc' := 107) (q_d dX6_road_1 35 rfl) rfl (nN_or _ _) ?_
              refine T.iast (pc' := 108) (q_d dX6_road_1 36 rfl) rfl rfl (by decide) rfl (by omega) (by decide) ?_
              have hN : ∀ j, j < 52 → (qI (qI (qI (qI M2 1 (14 + u) (s (14 + u) ||| 1 <<< v)) 1 (14 + v) (s (14 + v) ||| 1 <<< u)) 1 (21 + u) (s (21 + u) ||| 1 <<< v)) 1 (21 + v) (s (21 + v) ||| 1 <<< u)).1 1 j = sRoad s u v j := by
                intro j hj
                by_cases j1 : j = 21 + v
                · subst j1; rw [qI_eq, sRoad_21 (by omega), pt_j a1.2.2]
                · rw [qI_ne (Or.inr j1)]
                  by_cases j2 : j = 21 + u
                  · subst j2; rw [qI_eq, sRoad_21 (by omega), pt_i]
                  · rw [qI_ne (Or.inr j2)]
                    by_cases j3 : j = 14 + v
                    · subst j3; rw [qI_eq, sRoad_14 (by omega), pt_j a1.2.2]
                    · rw [qI_ne (Or.inr j3)]
                      by_cases j4 : j = 14 + u
                      · subst j4; rw [qI_eq, sRoad_14 (by omega), pt_i]
                      · rw [qI_ne (Or.inr j4), hs2 j hj]
                        by_cases r1 : j < 14 ∨ 28 ≤ j
                        · rw [sRoad_out r1]
                        · by_cases r2 : j < 21
                          · obtain ⟨a, rfl⟩ : ∃ a, j = 14 + a := ⟨j - 14, by omega⟩
                            rw [sRoad_14 (by omega), pt_0 (by omega) (by omega), Nat.or_zero]
                          · obtain ⟨a, rfl⟩ : ∃ a, j = 21 + a := ⟨j - 21, by omega⟩
                            rw [sRoad_21 (by omega), pt_0 (by omega) (by omega), Nat.or_zero]
              have hY : RM (qI (qI (qI (qI M2 1 (14 + u) (s (14 + u) ||| 1 <<< v)) 1 (14 + v) (s (14 + v) ||| 1 <<< u)) 1 (21 + u) (s (21 + u) ||| 1 <<< v)) 1 (21 + v) (s (21 + v) ||| 1 <<< u)) b (sRoad s u v) k was n t := by
                obtain ⟨q1, q2, q3, q4, q5, q6, q7, q8, q9⟩ := hX
                refine ⟨hP2, hN, hW, ?_, q5, fun i hi => ⟨fun j hj => ?_, (q6 i hi).2⟩, ?_, fun i hi => ?_, q9⟩
                · rw [qI_ne (Or.inl (by decide)), qI_ne (Or.inl (by decide)), qI_ne (Or.inl (by decide)), qI_ne (Or.inl (by decide)), fa 0 (by decide)]; exact q4
                · rw [qI_ne (Or.inl (by decide)), qI_ne (Or.inl (by decide)), qI_ne (Or.inl (by decide)), qI_ne (Or.inl (by decide)), fa 2 (by decide)]; exact (q6 i hi).1 j hj
                · rw [qI_ne (Or.inl (by decide)), qI_ne (Or.inl (by decide)), qI_ne (Or.inl (by decide)), qI_ne (Or.inl (by decide)), fa 0 (by decide)]; exact q7
                · rw [qI_ne (Or.inl (by decide)), qI_ne (Or.inl (by decide)), qI_ne (Or.inl (by decide)), qI_ne (Or.inl (by decide)), fa 5 (by decide)]; exact q8 i hi
              refine T.aload_n (pc' := 109) (q_d dX6_road_1 37 rfl) rfl rfl rfl ?_
              refine T.aload_n (pc' := 110) (q_d dX6_road_1 38 rfl) rfl rfl rfl ?_
              refine T.bipush (pc' := 112) (v := nI 14) (q_d dX6_road_1 39 rfl) rfl (by decide) ?_
              refine T.callV (pc' := 115) (ci := 6) (q_d dX6_road_2 0 rfl) rfl uX6_roads wM_X6_68 (m_roads hY (Or.inl rfl)) rfl rfl (by decide) rfl rfl (by decide) (Nat.le_of_ble_eq_true rfl) rfl rfl (fun _ => rfl) ?_
              rintro _ _ ⟨rfl, rfl⟩
              dsimp only [Option.toList, List.cons_append, List.nil_append, List.append_nil]
              refine T.callV (pc' := 118) (ci := 6) (q_d dX6_road_2 1 rfl) rfl uX6_acted wM_X6_56 (m_actedR (s' := sRoad s u v) hX (by exact hP2) (by funext j; rw [qI_ne (Or.inl (by decide)), qI_ne (Or.inl (by decide)), qI_ne (Or.inl (by decide)), qI_ne (Or.inl (by decide)), fa 2 (by decide)]) (by funext j; rw [qI_ne (Or.inl (by decide)), qI_ne (Or.inl (by decide)), qI_ne (Or.inl (by decide)), qI_ne (Or.inl (by decide)), fa 5 (by decide)]) (by rw [qI_ne (Or.inl (by decide)), qI_ne (Or.inl (by decide)), qI_ne (Or.inl (by decide)), qI_ne (Or.inl (by decide)), fa 0 (by decide)]) (by rw [qI_ne (Or.inl (by decide)), qI_ne (Or.inl (by decide)), qI_ne (Or.inl (by decide)), qI_ne (Or.inl (by decide)), fa 0 (by decide)]) (fun j hj => by rw [qI_ne (Or.inl (by decide)), qI_ne (Or.inl (by decide)), qI_ne (Or.inl (by decide)), qI_ne (Or.inl (by decide)), f3 j hj]; exact hX.2.1 j hj) hN hW (Nat.le_refl _) (rdN_lt (s := sRoad s u v) hW.1 14)) rfl rfl (by decide) rfl rfl (by decide) (Nat.le_of_ble_eq_true rfl) rfl rfl (fun _ => rfl) ?_
              rintro v5 M5 hO
              dsimp only [Option.toList, List.cons_append, List.nil_append, List.append_nil]
              obtain ⟨rfl, hO⟩ := hO
              refine T.iret (q_d dX6_road_2 2 rfl) rfl rfl rfl ?_
              rw [er]
              exact ⟨rfl, hO⟩
            · exact absurd a2 (by omega)
          · exact absurd a1.2.2 (by omega)
    · have er : oRoad s k was n t u v = (4293967294, (s, k, was, n, t)) := by unfold oRoad; rw [if_pos a1, if_neg a2]
      refine T.aload_n (pc' := 1) (q_d dX6_road_0 0 rfl) rfl rfl rfl ?_
      refine T.iload_n (pc' := 2) (q_d dX6_road_0 1 rfl) rfl rfl rfl ?_
      refine T.callV (pc' := 5) (ci := 6) (q_d dX6_road_0 2 rfl) rfl uX6_isPlace wM_X6_63 (m_isPlace hX hu) rfl rfl (by decide) rfl rfl (by decide) (Nat.le_of_ble_eq_true rfl) rfl rfl (fun _ => rfl) ?_
      rintro _ _ ⟨rfl, rfl⟩
      dsimp only [Option.toList, List.cons_append, List.nil_append, List.append_nil]
      refine T.if_eqN (tgt := 21) (pc' := 8) (q_d dX6_road_0 3 rfl) rfl (by decide) (by split <;> decide) (fun h5 => ?_) (fun h5 => ?_)
      · exact absurd h5 (by rw [if_pos a1.1]; decide)
      · refine T.aload_n (pc' := 9) (q_d dX6_road_0 4 rfl) rfl rfl rfl ?_
        refine T.iload_n (pc' := 10) (q_d dX6_road_0 5 rfl) rfl rfl rfl ?_
        refine T.callV (pc' := 13) (ci := 6) (q_d dX6_road_0 6 rfl) rfl uX6_isPlace wM_X6_63 (m_isPlace hX hv) rfl rfl (by decide) rfl rfl (by decide) (Nat.le_of_ble_eq_true rfl) rfl rfl (fun _ => rfl) ?_
        rintro _ _ ⟨rfl, rfl⟩
        dsimp only [Option.toList, List.cons_append, List.nil_append, List.append_nil]
        refine T.if_eqN (tgt := 21) (pc' := 16) (q_d dX6_road_0 7 rfl) rfl (by decide) (by split <;> decide) (fun h13 => ?_) (fun h13 => ?_)
        · exact absurd h13 (by rw [if_pos a1.2.1]; decide)
        · refine T.iload_n (pc' := 17) (q_d dX6_road_0 8 rfl) rfl rfl rfl ?_
          refine T.iload_n (pc' := 18) (q_d dX6_road_0 9 rfl) rfl rfl rfl ?_
          refine T.icmp_neN (tgt := 24) (pc' := 21) (q_d dX6_road_0 10 rfl) rfl (by decide) (by omega) (by omega) (fun h18 => ?_) (fun h18 => ?_)
          · refine T.aload_n (pc' := 25) (q_d dX6_road_0 13 rfl) rfl rfl rfl ?_
            refine T.getR (pc' := 28) (ci := 6) (k0 := 0) (q_d dX6_road_0 14 rfl) rfl rfl (by decide) rfl inX6 (by decide) rfl wF_X6_7 (rP hX.1 rfl) ?_
            refine T.bipush (pc' := 30) (v := nI 14) (q_d dX6_road_0 15 rfl) rfl (by decide) ?_
            refine T.iload_n (pc' := 31) (q_d dX6_road_0 16 rfl) rfl rfl rfl ?_
            refine T.iadd (pc' := 32) (q_d dX6_road_0 17 rfl) rfl (nI_add _ _) ?_
            refine T.iald (pc' := 33) (q_d dX6_road_0 18 rfl) rfl rfl (by decide) rfl (by omega) (by decide) (hX.2.1 (14 + u) (by omega)) ?_
            refine T.iload_n (pc' := 34) (q_d dX6_road_0 19 rfl) rfl rfl rfl ?_
            refine T.ishr (pc' := 35) (q_d dX6_road_0 20 rfl) rfl (nN_shr (by omega) (by omega)) ?_
            refine T.iconst (pc' := 36) (v := nI 1) (q_d dX6_road_0 21 rfl) rfl (by decide) ?_
            refine T.iand (pc' := 37) (q_d dX6_road_0 22 rfl) rfl (nN_and _ _) ?_
            refine T.iconst (pc' := 38) (v := nI 1) (q_d dX6_road_0 23 rfl) rfl (by decide) ?_
            refine T.icmp_neN (tgt := 44) (pc' := 41) (q_d dX6_road_0 24 rfl) rfl (by decide) (by omega) (by omega) (fun h38 => ?_) (fun h38 => ?_)
            · exact absurd h38 (by omega)
            · refine T.ldc (pc' := 43) (v := nI 4293967294) (q_d dX6_road_0 25 rfl) rfl wN_X6_67 ?_
              refine T.iret (q_d dX6_road_0 26 rfl) rfl rfl rfl ?_
              rw [er]
              exact ⟨rfl, hX⟩
          · exact absurd a1.2.2 (by omega)
  · have er : oRoad s k was n t u v = (4293967295, (s, k, was, n, t)) := by unfold oRoad; rw [if_neg a1]
    refine T.aload_n (pc' := 1) (q_d dX6_road_0 0 rfl) rfl rfl rfl ?_
    refine T.iload_n (pc' := 2) (q_d dX6_road_0 1 rfl) rfl rfl rfl ?_
    refine T.callV (pc' := 5) (ci := 6) (q_d dX6_road_0 2 rfl) rfl uX6_isPlace wM_X6_63 (m_isPlace hX hu) rfl rfl (by decide) rfl rfl (by decide) (Nat.le_of_ble_eq_true rfl) rfl rfl (fun _ => rfl) ?_
    rintro _ _ ⟨rfl, rfl⟩
    dsimp only [Option.toList, List.cons_append, List.nil_append, List.append_nil]
    refine T.if_eqN (tgt := 21) (pc' := 8) (q_d dX6_road_0 3 rfl) rfl (by decide) (by split <;> decide) (fun h5 => ?_) (fun h5 => ?_)
    · refine T.ldc (pc' := 23) (v := nI 4293967295) (q_d dX6_road_0 11 rfl) rfl wN_X6_47 ?_
      refine T.iret (q_d dX6_road_0 12 rfl) rfl rfl rfl ?_
      rw [er]
      exact ⟨rfl, hX⟩
    · refine T.aload_n (pc' := 9) (q_d dX6_road_0 4 rfl) rfl rfl rfl ?_
      refine T.iload_n (pc' := 10) (q_d dX6_road_0 5 rfl) rfl rfl rfl ?_
      refine T.callV (pc' := 13) (ci := 6) (q_d dX6_road_0 6 rfl) rfl uX6_isPlace wM_X6_63 (m_isPlace hX hv) rfl rfl (by decide) rfl rfl (by decide) (Nat.le_of_ble_eq_true rfl) rfl rfl (fun _ => rfl) ?_
      rintro _ _ ⟨rfl, rfl⟩
      dsimp only [Option.toList, List.cons_append, List.nil_append, List.append_nil]
      refine T.if_eqN (tgt := 21) (pc' := 16) (q_d dX6_road_0 7 rfl) rfl (by decide) (by split <;> decide) (fun h13 => ?_) (fun h13 => ?_)
      · refine T.ldc (pc' := 23) (v := nI 4293967295) (q_d dX6_road_0 11 rfl) rfl wN_X6_47 ?_
        refine T.iret (q_d dX6_road_0 12 rfl) rfl rfl rfl ?_
        rw [er]
        exact ⟨rfl, hX⟩
      · refine T.iload_n (pc' := 17) (q_d dX6_road_0 8 rfl) rfl rfl rfl ?_
        refine T.iload_n (pc' := 18) (q_d dX6_road_0 9 rfl) rfl rfl rfl ?_
        refine T.icmp_neN (tgt := 24) (pc' := 21) (q_d dX6_road_0 10 rfl) rfl (by decide) (by omega) (by omega) (fun h18 => ?_) (fun h18 => ?_)
        · have hb1 : u < s 0 := by
            by_cases q : u < s 0
            · exact q
            · exact absurd (if_neg q) h5
          have hb2 : v < s 0 := by
            by_cases q : v < s 0
            · exact q
            · exact absurd (if_neg q) h13
          exact absurd ⟨hb1, hb2, h18⟩ a1
        · refine T.ldc (pc' := 23) (v := nI 4293967295) (q_d dX6_road_0 11 rfl) rfl wN_X6_47 ?_
          refine T.iret (q_d dX6_road_0 12 rfl) rfl rfl rfl ?_
          rw [er]
          exact ⟨rfl, hX⟩
end CM2
