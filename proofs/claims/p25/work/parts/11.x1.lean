/-! BlindHunts$Moves: the tables -/
/-- the checks below n that the budget allows -/
def ckN (s : Nat → Nat) (n : Nat) : List Nat := (List.range n).filter (fun c => decide (ones c ≤ s 6))
/-- the tables stand for s -/
def RT (M : qM) (s : Nat → Nat) : Prop :=
  (∀ g, g < 5 → ∀ b, b < 2 ^ s 0 → M.1 (22 + g) b = gon s g b (s 0)) ∧ M.1 20 5 = (if s 4 = 3 then 1 else 0) ∧ M.1 20 4 = 2 ^ s 0 ∧ M.1 20 3 = (ckN s (2 ^ s 0)).length ∧ ∀ i c, (ckN s (2 ^ s 0))[i]? = some c → M.1 28 i = c
theorem RT.mono {M M' : qM} {s : Nat → Nat} (h : RT M s) (he : ∀ a, 20 ≤ a → a ≤ 28 → M'.1 a = M.1 a) : RT M' s := by
  obtain ⟨h1, h2, h3, h4, h5⟩ := h
  refine ⟨fun g hg b hb => ?_, ?_, ?_, ?_, fun i c hc => ?_⟩
  · rw [he (22 + g) (by omega) (by omega)]; exact h1 g hg b hb
  · rw [he 20 (by omega) (by omega)]; exact h2
  · rw [he 20 (by omega) (by omega)]; exact h3
  · rw [he 20 (by omega) (by omega)]; exact h4
  · rw [he 28 (by omega) (by omega)]; exact h5 i c hc
theorem RT.zero {M : qM} {s : Nat → Nat} (h : RT M s) : ∀ g, g < 5 → M.1 (22 + g) 0 = 0 := fun g hg => by
  rw [h.1 g hg 0 (Nat.two_pow_pos _), gon_more (n := 0) (by decide) (Nat.zero_le _)]; rfl
theorem or_two {a n : Nat} (h : a < 2 ^ n) : a ||| 1 <<< n = a + 2 ^ n := by
  rw [Nat.one_shiftLeft, Nat.or_comm, Nat.add_comm]
  exact (Nat.two_pow_add_eq_or_of_lt h 1 |> fun e => by simpa using e.symm)
section CX1
variable {l : Launch} {M : qM} {b : Nat} {s : Nat → Nat} {pa : Nat → Nat} {sw : Bool}
theorem c_after (hP : M.2.2 = pX pa sw) (hw : WF b s) (hT : RT M s) {x c g : Nat} (hx : x < 2 ^ s 0) (hg : g < 5) : Ct l hdX kX mX1_after [.ref 20, .int (nI x), .int (nI c), .int (nI g)] M (RI M (thn s x c g)) := by
  refine Ct.of [some (.ref 20), some (.int (nI x)), some (.int (nI c)), some (.int (nI g)), none] (by decide +kernel) (fun h => absurd h (by decide)) (Nat.le_of_ble_eq_true rfl) rfl ?_
  rw [← aft_eq hw]
  have w0 := p2_le hw.1
  have d0 : dif x c < 2 ^ s 0 := dif_lt hx
  have hsh := hT.2.1
  refine T.aload_n (pc' := 1) (q_d dX1_after_0 0 rfl) rfl rfl rfl ?_
  refine T.getR (pc' := 4) (ci := 1) (k0 := 0) (q_d dX1_after_0 1 rfl) rfl rfl (by decide) rfl inX1 (by decide) rfl wF_X1_11 (rP hP rfl) ?_
  refine T.iload_n (pc' := 5) (q_d dX1_after_0 2 rfl) rfl rfl rfl ?_
  refine T.qald (pc' := 6) (q_d dX1_after_0 3 rfl) rfl (Or.inr rfl) rfl (by decide) rfl (by omega) (by decide) (rP hP (pX_21 hg)) ?_
  refine T.iload_n (pc' := 7) (q_d dX1_after_0 4 rfl) rfl rfl rfl ?_
  refine T.iload_n (pc' := 8) (q_d dX1_after_0 5 rfl) rfl rfl rfl ?_
  refine T.iconst (pc' := 9) (v := nI 4294967295) (q_d dX1_after_0 6 rfl) rfl (by decide) ?_
  refine T.ixor (pc' := 10) (q_d dX1_after_0 7 rfl) rfl (nN_xor _ _) ?_
  refine T.iand (pc' := 11) (q_d dX1_after_0 8 rfl) rfl (nN_and _ _) ?_
  refine T.iald (pc' := 12) (q_d dX1_after_0 9 rfl) rfl (hd_row hg) (show 22 + g < 71 by omega) rfl (show dif x c < 128 by omega) (by decide) (hT.1 g hg _ d0) ?_
  refine T.istore (pc' := 14) (q_d dX1_after_0 10 rfl) rfl (by decide) rfl rfl ?_
  refine T.aload_n (pc' := 15) (q_d dX1_after_0 11 rfl) rfl rfl rfl ?_
  refine T.getI (pc' := 18) (ci := 1) (k0 := 5) (q_d dX1_after_0 12 rfl) rfl rfl (by decide) rfl inX1 (by decide) rfl wF_X1_35 hsh ?_
  refine T.if_eqN (tgt := 30) (pc' := 21) (q_d dX1_after_0 13 rfl) rfl (by decide) (by split <;> decide) (fun h18 => ?_) (fun h18 => ?_)
  · refine T.iload (pc' := 32) (q_d dX1_after_0 20 rfl) rfl rfl ?_
    refine T.iret (q_d dX1_after_0 21 rfl) rfl rfl rfl ?_
    refine ⟨rfl, ?_⟩
    unfold aft
    by_cases e : s 4 = 3
    · first | (rw [if_pos e]; rfl) | (rw [if_pos e] at h18; cases h18)
    · first | (rw [if_neg e] at h18; exact absurd rfl h18) | (rw [if_neg e]; rfl)
  · refine T.iload (pc' := 23) (q_d dX1_after_0 14 rfl) rfl rfl ?_
    refine T.iload_n (pc' := 24) (q_d dX1_after_0 15 rfl) rfl rfl rfl ?_
    refine T.iconst (pc' := 25) (v := nI 4294967295) (q_d dX1_after_0 16 rfl) rfl (by decide) ?_
    refine T.ixor (pc' := 26) (q_d dX1_after_0 17 rfl) rfl (nN_xor _ _) ?_
    refine T.iand (pc' := 27) (q_d dX1_after_0 18 rfl) rfl (nN_and _ _) ?_
    refine T.goto (tgt := 32) (q_d dX1_after_0 19 rfl) (by decide) ?_
    refine T.iret (q_d dX1_after_0 21 rfl) rfl rfl rfl ?_
    refine ⟨rfl, ?_⟩
    unfold aft
    by_cases e : s 4 = 3
    · first | (rw [if_pos e]; rfl) | (rw [if_pos e] at h18; cases h18)
    · first | (rw [if_neg e] at h18; exact absurd rfl h18) | (rw [if_neg e]; rfl)
theorem c_spread (hP : M.2.2 = pX pa sw) {g p : Nat} (hg : g < 5) (hp : p < 7) : Ct l hdX kX mX1_spread [.ref 20, .int (nI g), .int (nI (1 <<< p))] M (fun v M' => v = none ∧ M'.2 = M.2 ∧ (∀ a, a ≠ 22 + g → M'.1 a = M.1 a) ∧ ∀ x, M'.1 (22 + g) x = if 2 ^ p ≤ x ∧ x < 2 ^ p + 2 ^ p then M.1 (22 + g) (x - 2 ^ p) ||| M.1 27 g else M.1 (22 + g) x) := by
  refine Ct.of [some (.ref 20), some (.int (nI g)), some (.int (nI (1 <<< p))), none] (by decide +kernel) (fun h => absurd h (by decide)) (Nat.le_of_ble_eq_true rfl) rfl ?_
  have w0 : 2 ^ p ≤ 64 := Nat.le_trans (Nat.pow_le_pow_right (by decide) (by omega : p ≤ 6)) (by decide)
  rw [Nat.one_shiftLeft]
  have loop : ∀ d k (M' : qM), k + d = 2 ^ p → M'.2 = M.2 → (∀ a, a ≠ 22 + g → M'.1 a = M.1 a) → (∀ x, M'.1 (22 + g) x = if 2 ^ p ≤ x ∧ x < 2 ^ p + k then M.1 (22 + g) (x - 2 ^ p) ||| M.1 27 g else M.1 (22 + g) x) →
      T l hdX kX mX1_spread (fun v M' => v = none ∧ M'.2 = M.2 ∧ (∀ a, a ≠ 22 + g → M'.1 a = M.1 a) ∧ ∀ x, M'.1 (22 + g) x = if 2 ^ p ≤ x ∧ x < 2 ^ p + 2 ^ p then M.1 (22 + g) (x - 2 ^ p) ||| M.1 27 g else M.1 (22 + g) x) 0 0 2 [some (.ref 20), some (.int (nI g)), some (.int (nI (2 ^ p))), some (.int (nI k))] [] M' := by
    intro d
    induction d with
    | zero =>
      intro k M' hk hF ha hx
      have e : k = 2 ^ p := by omega
      subst e
      refine T.iload_n (pc' := 3) (q_d dX1_spread_0 2 rfl) rfl rfl rfl ?_
      refine T.iload_n (pc' := 4) (q_d dX1_spread_0 3 rfl) rfl rfl rfl ?_
      refine T.icmp_geN (tgt := 38) (pc' := 7) (q_d dX1_spread_0 4 rfl) rfl (by decide) (by omega) (by omega) (fun h4 => ?_) (fun h4 => ?_)
      · refine T.vret (q_d dX1_spread_0 26 rfl) rfl rfl rfl ?_
        exact ⟨rfl, hF, ha, hx⟩
      · exact absurd h4 (by omega)
    | succ d ih =>
      intro k M' hk hF ha hx
      have hP' : M'.2.2 = pX pa sw := by rw [hF]; exact hP
      have e1 : k ||| 2 ^ p = k + 2 ^ p := by rw [← Nat.one_shiftLeft]; rw [or_two (by omega), Nat.one_shiftLeft]
      have e2 : M'.1 (22 + g) k = M.1 (22 + g) k := by rw [hx, if_neg (by omega)]
      have e3 : M'.1 27 g = M.1 27 g := by rw [ha 27 (by omega)]
      refine T.iload_n (pc' := 3) (q_d dX1_spread_0 2 rfl) rfl rfl rfl ?_
      refine T.iload_n (pc' := 4) (q_d dX1_spread_0 3 rfl) rfl rfl rfl ?_
      refine T.icmp_geN (tgt := 38) (pc' := 7) (q_d dX1_spread_0 4 rfl) rfl (by decide) (by omega) (by omega) (fun h4 => ?_) (fun h4 => ?_)
      · exact absurd h4 (by omega)
      · refine T.aload_n (pc' := 8) (q_d dX1_spread_0 5 rfl) rfl rfl rfl ?_
        refine T.getR (pc' := 11) (ci := 1) (k0 := 0) (q_d dX1_spread_0 6 rfl) rfl rfl (by decide) rfl inX1 (by decide) rfl wF_X1_11 (rP hP' rfl) ?_
        refine T.iload_n (pc' := 12) (q_d dX1_spread_0 7 rfl) rfl rfl rfl ?_
        refine T.qald (pc' := 13) (q_d dX1_spread_0 8 rfl) rfl (Or.inr rfl) rfl (by decide) rfl (by omega) (by decide) (rP hP' (pX_21 hg)) ?_
        refine T.iload_n (pc' := 14) (q_d dX1_spread_0 9 rfl) rfl rfl rfl ?_
        refine T.iload_n (pc' := 15) (q_d dX1_spread_0 10 rfl) rfl rfl rfl ?_
        refine T.ior (pc' := 16) (q_d dX1_spread_0 11 rfl) rfl ((nN_or _ _).trans (by rw [e1])) ?_
        refine T.aload_n (pc' := 17) (q_d dX1_spread_0 12 rfl) rfl rfl rfl ?_
        refine T.getR (pc' := 20) (ci := 1) (k0 := 0) (q_d dX1_spread_0 13 rfl) rfl rfl (by decide) rfl inX1 (by decide) rfl wF_X1_11 (rP hP' rfl) ?_
        refine T.iload_n (pc' := 21) (q_d dX1_spread_0 14 rfl) rfl rfl rfl ?_
        refine T.qald (pc' := 22) (q_d dX1_spread_0 15 rfl) rfl (Or.inr rfl) rfl (by decide) rfl (by omega) (by decide) (rP hP' (pX_21 hg)) ?_
        refine T.iload_n (pc' := 23) (q_d dX1_spread_0 16 rfl) rfl rfl rfl ?_
        refine T.iald (pc' := 24) (q_d dX1_spread_0 17 rfl) rfl (hd_row hg) (show 22 + g < 71 by omega) rfl (by omega) (by decide) e2 ?_
        refine T.aload_n (pc' := 25) (q_d dX1_spread_0 18 rfl) rfl rfl rfl ?_
        refine T.getR (pc' := 28) (ci := 1) (k0 := 1) (q_d dX1_spread_0 19 rfl) rfl rfl (by decide) rfl inX1 (by decide) rfl wF_X1_16 (rP hP' rfl) ?_
        refine T.iload_n (pc' := 29) (q_d dX1_spread_0 20 rfl) rfl rfl rfl ?_
        refine T.iald (pc' := 30) (q_d dX1_spread_0 21 rfl) rfl rfl (by decide) rfl (by omega) (by decide) e3 ?_
        refine T.ior (pc' := 31) (q_d dX1_spread_0 22 rfl) rfl (nN_or _ _) ?_
        refine T.iast (pc' := 32) (q_d dX1_spread_0 23 rfl) rfl (hd_row hg) (show 22 + g < 71 by omega) rfl (by omega) (by decide) ?_
        refine T.iinc (pc' := 35) (q_d dX1_spread_0 24 rfl) rfl rfl (nN_p _ 1) (by decide) rfl rfl ?_
        refine T.goto (tgt := 2) (q_d dX1_spread_0 25 rfl) (by decide) ?_
        refine ih (k + 1) _ (by omega) hF (fun a h9 => ?_) (fun x => ?_)
        · funext j; rw [qI_ne (Or.inl h9), ha a h9]
        · by_cases e : x = k + 2 ^ p
          · subst e
            rw [qI_eq, if_pos (by omega), show k + 2 ^ p - 2 ^ p = k by omega]
          · rw [qI_ne (Or.inr e), hx]
            by_cases h8 : 2 ^ p ≤ x ∧ x < 2 ^ p + k
            · rw [if_pos h8, if_pos (by omega)]
            · rw [if_neg h8, if_neg (by omega)]
  refine T.iconst (pc' := 1) (v := nI 0) (q_d dX1_spread_0 0 rfl) rfl (by decide) ?_
  refine T.istore_n (pc' := 2) (q_d dX1_spread_0 1 rfl) rfl rfl (by decide) rfl rfl ?_
  exact loop (2 ^ p) 0 M (by omega) rfl (fun _ _ => rfl) (fun x => by rw [if_neg (by omega)])
theorem c_buildPlace (hP : M.2.2 = pX pa sw) (hs : RS M 1 s) (hw : WF b s) {p : Nat} (hp : p < s 0) (hg : ∀ g, g < 5 → ∀ x, x < 2 ^ p → M.1 (22 + g) x = gon s g x p) : Ct l hdX kX mX1_buildPlace [.ref 20, .ref 1, .int (nI p)] M (fun v M' => v = none ∧ M'.2 = M.2 ∧ (∀ a, a < 22 ∨ 27 < a → M'.1 a = M.1 a) ∧ ∀ g, g < 5 → ∀ x, x < 2 ^ (p + 1) → M'.1 (22 + g) x = gon s g x (p + 1)) := by
  refine Ct.of [some (.ref 20), some (.ref 1), some (.int (nI p)), none, none] (by decide +kernel) (fun h => absurd h (by decide)) (Nat.le_of_ble_eq_true rfl) rfl ?_
  have w7 := hw.1
  have w0 := p2_le hw.1
  have wg := goes_lt hw hp (c := 0)
  have ho1 : SO 1 := Or.inl rfl
  have hp2 : 2 ^ p ≤ 64 := Nat.le_trans (Nat.pow_le_pow_right (by decide) (by omega : p ≤ 6)) (by decide)
  have loop3 : ∀ d k (M' : qM), k + d = 5 → M'.2 = M.2 → (∀ a, a < 22 ∨ 27 < a → M'.1 a = M.1 a) → (∀ g, g < 5 → M'.1 27 g = tgt s p g) → (∀ g, g < 5 → M'.1 (22 + g) = M.1 (22 + g) ∨ (g < k ∧ ∀ x, x < 2 ^ (p + 1) → M'.1 (22 + g) x = gon s g x (p + 1))) → (∀ g, k ≤ g → g < 5 → M'.1 (22 + g) = M.1 (22 + g)) → (∀ g, g < k → ∀ x, x < 2 ^ (p + 1) → M'.1 (22 + g) x = gon s g x (p + 1)) →
      T l hdX kX mX1_buildPlace (fun v M' => v = none ∧ M'.2 = M.2 ∧ (∀ a, a < 22 ∨ 27 < a → M'.1 a = M.1 a) ∧ ∀ g, g < 5 → ∀ x, x < 2 ^ (p + 1) → M'.1 (22 + g) x = gon s g x (p + 1)) 0 0 86 [some (.ref 20), some (.ref 1), some (.int (nI p)), some (.int (nI (goes s p 0))), some (.int (nI k))] [] M' := by
    intro d
    induction d with
    | zero =>
      intro k M' hk hF ha ht _ hn hdn
      refine T.iload (pc' := 88) (q_d dX1_buildPlace_1 11 rfl) rfl rfl ?_
      refine T.iconst (pc' := 89) (v := nI 4) (q_d dX1_buildPlace_1 12 rfl) rfl (by decide) ?_
      refine T.icmp_gtN (tgt := 107) (pc' := 92) (q_d dX1_buildPlace_1 13 rfl) rfl (by decide) (by omega) (by omega) (fun h89 => ?_) (fun h89 => ?_)
      · refine T.vret (q_d dX1_buildPlace_1 22 rfl) rfl rfl rfl ?_
        exact ⟨rfl, hF, ha, fun g h5 => hdn g (by omega)⟩
      · exact absurd h89 (by omega)
    | succ d ih =>
      intro k M' hk hF ha ht hx hn hdn
      have hP' : M'.2.2 = pX pa sw := by rw [hF]; exact hP
      have hk5 : k < 5 := by omega
      have e2 : (2 : Nat) ^ (p + 1) = 2 ^ p + 2 ^ p := by rw [Nat.pow_succ]; omega
      refine T.iload (pc' := 88) (q_d dX1_buildPlace_1 11 rfl) rfl rfl ?_
      refine T.iconst (pc' := 89) (v := nI 4) (q_d dX1_buildPlace_1 12 rfl) rfl (by decide) ?_
      refine T.icmp_gtN (tgt := 107) (pc' := 92) (q_d dX1_buildPlace_1 13 rfl) rfl (by decide) (by omega) (by omega) (fun h89 => ?_) (fun h89 => ?_)
      · exact absurd h89 (by omega)
      · refine T.aload_n (pc' := 93) (q_d dX1_buildPlace_1 14 rfl) rfl rfl rfl ?_
        refine T.iload (pc' := 95) (q_d dX1_buildPlace_1 15 rfl) rfl rfl ?_
        refine T.iconst (pc' := 96) (v := nI 1) (q_d dX1_buildPlace_1 16 rfl) rfl (by decide) ?_
        refine T.iload_n (pc' := 97) (q_d dX1_buildPlace_1 17 rfl) rfl rfl rfl ?_
        refine T.ishl (pc' := 98) (q_d dX1_buildPlace_1 18 rfl) rfl (nN_shl _ (by omega)) ?_
        refine T.callV (pc' := 101) (ci := 1) (q_d dX1_buildPlace_1 19 rfl) rfl uX1_spread wM_X1_58 (c_spread hP' hk5 (show p < 7 by omega)) rfl rfl (by decide) rfl rfl (by decide) (Nat.le_of_ble_eq_true rfl) rfl rfl (fun _ => rfl) ?_
        rintro _ M2 ⟨rfl, f1, f2, f3⟩
        dsimp only [Option.toList, List.cons_append, List.nil_append, List.append_nil]
        refine T.iinc (pc' := 104) (q_d dX1_buildPlace_1 20 rfl) rfl rfl (nN_p _ 1) (by decide) rfl rfl ?_
        refine T.goto (tgt := 86) (q_d dX1_buildPlace_1 21 rfl) (by decide) ?_
        have hrow : ∀ x, x < 2 ^ (p + 1) → M2.1 (22 + k) x = gon s k x (p + 1) := by
          intro x hx2
          rw [f3 x]
          have h9 := hn k (Nat.le_refl _) hk5
          by_cases h8 : 2 ^ p ≤ x ∧ x < 2 ^ p + 2 ^ p
          · have h7 : x - 2 ^ p < 2 ^ p := by omega
            rw [if_pos h8, h9, hg k hk5 _ h7, ht k hk5, ← gon_spread h7, or_two h7, Nat.sub_add_cancel h8.1]
          · have h7 : x < 2 ^ p := by omega
            rw [if_neg h8, h9, hg k hk5 _ h7, gon_more h7 (Nat.le_succ _)]
        refine ih (k + 1) M2 (by omega) (f1.trans hF) (fun a h9 => (f2 a (by omega)).trans (ha a h9)) (fun g h5 => by rw [f2 27 (by omega)]; exact ht g h5) (fun g h5 => ?_) (fun g h1 h5 => by rw [f2 _ (by omega)]; exact hn g (by omega) h5) (fun g h1 x hx2 => ?_)
        · by_cases e : g = k
          · subst e; exact Or.inr ⟨by omega, hrow⟩
          · rw [f2 _ (by omega)]
            rcases hx g h5 with h | h
            · exact Or.inl h
            · exact Or.inr ⟨by omega, h.2⟩
        · by_cases e : g = k
          · subst e; exact hrow x hx2
          · rw [f2 _ (by omega)]
            exact hdn g (by omega) x hx2
  have loop2 : ∀ d k (M' : qM), k + d = s 0 → M'.2 = M.2 → (∀ a, a ≠ 27 → M'.1 a = M.1 a) → M'.1 27 4 = goes s p 0 → (∀ g, g < 4 → M'.1 27 g = orTo (fun q => if goes s p 0 >>> q &&& 1 = 1 ∧ (g = 4 ∨ hears s p q = g) then 1 <<< q else 0) k) →
      T l hdX kX mX1_buildPlace (fun v M' => v = none ∧ M'.2 = M.2 ∧ (∀ a, a < 22 ∨ 27 < a → M'.1 a = M.1 a) ∧ ∀ g, g < 5 → ∀ x, x < 2 ^ (p + 1) → M'.1 (22 + g) x = gon s g x (p + 1)) 0 0 39 [some (.ref 20), some (.ref 1), some (.int (nI p)), some (.int (nI (goes s p 0))), some (.int (nI k))] [] M' := by
    intro d
    induction d with
    | zero =>
      intro k M' hk hF ha h4 ht
      have h0 : M'.1 1 0 = s 0 := by rw [ha 1 (by decide)]; exact hs.1
      have e : k = s 0 := by omega
      refine T.iload (pc' := 41) (q_d dX1_buildPlace_0 23 rfl) rfl rfl ?_
      refine T.aload_n (pc' := 42) (q_d dX1_buildPlace_0 24 rfl) rfl rfl rfl ?_
      refine T.getI (pc' := 45) (ci := 3) (k0 := 0) (q_d dX1_buildPlace_0 25 rfl) rfl rfl (by decide) rfl inX3 (by decide) rfl wF_X1_39 h0 ?_
      refine T.icmp_geN (tgt := 83) (pc' := 48) (q_d dX1_buildPlace_0 26 rfl) rfl (by decide) (by omega) (by omega) (fun h45 => ?_) (fun h45 => ?_)
      · refine T.iconst (pc' := 84) (v := nI 0) (q_d dX1_buildPlace_1 9 rfl) rfl (by decide) ?_
        refine T.istore (pc' := 86) (q_d dX1_buildPlace_1 10 rfl) rfl (by decide) rfl rfl ?_
        refine loop3 5 0 M' (by omega) hF (fun a h9 => ha a (by omega)) (fun g h5 => ?_) (fun g h5 => Or.inl (ha _ (by omega))) (fun g _ h5 => ha _ (by omega)) (fun g h1 => absurd h1 (by omega))
        by_cases e4 : g = 4
        · subst e4; rw [h4, tgt_4 hw hp]
        · rw [ht g (by omega), e]; rfl
      · exact absurd h45 (by omega)
    | succ d ih =>
      intro k M' hk hF ha h4 ht
      have hP' : M'.2.2 = pX pa sw := by rw [hF]; exact hP
      have h0 : M'.1 1 0 = s 0 := by rw [ha 1 (by decide)]; exact hs.1
      have hs' : RS M' 1 s := hs.mono (fun a h1 h2 => ha a (by omega))
      have g1 := and1_lt (goes s p 0 >>> k)
      have hh : hears s p k < 4 := hears_lt hw (by omega)
      refine T.iload (pc' := 41) (q_d dX1_buildPlace_0 23 rfl) rfl rfl ?_
      refine T.aload_n (pc' := 42) (q_d dX1_buildPlace_0 24 rfl) rfl rfl rfl ?_
      refine T.getI (pc' := 45) (ci := 3) (k0 := 0) (q_d dX1_buildPlace_0 25 rfl) rfl rfl (by decide) rfl inX3 (by decide) rfl wF_X1_39 h0 ?_
      refine T.icmp_geN (tgt := 83) (pc' := 48) (q_d dX1_buildPlace_0 26 rfl) rfl (by decide) (by omega) (by omega) (fun h45 => ?_) (fun h45 => ?_)
      · exact absurd h45 (by omega)
      · refine T.iload_n (pc' := 49) (q_d dX1_buildPlace_0 27 rfl) rfl rfl rfl ?_
        refine T.iload (pc' := 51) (q_d dX1_buildPlace_0 28 rfl) rfl rfl ?_
        refine T.ishr (pc' := 52) (q_d dX1_buildPlace_0 29 rfl) rfl (nN_shr (by omega) (by omega)) ?_
        refine T.iconst (pc' := 53) (v := nI 1) (q_d dX1_buildPlace_0 30 rfl) rfl (by decide) ?_
        refine T.iand (pc' := 54) (q_d dX1_buildPlace_0 31 rfl) rfl (nN_and _ _) ?_
        refine T.iconst (pc' := 55) (v := nI 1) (q_d dX1_buildPlace_0 32 rfl) rfl (by decide) ?_
        refine T.icmp_neN (tgt := 77) (pc' := 58) (q_d dX1_buildPlace_0 33 rfl) rfl (by decide) (by omega) (by omega) (fun h55 => ?_) (fun h55 => ?_)
        · refine T.iinc (pc' := 80) (q_d dX1_buildPlace_1 7 rfl) rfl rfl (nN_p _ 1) (by decide) rfl rfl ?_
          refine T.goto (tgt := 39) (q_d dX1_buildPlace_1 8 rfl) (by decide) ?_
          first
            | refine ih (k + 1) M' (by omega) hF ha h4 (fun g h5 => ?_)
              rw [ht g h5]
              simp only [orTo]
              rw [if_neg (fun h => h55 h.1), Nat.or_zero]
            | refine ih (k + 1) _ (by omega) hF (fun a h9 => ?_) ?_ (fun g h5 => ?_)
              · funext j; rw [qI_ne (Or.inl h9), ha a h9]
              · rw [qI_ne (Or.inr (by omega))]; exact h4
              · simp only [orTo]
                by_cases e : g = hears s p k
                · subst e
                  rw [qI_eq, if_pos ⟨h55, Or.inr rfl⟩]
                · rw [qI_ne (Or.inr e), ht g h5, if_neg (fun h => h.2.elim (by omega) (fun h2 => e h2.symm)), Nat.or_zero]
        · refine T.aload_n (pc' := 59) (q_d dX1_buildPlace_0 34 rfl) rfl rfl rfl ?_
          refine T.getR (pc' := 62) (ci := 1) (k0 := 1) (q_d dX1_buildPlace_0 35 rfl) rfl rfl (by decide) rfl inX1 (by decide) rfl wF_X1_16 (rP hP' rfl) ?_
          refine T.aload_n (pc' := 63) (q_d dX1_buildPlace_0 36 rfl) rfl rfl rfl ?_
          refine T.iload_n (pc' := 64) (q_d dX1_buildPlace_0 37 rfl) rfl rfl rfl ?_
          refine T.iload (pc' := 66) (q_d dX1_buildPlace_0 38 rfl) rfl rfl ?_
          refine T.callV (pc' := 69) (ci := 3) (q_d dX1_buildPlace_0 39 rfl) rfl uX3_signalOf wM_X1_54 (c_signalOf ho1 hP' hs' hw (show p < 7 by omega) (show k < 7 by omega)) rfl rfl (by decide) rfl rfl (by decide) (Nat.le_of_ble_eq_true rfl) rfl rfl (fun _ => rfl) ?_
          rintro _ _ ⟨rfl, rfl⟩
          dsimp only [Option.toList, List.cons_append, List.nil_append, List.append_nil]
          refine T.dup2 (pc' := 70) (q_d dX1_buildPlace_1 0 rfl) rfl rfl rfl ?_
          refine T.iald (pc' := 71) (q_d dX1_buildPlace_1 1 rfl) rfl rfl (by decide) rfl (by omega) (by decide) (ht _ hh) ?_
          refine T.iconst (pc' := 72) (v := nI 1) (q_d dX1_buildPlace_1 2 rfl) rfl (by decide) ?_
          refine T.iload (pc' := 74) (q_d dX1_buildPlace_1 3 rfl) rfl rfl ?_
          refine T.ishl (pc' := 75) (q_d dX1_buildPlace_1 4 rfl) rfl (nN_shl _ (by omega)) ?_
          refine T.ior (pc' := 76) (q_d dX1_buildPlace_1 5 rfl) rfl (nN_or _ _) ?_
          refine T.iast (pc' := 77) (q_d dX1_buildPlace_1 6 rfl) rfl rfl (by decide) rfl (by omega) (by decide) ?_
          refine T.iinc (pc' := 80) (q_d dX1_buildPlace_1 7 rfl) rfl rfl (nN_p _ 1) (by decide) rfl rfl ?_
          refine T.goto (tgt := 39) (q_d dX1_buildPlace_1 8 rfl) (by decide) ?_
          first
            | refine ih (k + 1) M' (by omega) hF ha h4 (fun g h5 => ?_)
              rw [ht g h5]
              simp only [orTo]
              rw [if_neg (fun h => h55 h.1), Nat.or_zero]
            | refine ih (k + 1) _ (by omega) hF (fun a h9 => ?_) ?_ (fun g h5 => ?_)
              · funext j; rw [qI_ne (Or.inl h9), ha a h9]
              · rw [qI_ne (Or.inr (by omega))]; exact h4
              · simp only [orTo]
                by_cases e : g = hears s p k
                · subst e
                  rw [qI_eq, if_pos ⟨h55, Or.inr rfl⟩]
                · rw [qI_ne (Or.inr e), ht g h5, if_neg (fun h => h.2.elim (by omega) (fun h2 => e h2.symm)), Nat.or_zero]
  have loop1 : ∀ d k (M' : qM), k + d = 4 → M'.2 = M.2 → (∀ a, a ≠ 27 → M'.1 a = M.1 a) → (∀ g, g < k → M'.1 27 g = 0) →
      T l hdX kX mX1_buildPlace (fun v M' => v = none ∧ M'.2 = M.2 ∧ (∀ a, a < 22 ∨ 27 < a → M'.1 a = M.1 a) ∧ ∀ g, g < 5 → ∀ x, x < 2 ^ (p + 1) → M'.1 (22 + g) x = gon s g x (p + 1)) 0 0 9 [some (.ref 20), some (.ref 1), some (.int (nI p)), some (.int (nI (goes s p 0))), some (.int (nI k))] [] M' := by
    intro d
    induction d with
    | zero =>
      intro k M' hk hF ha ht
      have hP' : M'.2.2 = pX pa sw := by rw [hF]; exact hP
      refine T.iload (pc' := 11) (q_d dX1_buildPlace_0 6 rfl) rfl rfl ?_
      refine T.iconst (pc' := 12) (v := nI 4) (q_d dX1_buildPlace_0 7 rfl) rfl (by decide) ?_
      refine T.icmp_geN (tgt := 29) (pc' := 15) (q_d dX1_buildPlace_0 8 rfl) rfl (by decide) (by omega) (by omega) (fun h12 => ?_) (fun h12 => ?_)
      · refine T.aload_n (pc' := 30) (q_d dX1_buildPlace_0 16 rfl) rfl rfl rfl ?_
        refine T.getR (pc' := 33) (ci := 1) (k0 := 1) (q_d dX1_buildPlace_0 17 rfl) rfl rfl (by decide) rfl inX1 (by decide) rfl wF_X1_16 (rP hP' rfl) ?_
        refine T.iconst (pc' := 34) (v := nI 4) (q_d dX1_buildPlace_0 18 rfl) rfl (by decide) ?_
        refine T.iload_n (pc' := 35) (q_d dX1_buildPlace_0 19 rfl) rfl rfl rfl ?_
        refine T.iast (pc' := 36) (q_d dX1_buildPlace_0 20 rfl) rfl rfl (by decide) rfl (by omega) (by decide) ?_
        refine T.iconst (pc' := 37) (v := nI 0) (q_d dX1_buildPlace_0 21 rfl) rfl (by decide) ?_
        refine T.istore (pc' := 39) (q_d dX1_buildPlace_0 22 rfl) rfl (by decide) rfl rfl ?_
        refine loop2 (s 0) 0 _ (by omega) hF (fun a h9 => ?_) qI_eq (fun g h5 => ?_)
        · funext j; rw [qI_ne (Or.inl h9), ha a h9]
        · rw [qI_ne (Or.inr (by omega)), ht g (by omega)]; rfl
      · exact absurd h12 (by omega)
    | succ d ih =>
      intro k M' hk hF ha ht
      have hP' : M'.2.2 = pX pa sw := by rw [hF]; exact hP
      refine T.iload (pc' := 11) (q_d dX1_buildPlace_0 6 rfl) rfl rfl ?_
      refine T.iconst (pc' := 12) (v := nI 4) (q_d dX1_buildPlace_0 7 rfl) rfl (by decide) ?_
      refine T.icmp_geN (tgt := 29) (pc' := 15) (q_d dX1_buildPlace_0 8 rfl) rfl (by decide) (by omega) (by omega) (fun h12 => ?_) (fun h12 => ?_)
      · exact absurd h12 (by omega)
      · refine T.aload_n (pc' := 16) (q_d dX1_buildPlace_0 9 rfl) rfl rfl rfl ?_
        refine T.getR (pc' := 19) (ci := 1) (k0 := 1) (q_d dX1_buildPlace_0 10 rfl) rfl rfl (by decide) rfl inX1 (by decide) rfl wF_X1_16 (rP hP' rfl) ?_
        refine T.iload (pc' := 21) (q_d dX1_buildPlace_0 11 rfl) rfl rfl ?_
        refine T.iconst (pc' := 22) (v := nI 0) (q_d dX1_buildPlace_0 12 rfl) rfl (by decide) ?_
        refine T.iast (pc' := 23) (q_d dX1_buildPlace_0 13 rfl) rfl rfl (by decide) rfl (by omega) (by decide) ?_
        refine T.iinc (pc' := 26) (q_d dX1_buildPlace_0 14 rfl) rfl rfl (nN_p _ 1) (by decide) rfl rfl ?_
        refine T.goto (tgt := 9) (q_d dX1_buildPlace_0 15 rfl) (by decide) ?_
        refine ih (k + 1) _ (by omega) hF (fun a h9 => ?_) (fun g h5 => ?_)
        · funext j; rw [qI_ne (Or.inl h9), ha a h9]
        · by_cases e : g = k
          · subst e; exact qI_eq
          · rw [qI_ne (Or.inr e)]; exact ht g (by omega)
  refine T.aload_n (pc' := 1) (q_d dX1_buildPlace_0 0 rfl) rfl rfl rfl ?_
  refine T.iload_n (pc' := 2) (q_d dX1_buildPlace_0 1 rfl) rfl rfl rfl ?_
  refine T.callV (pc' := 5) (ci := 3) (q_d dX1_buildPlace_0 2 rfl) rfl uX3_reach wM_X1_50 (c_reach ho1 hP hs hw hp) rfl rfl (by decide) rfl rfl (by decide) (Nat.le_of_ble_eq_true rfl) rfl rfl (fun _ => rfl) ?_
  rintro _ _ ⟨rfl, rfl⟩
  dsimp only [Option.toList, List.cons_append, List.nil_append, List.append_nil]
  refine T.istore_n (pc' := 6) (q_d dX1_buildPlace_0 3 rfl) rfl rfl (by decide) rfl rfl ?_
  refine T.iconst (pc' := 7) (v := nI 0) (q_d dX1_buildPlace_0 4 rfl) rfl (by decide) ?_
  refine T.istore (pc' := 9) (q_d dX1_buildPlace_0 5 rfl) rfl (by decide) rfl rfl ?_
  exact loop1 4 0 M (by omega) rfl (fun _ _ => rfl) (fun g h => absurd h (by omega))
theorem c_listChecks (hP : M.2.2 = pX pa sw) (hw : WF b s) (h4 : M.1 20 4 = 2 ^ s 0) : Ct l hdX kX mX1_listChecks [.ref 20, .int (nI (s 6))] M (fun v M' => v = none ∧ M'.2 = M.2 ∧ (∀ a, a ≠ 20 ∧ a ≠ 28 → M'.1 a = M.1 a) ∧ (∀ j, j ≠ 3 → M'.1 20 j = M.1 20 j) ∧ M'.1 20 3 = (ckN s (2 ^ s 0)).length ∧ ∀ i c, (ckN s (2 ^ s 0))[i]? = some c → M'.1 28 i = c) := by
  refine Ct.of [some (.ref 20), some (.int (nI (s 6))), none] (by decide +kernel) (fun h => absurd h (by decide)) (Nat.le_of_ble_eq_true rfl) rfl ?_
  have w0 := p2_le hw.1
  have w6 := hw.2.2.2.2.2.1
  have loop : ∀ d k (M' : qM), k + d = 2 ^ s 0 → M'.2 = M.2 → (∀ a, a ≠ 20 ∧ a ≠ 28 → M'.1 a = M.1 a) → (∀ j, j ≠ 3 → M'.1 20 j = M.1 20 j) → M'.1 20 3 = (ckN s k).length → (∀ i c, (ckN s k)[i]? = some c → M'.1 28 i = c) →
      T l hdX kX mX1_listChecks (fun v M' => v = none ∧ M'.2 = M.2 ∧ (∀ a, a ≠ 20 ∧ a ≠ 28 → M'.1 a = M.1 a) ∧ (∀ j, j ≠ 3 → M'.1 20 j = M.1 20 j) ∧ M'.1 20 3 = (ckN s (2 ^ s 0)).length ∧ ∀ i c, (ckN s (2 ^ s 0))[i]? = some c → M'.1 28 i = c) 0 0 7 [some (.ref 20), some (.int (nI (s 6))), some (.int (nI k))] [] M' := by
    intro d
    induction d with
    | zero =>
      intro k M' hk hF ha hj h3 hc
      have e : k = 2 ^ s 0 := by omega
      subst e
      have h9 : M'.1 20 4 = 2 ^ s 0 := (hj 4 (by decide)).trans h4
      refine T.iload_n (pc' := 8) (q_d dX1_listChecks_0 5 rfl) rfl rfl rfl ?_
      refine T.aload_n (pc' := 9) (q_d dX1_listChecks_0 6 rfl) rfl rfl rfl ?_
      refine T.getI (pc' := 12) (ci := 1) (k0 := 4) (q_d dX1_listChecks_0 7 rfl) rfl rfl (by decide) rfl inX1 (by decide) rfl wF_X1_29 h9 ?_
      refine T.icmp_geN (tgt := 49) (pc' := 15) (q_d dX1_listChecks_0 8 rfl) rfl (by decide) (by omega) (by omega) (fun h12 => ?_) (fun h12 => ?_)
      · refine T.vret (q_d dX1_listChecks_0 27 rfl) rfl rfl rfl ?_
        exact ⟨rfl, hF, ha, hj, h3, hc⟩
      · exact absurd h12 (by omega)
    | succ d ih =>
      intro k M' hk hF ha hj h3 hc
      have hP' : M'.2.2 = pX pa sw := by rw [hF]; exact hP
      have h9 : M'.1 20 4 = 2 ^ s 0 := (hj 4 (by decide)).trans h4
      have hl : (ckN s k).length ≤ k := by
        refine Nat.le_trans (List.length_filter_le _ _) ?_
        rw [List.length_range]; exact Nat.le_refl _
      have g7 := ones_le k
      have hnx : ckN s (k + 1) = ckN s k ++ (if ones k ≤ s 6 then [k] else []) := by
        unfold ckN
        rw [List.range_succ, List.filter_append]
        congr 1
        by_cases e : ones k ≤ s 6 <;> simp [e]
      refine T.iload_n (pc' := 8) (q_d dX1_listChecks_0 5 rfl) rfl rfl rfl ?_
      refine T.aload_n (pc' := 9) (q_d dX1_listChecks_0 6 rfl) rfl rfl rfl ?_
      refine T.getI (pc' := 12) (ci := 1) (k0 := 4) (q_d dX1_listChecks_0 7 rfl) rfl rfl (by decide) rfl inX1 (by decide) rfl wF_X1_29 h9 ?_
      refine T.icmp_geN (tgt := 49) (pc' := 15) (q_d dX1_listChecks_0 8 rfl) rfl (by decide) (by omega) (by omega) (fun h12 => ?_) (fun h12 => ?_)
      · exact absurd h12 (by omega)
      · refine T.iload_n (pc' := 16) (q_d dX1_listChecks_0 9 rfl) rfl rfl rfl ?_
        refine T.callS (pc' := 19) (q_d dX1_listChecks_0 10 rfl) rfl uJ6_bitCount_0f7a4 wM_X1_65 (c_bitCount (show k < 128 by omega)) rfl rfl (by decide) (Nat.le_of_ble_eq_true rfl) rfl rfl (fun _ => rfl) ?_
        rintro _ _ ⟨rfl, rfl⟩
        dsimp only [Option.toList, List.cons_append, List.nil_append, List.append_nil]
        refine T.iload_n (pc' := 20) (q_d dX1_listChecks_0 11 rfl) rfl rfl rfl ?_
        refine T.icmp_gtN (tgt := 43) (pc' := 23) (q_d dX1_listChecks_0 12 rfl) rfl (by decide) (by omega) (by omega) (fun h20 => ?_) (fun h20 => ?_)
        · refine T.iinc (pc' := 46) (q_d dX1_listChecks_0 25 rfl) rfl rfl (nN_p _ 1) (by decide) rfl rfl ?_
          refine T.goto (tgt := 7) (q_d dX1_listChecks_0 26 rfl) (by decide) ?_
          first
            | refine ih (k + 1) M' (by omega) hF ha hj ?_ ?_
              · rw [hnx, if_neg (by omega), List.append_nil]; exact h3
              · rw [hnx, if_neg (by omega), List.append_nil]; exact hc
            | refine ih (k + 1) _ (by omega) hF (fun a h => ?_) (fun j h => ?_) ?_ ?_
              · funext j; rw [qI_ne (Or.inl h.1), qI_ne (Or.inl h.2), ha a h]
              · rw [qI_ne (Or.inr h), qI_ne (Or.inl (by decide)), hj j h]
              · rw [qI_eq, hnx, if_pos h20, List.length_append]; rfl
              · rw [hnx, if_pos h20]
                intro i c hic
                rw [qI_ne (Or.inl (by decide))]
                by_cases e : i < (ckN s k).length
                · rw [List.getElem?_append_left e] at hic
                  rw [qI_ne (Or.inr (by omega))]
                  exact hc i c hic
                · rw [List.getElem?_append_right (by omega)] at hic
                  have h8 : i - (ckN s k).length = 0 := by
                    have := (List.getElem?_eq_some_iff.mp hic).1
                    simpa using this
                  rw [h8] at hic
                  cases hic
                  rw [show i = (ckN s k).length by omega, qI_eq]
        · refine T.aload_n (pc' := 24) (q_d dX1_listChecks_0 13 rfl) rfl rfl rfl ?_
          refine T.getR (pc' := 27) (ci := 1) (k0 := 2) (q_d dX1_listChecks_0 14 rfl) rfl rfl (by decide) rfl inX1 (by decide) rfl wF_X1_20 (rP hP' rfl) ?_
          refine T.aload_n (pc' := 28) (q_d dX1_listChecks_0 15 rfl) rfl rfl rfl ?_
          refine T.getI (pc' := 31) (ci := 1) (k0 := 3) (q_d dX1_listChecks_0 16 rfl) rfl rfl (by decide) rfl inX1 (by decide) rfl wF_X1_62 h3 ?_
          refine T.iload_n (pc' := 32) (q_d dX1_listChecks_0 17 rfl) rfl rfl rfl ?_
          refine T.iast (pc' := 33) (q_d dX1_listChecks_0 18 rfl) rfl rfl (by decide) rfl (by omega) (by decide) ?_
          refine T.aload_n (pc' := 34) (q_d dX1_listChecks_0 19 rfl) rfl rfl rfl ?_
          refine T.dup (pc' := 35) (q_d dX1_listChecks_0 20 rfl) rfl rfl ?_
          refine T.getI (pc' := 38) (ci := 1) (k0 := 3) (q_d dX1_listChecks_0 21 rfl) rfl rfl (by decide) rfl inX1 (by decide) rfl wF_X1_62 ((qI_ne (Or.inl (by decide))).trans h3) ?_
          refine T.iconst (pc' := 39) (v := nI 1) (q_d dX1_listChecks_0 22 rfl) rfl (by decide) ?_
          refine T.iadd (pc' := 40) (q_d dX1_listChecks_0 23 rfl) rfl (nI_add _ _) ?_
          refine T.putI (pc' := 43) (ci := 1) (k0 := 3) (q_d dX1_listChecks_0 24 rfl) rfl rfl (by decide) rfl inX1 tyX1 tyX1_ok nmX1 (by decide) rfl wF_X1_62 rfl rfl rfl ?_
          refine T.iinc (pc' := 46) (q_d dX1_listChecks_0 25 rfl) rfl rfl (nN_p _ 1) (by decide) rfl rfl ?_
          refine T.goto (tgt := 7) (q_d dX1_listChecks_0 26 rfl) (by decide) ?_
          first
            | refine ih (k + 1) M' (by omega) hF ha hj ?_ ?_
              · rw [hnx, if_neg (by omega), List.append_nil]; exact h3
              · rw [hnx, if_neg (by omega), List.append_nil]; exact hc
            | refine ih (k + 1) _ (by omega) hF (fun a h => ?_) (fun j h => ?_) ?_ ?_
              · funext j; rw [qI_ne (Or.inl h.1), qI_ne (Or.inl h.2), ha a h]
              · rw [qI_ne (Or.inr h), qI_ne (Or.inl (by decide)), hj j h]
              · rw [qI_eq, hnx, if_pos h20, List.length_append]; rfl
              · rw [hnx, if_pos h20]
                intro i c hic
                rw [qI_ne (Or.inl (by decide))]
                by_cases e : i < (ckN s k).length
                · rw [List.getElem?_append_left e] at hic
                  rw [qI_ne (Or.inr (by omega))]
                  exact hc i c hic
                · rw [List.getElem?_append_right (by omega)] at hic
                  have h8 : i - (ckN s k).length = 0 := by
                    have := (List.getElem?_eq_some_iff.mp hic).1
                    simpa using this
                  rw [h8] at hic
                  cases hic
                  rw [show i = (ckN s k).length by omega, qI_eq]
  refine T.aload_n (pc' := 1) (q_d dX1_listChecks_0 0 rfl) rfl rfl rfl ?_
  refine T.iconst (pc' := 2) (v := nI 0) (q_d dX1_listChecks_0 1 rfl) rfl (by decide) ?_
  refine T.putI (pc' := 5) (ci := 1) (k0 := 3) (q_d dX1_listChecks_0 2 rfl) rfl rfl (by decide) rfl inX1 tyX1 tyX1_ok nmX1 (by decide) rfl wF_X1_62 rfl rfl rfl ?_
  refine T.iconst (pc' := 6) (v := nI 0) (q_d dX1_listChecks_0 3 rfl) rfl (by decide) ?_
  refine T.istore_n (pc' := 7) (q_d dX1_listChecks_0 4 rfl) rfl rfl (by decide) rfl rfl ?_
  refine loop (2 ^ s 0) 0 _ (by omega) rfl (fun a h => ?_) (fun j h => ?_) ?_ (fun i c h => ?_)
  · funext j; rw [qI_ne (Or.inl h.1)]
  · rw [qI_ne (Or.inr h)]
  · rw [qI_eq]; rfl
  · simp [ckN] at h
end CX1
