/-! BlindHunts$Moves: the tables -/
/-- the checks below n that the budget allows -/
def ckN (s : Nat → Nat) (n : Nat) : List Nat := (List.range n).filter (fun c => decide (ones c ≤ s 6))
/-- the tables stand for s -/
def RT (M : qM) (s : Nat → Nat) : Prop :=
  (∀ g, g < 5 → ∀ b, b < 2 ^ s 0 → M.1 (22 + g) b = gon s g b (s 0)) ∧ M.1 20 5 = (if s 4 = 3 then 1 else 0) ∧ M.1 20 4 = 2 ^ s 0 ∧ M.1 20 3 = (ckN s (2 ^ s 0)).length ∧ ∀ i c, (ckN s (2 ^ s 0))[i]? = some c → M.1 28 i = c
theorem RT.mono {M M' : qM} {s : Nat → Nat} (h : RT M s) (he : ∀ a, 20 ≤ a → a ≤ 28 → M'.1 a = M.1 a) : RT M' s := by
  obtain ⟨h1, h2, h3, h4, h5⟩ := h
  refine ⟨fun g hg b hb => ?_, ?_, ?_, ?_, fun i c hc => ?_⟩
  · rw [he (22 + g) (by omega) (by omega)]; exact h1 g hg b hb
  · rw [he 20 (by omega) (by omega)]; exact h2
  · rw [he 20 (by omega) (by omega)]; exact h3
  · rw [he 20 (by omega) (by omega)]; exact h4
  · rw [he 28 (by omega) (by omega)]; exact h5 i c hc
theorem or_two {a n : Nat} (h : a < 2 ^ n) : a ||| 1 <<< n = a + 2 ^ n := by
  rw [Nat.one_shiftLeft, Nat.or_comm, Nat.add_comm]
  exact (Nat.two_pow_add_eq_or_of_lt h 1 |> fun e => by simpa using e.symm)
section CX1
variable {l : Launch} {M : qM} {b : Nat} {s : Nat → Nat} {pa : Nat → Nat} {sw : Bool}
theorem c_after (hP : M.2.2 = pX pa sw) (hw : WF b s) (hT : RT M s) {x c g : Nat} (hx : x < 2 ^ s 0) (hg : g < 5) : Ct l hdX kX mX1_after [.ref 20, .int (nI x), .int (nI c), .int (nI g)] M (RI M (thn s x c g)) := by
  refine Ct.of [some (.ref 20), some (.int (nI x)), some (.int (nI c)), some (.int (nI g)), none] (by decide +kernel) (fun h => absurd h (by decide)) (Nat.le_of_ble_eq_true rfl) rfl ?_
  rw [← aft_eq hw]
  have w0 := p2_le hw.1
  have d0 : dif x c < 2 ^ s 0 := dif_lt hx
  have hsh := hT.2.1
  refine T.aload_n (pc' := 1) (q_d dX1_after_0 0 rfl) rfl rfl rfl ?_
  refine T.getR (pc' := 4) (ci := 1) (k0 := 0) (q_d dX1_after_0 1 rfl) rfl rfl (by decide) rfl inX1 (by decide) rfl wF_X1_11 (rP hP rfl) ?_
  refine T.iload_n (pc' := 5) (q_d dX1_after_0 2 rfl) rfl rfl rfl ?_
  refine T.qald (pc' := 6) (q_d dX1_after_0 3 rfl) rfl (Or.inr rfl) rfl (by decide) rfl (by omega) (by decide) (rP hP (pX_21 hg)) ?_
  refine T.iload_n (pc' := 7) (q_d dX1_after_0 4 rfl) rfl rfl rfl ?_
  refine T.iload_n (pc' := 8) (q_d dX1_after_0 5 rfl) rfl rfl rfl ?_
  refine T.iconst (pc' := 9) (v := nI 4294967295) (q_d dX1_after_0 6 rfl) rfl (by decide) ?_
  refine T.ixor (pc' := 10) (q_d dX1_after_0 7 rfl) rfl (nN_xor _ _) ?_
  refine T.iand (pc' := 11) (q_d dX1_after_0 8 rfl) rfl (nN_and _ _) ?_
  refine T.iald (pc' := 12) (q_d dX1_after_0 9 rfl) rfl (hd_row hg) (by omega) rfl (show dif x c < 128 by omega) (by decide) (hT.1 g hg _ d0) ?_
  refine T.istore (pc' := 14) (q_d dX1_after_0 10 rfl) rfl (by decide) rfl rfl ?_
  refine T.aload_n (pc' := 15) (q_d dX1_after_0 11 rfl) rfl rfl rfl ?_
  refine T.getI (pc' := 18) (ci := 1) (k0 := 5) (q_d dX1_after_0 12 rfl) rfl rfl (by decide) rfl inX1 (by decide) rfl wF_X1_35 hsh ?_
  refine T.if_eqN (tgt := 30) (pc' := 21) (q_d dX1_after_0 13 rfl) rfl (by decide) (by split <;> decide) (fun h18 => ?_) (fun h18 => ?_)
  · refine T.iload (pc' := 32) (q_d dX1_after_0 20 rfl) rfl rfl ?_
    refine T.iret (q_d dX1_after_0 21 rfl) rfl rfl rfl ?_
    refine ⟨rfl, ?_⟩
    unfold aft
    by_cases e : s 4 = 3
    · first | (rw [if_pos e]; rfl) | (rw [if_pos e] at h18; cases h18)
    · first | (rw [if_neg e] at h18; exact absurd rfl h18) | rw [if_neg e]
  · refine T.iload (pc' := 23) (q_d dX1_after_0 14 rfl) rfl rfl ?_
    refine T.iload_n (pc' := 24) (q_d dX1_after_0 15 rfl) rfl rfl rfl ?_
    refine T.iconst (pc' := 25) (v := nI 4294967295) (q_d dX1_after_0 16 rfl) rfl (by decide) ?_
    refine T.ixor (pc' := 26) (q_d dX1_after_0 17 rfl) rfl (nN_xor _ _) ?_
    refine T.iand (pc' := 27) (q_d dX1_after_0 18 rfl) rfl (nN_and _ _) ?_
    refine T.goto (tgt := 32) (q_d dX1_after_0 19 rfl) (by decide) ?_
    refine T.iret (q_d dX1_after_0 21 rfl) rfl rfl rfl ?_
    refine ⟨rfl, ?_⟩
    unfold aft
    by_cases e : s 4 = 3
    · first | (rw [if_pos e]; rfl) | (rw [if_pos e] at h18; cases h18)
    · first | (rw [if_neg e] at h18; exact absurd rfl h18) | rw [if_neg e]
theorem c_spread (hP : M.2.2 = pX pa sw) {g p : Nat} (hg : g < 5) (hp : p < 7) : Ct l hdX kX mX1_spread [.ref 20, .int (nI g), .int (nI (1 <<< p))] M (fun v M' => v = none ∧ M'.2 = M.2 ∧ (∀ a, a ≠ 22 + g → M'.1 a = M.1 a) ∧ ∀ x, M'.1 (22 + g) x = if 2 ^ p ≤ x ∧ x < 2 ^ p + 2 ^ p then M.1 (22 + g) (x - 2 ^ p) ||| M.1 27 g else M.1 (22 + g) x) := by
  refine Ct.of [some (.ref 20), some (.int (nI g)), some (.int (nI (1 <<< p))), none] (by decide +kernel) (fun h => absurd h (by decide)) (Nat.le_of_ble_eq_true rfl) rfl ?_
  have w0 : 2 ^ p ≤ 64 := Nat.le_trans (Nat.pow_le_pow_right (by decide) (by omega : p ≤ 6)) (by decide)
  rw [Nat.one_shiftLeft]
  have loop : ∀ d k (M' : qM), k + d = 2 ^ p → M'.2 = M.2 → (∀ a, a ≠ 22 + g → M'.1 a = M.1 a) → (∀ x, M'.1 (22 + g) x = if 2 ^ p ≤ x ∧ x < 2 ^ p + k then M.1 (22 + g) (x - 2 ^ p) ||| M.1 27 g else M.1 (22 + g) x) →
      T l hdX kX mX1_spread (fun v M' => v = none ∧ M'.2 = M.2 ∧ (∀ a, a ≠ 22 + g → M'.1 a = M.1 a) ∧ ∀ x, M'.1 (22 + g) x = if 2 ^ p ≤ x ∧ x < 2 ^ p + 2 ^ p then M.1 (22 + g) (x - 2 ^ p) ||| M.1 27 g else M.1 (22 + g) x) 0 0 2 [some (.ref 20), some (.int (nI g)), some (.int (nI (2 ^ p))), some (.int (nI k))] [] M' := by
    intro d
    induction d with
    | zero =>
      intro k M' hk hF ha hx
      have e : k = 2 ^ p := by omega
      subst e
      refine T.iload_n (pc' := 3) (q_d dX1_spread_0 2 rfl) rfl rfl rfl ?_
      refine T.iload_n (pc' := 4) (q_d dX1_spread_0 3 rfl) rfl rfl rfl ?_
      refine T.icmp_geN (tgt := 38) (pc' := 7) (q_d dX1_spread_0 4 rfl) rfl (by decide) (by omega) (by omega) (fun h4 => ?_) (fun h4 => ?_)
      · refine T.vret (q_d dX1_spread_0 26 rfl) rfl rfl rfl ?_
        exact ⟨rfl, hF, ha, hx⟩
      · exact absurd h4 (by omega)
    | succ d ih =>
      intro k M' hk hF ha hx
      have hP' : M'.2.2 = pX pa sw := by rw [hF]; exact hP
      have e1 : k ||| 2 ^ p = k + 2 ^ p := by rw [← Nat.one_shiftLeft]; rw [or_two (by omega), Nat.one_shiftLeft]
      have e2 : M'.1 (22 + g) k = M.1 (22 + g) k := by rw [hx, if_neg (by omega)]
      have e3 : M'.1 27 g = M.1 27 g := by rw [ha 27 (by omega)]
      refine T.iload_n (pc' := 3) (q_d dX1_spread_0 2 rfl) rfl rfl rfl ?_
      refine T.iload_n (pc' := 4) (q_d dX1_spread_0 3 rfl) rfl rfl rfl ?_
      refine T.icmp_geN (tgt := 38) (pc' := 7) (q_d dX1_spread_0 4 rfl) rfl (by decide) (by omega) (by omega) (fun h4 => ?_) (fun h4 => ?_)
      · exact absurd h4 (by omega)
      · refine T.aload_n (pc' := 8) (q_d dX1_spread_0 5 rfl) rfl rfl rfl ?_
        refine T.getR (pc' := 11) (ci := 1) (k0 := 0) (q_d dX1_spread_0 6 rfl) rfl rfl (by decide) rfl inX1 (by decide) rfl wF_X1_11 (rP hP' rfl) ?_
        refine T.iload_n (pc' := 12) (q_d dX1_spread_0 7 rfl) rfl rfl rfl ?_
        refine T.qald (pc' := 13) (q_d dX1_spread_0 8 rfl) rfl (Or.inr rfl) rfl (by decide) rfl (by omega) (by decide) (rP hP' (pX_21 hg)) ?_
        refine T.iload_n (pc' := 14) (q_d dX1_spread_0 9 rfl) rfl rfl rfl ?_
        refine T.iload_n (pc' := 15) (q_d dX1_spread_0 10 rfl) rfl rfl rfl ?_
        refine T.ior (pc' := 16) (q_d dX1_spread_0 11 rfl) rfl ((nN_or _ _).trans (by rw [e1])) ?_
        refine T.aload_n (pc' := 17) (q_d dX1_spread_0 12 rfl) rfl rfl rfl ?_
        refine T.getR (pc' := 20) (ci := 1) (k0 := 0) (q_d dX1_spread_0 13 rfl) rfl rfl (by decide) rfl inX1 (by decide) rfl wF_X1_11 (rP hP' rfl) ?_
        refine T.iload_n (pc' := 21) (q_d dX1_spread_0 14 rfl) rfl rfl rfl ?_
        refine T.qald (pc' := 22) (q_d dX1_spread_0 15 rfl) rfl (Or.inr rfl) rfl (by decide) rfl (by omega) (by decide) (rP hP' (pX_21 hg)) ?_
        refine T.iload_n (pc' := 23) (q_d dX1_spread_0 16 rfl) rfl rfl rfl ?_
        refine T.iald (pc' := 24) (q_d dX1_spread_0 17 rfl) rfl (hd_row hg) (by omega) rfl (by omega) (by decide) e2 ?_
        refine T.aload_n (pc' := 25) (q_d dX1_spread_0 18 rfl) rfl rfl rfl ?_
        refine T.getR (pc' := 28) (ci := 1) (k0 := 1) (q_d dX1_spread_0 19 rfl) rfl rfl (by decide) rfl inX1 (by decide) rfl wF_X1_16 (rP hP' rfl) ?_
        refine T.iload_n (pc' := 29) (q_d dX1_spread_0 20 rfl) rfl rfl rfl ?_
        refine T.iald (pc' := 30) (q_d dX1_spread_0 21 rfl) rfl rfl (by decide) rfl (by omega) (by decide) e3 ?_
        refine T.ior (pc' := 31) (q_d dX1_spread_0 22 rfl) rfl (nN_or _ _) ?_
        refine T.iast (pc' := 32) (q_d dX1_spread_0 23 rfl) rfl (hd_row hg) (by omega) rfl (by omega) (by decide) ?_
        refine T.iinc (pc' := 35) (q_d dX1_spread_0 24 rfl) rfl rfl (nN_p _ 1) (by decide) rfl rfl ?_
        refine T.goto (tgt := 2) (q_d dX1_spread_0 25 rfl) (by decide) ?_
        refine ih (k + 1) _ (by omega) hF (fun a h9 => ?_) (fun x => ?_)
        · funext j; rw [qI_ne (Or.inl h9), ha a h9]
        · by_cases e : x = k + 2 ^ p
          · subst e
            rw [qI_eq, if_pos (by omega), show k + 2 ^ p - 2 ^ p = k by omega]
          · rw [qI_ne (Or.inr e), hx]
            by_cases h8 : 2 ^ p ≤ x ∧ x < 2 ^ p + k
            · rw [if_pos h8, if_pos (by omega)]
            · rw [if_neg h8, if_neg (by omega)]
  refine T.iconst (pc' := 1) (v := nI 0) (q_d dX1_spread_0 0 rfl) rfl (by decide) ?_
  refine T.istore_n (pc' := 2) (q_d dX1_spread_0 1 rfl) rfl rfl (by decide) rfl rfl ?_
  exact loop (2 ^ p) 0 M (by omega) rfl (fun _ _ => rfl) (fun x => by rw [if_neg (by omega)])
end CX1
