/-! the reference: the rounds that beliefs need -/
def ZO (z g0 g1 : Nat) : Prop := (z = 1 ∧ g0 = 0 ∧ g1 = 3) ∨ (z = 0 ∧ g0 = 4 ∧ g1 = 4)
def enF (s nd : Nat → Nat) (lv x c : Nat) : Nat → Bool
  | 0 => true
  | g + 1 => enF s nd lv x c g && decide (nd (thn s x c g) < lv)
theorem enF_iff {s nd : Nat → Nat} {lv x c : Nat} : ∀ g, enF s nd lv x c g = true ↔ ∀ g', g' < g → nd (thn s x c g') < lv
  | 0 => by simp [enF]
  | g + 1 => by
    rw [enF, Bool.and_eq_true, enF_iff g, decide_eq_true_eq]
    constructor
    · rintro ⟨h1, h2⟩ g' hg'
      by_cases e : g' = g
      · rw [e]; exact h2
      · exact h1 g' (by omega)
    · intro h
      exact ⟨fun g' hg' => h g' (by omega), h g (by omega)⟩
theorem b01_ne {p : Bool} (h : (if p = true then (1 : Nat) else 0) ≠ 0) : p = true := by cases p <;> simp_all
theorem b01_eq {p : Bool} (h : (if p = true then (1 : Nat) else 0) = 0) : p = false := by cases p <;> simp_all
section CM5
variable {l : Launch} {M M' : qM} {b b' : Nat} {s s' : Nat → Nat} {k : Nat} {was : Nat → Nat → Nat} {n : Nat} {t : Nat → Nat}
theorem m_isEnough (hX : RM M b s k was n t) {nd : Nat → Nat} (hn : ∀ y, y < 2 ^ s 0 → M.1 6 y = nd y) (hnl : ∀ y, nd y < 2 ^ 31) {x c lv z g0 g1 : Nat} (hx : x < 2 ^ s 0) (hl : lv < 2 ^ 31) (hz : ZO z g0 g1) : Ct l hdM kM mX6_isEnough [.ref 0, .int (nI x), .int (nI c), .int (nI lv), .int (nI z)] M (RI M (if enough s nd g0 g1 lv x c = true then 1 else 0)) := by
  refine Ct.of [some (.ref 0), some (.int (nI x)), some (.int (nI c)), some (.int (nI lv)), some (.int (nI z)), none, none] (by decide +kernel) (fun h => absurd h (by decide)) (Nat.le_of_ble_eq_true rfl) rfl ?_
  have w7 := hX.2.2.1.1
  have w0 := p2_le w7
  rcases hz with ⟨rfl, rfl, rfl⟩ | ⟨rfl, rfl, rfl⟩
  · have ee : enough s nd 0 3 lv x c = enF s nd lv x c 4 := by
      rw [Bool.eq_iff_iff, enough_iff (by decide), enF_iff]
      exact ⟨fun h g hg => h g (by omega) (by omega), fun h g _ hg => h g (by omega)⟩
    rw [ee]
    have loop : ∀ d g, g + d = 4 → T l hdM kM mX6_isEnough (RI M (if enF s nd lv x c 4 = true then 1 else 0)) 0 0 15 [some (.ref 0), some (.int (nI x)), some (.int (nI c)), some (.int (nI lv)), some (.int (nI 1)), some (.int (nI (if enF s nd lv x c g = true then 1 else 0))), some (.int (nI g))] [] M := by
      intro d
      induction d with
      | zero =>
        intro g hg
        have e : g = 4 := by omega
        subst e
        refine T.iload (pc' := 17) (q_d dX6_isEnough_0 8 rfl) rfl rfl ?_
        refine T.iload (pc' := 19) (q_d dX6_isEnough_0 9 rfl) rfl rfl ?_
        refine T.if_eqN (tgt := 26) (pc' := 22) (q_d dX6_isEnough_0 10 rfl) rfl (by decide) (by decide) (fun h19 => ?_) (fun h19 => ?_)
        · exact absurd h19 (by decide)
        · refine T.iconst (pc' := 23) (v := nI 3) (q_d dX6_isEnough_0 11 rfl) rfl (by decide) ?_
          refine T.goto (tgt := 27) (q_d dX6_isEnough_0 12 rfl) (by decide) ?_
          refine T.icmp_gtN (tgt := 65) (pc' := 30) (q_d dX6_isEnough_0 14 rfl) rfl (by decide) (by omega) (by omega) (fun h27 => ?_) (fun h27 => ?_)
          · refine T.iload (pc' := 67) (q_d dX6_isEnough_0 33 rfl) rfl rfl ?_
            refine T.zret (q_d dX6_isEnough_0 34 rfl) rfl (nar_if _) rfl rfl ?_
            exact ⟨rfl, rfl⟩
          · exact absurd h27 (by omega)
      | succ d ih =>
        intro g hg
        have tl := thn_lt (s := s) (b := x) (c := c) (g := g) w7
        have hng := hn (thn s x c g) tl
        have hnl9 := hnl (thn s x c g)
        refine T.iload (pc' := 17) (q_d dX6_isEnough_0 8 rfl) rfl rfl ?_
        refine T.iload (pc' := 19) (q_d dX6_isEnough_0 9 rfl) rfl rfl ?_
        refine T.if_eqN (tgt := 26) (pc' := 22) (q_d dX6_isEnough_0 10 rfl) rfl (by decide) (by decide) (fun h19 => ?_) (fun h19 => ?_)
        · exact absurd h19 (by decide)
        · refine T.iconst (pc' := 23) (v := nI 3) (q_d dX6_isEnough_0 11 rfl) rfl (by decide) ?_
          refine T.goto (tgt := 27) (q_d dX6_isEnough_0 12 rfl) (by decide) ?_
          refine T.icmp_gtN (tgt := 65) (pc' := 30) (q_d dX6_isEnough_0 14 rfl) rfl (by decide) (by omega) (by omega) (fun h27 => ?_) (fun h27 => ?_)
          · exact absurd h27 (by omega)
          · refine T.iload (pc' := 32) (q_d dX6_isEnough_0 15 rfl) rfl rfl ?_
            refine T.if_eqN (tgt := 56) (pc' := 35) (q_d dX6_isEnough_0 16 rfl) rfl (by decide) (by split <;> decide) (fun h32 => ?_) (fun h32 => ?_)
            · refine T.iconst (pc' := 57) (v := nI 0) (q_d dX6_isEnough_0 29 rfl) rfl (by decide) ?_
              refine T.istore (pc' := 59) (q_d dX6_isEnough_0 30 rfl) rfl (by decide) rfl rfl ?_
              refine T.iinc (pc' := 62) (q_d dX6_isEnough_0 31 rfl) rfl rfl (nN_p _ 1) (by decide) rfl rfl ?_
              refine T.goto (tgt := 15) (q_d dX6_isEnough_0 32 rfl) (by decide) ?_
              first
                | (have e9 : enF s nd lv x c (g + 1) = false := by rw [enF, b01_eq h32]; rfl
                   have h := ih (g + 1) (by omega)
                   rw [e9] at h; exact h)
                | (have e9 : enF s nd lv x c (g + 1) = false := by rw [enF, decide_eq_false (show ¬ nd (thn s x c g) < lv by omega), Bool.and_false]
                   have h := ih (g + 1) (by omega)
                   rw [e9] at h; exact h)
                | (have e9 : enF s nd lv x c (g + 1) = true := by rw [enF, b01_ne h32, decide_eq_true (show nd (thn s x c g) < lv by omega)]; rfl
                   have h := ih (g + 1) (by omega)
                   rw [e9] at h; exact h)
            · refine T.aload_n (pc' := 36) (q_d dX6_isEnough_0 17 rfl) rfl rfl rfl ?_
              refine T.getR (pc' := 39) (ci := 6) (k0 := 10) (q_d dX6_isEnough_0 18 rfl) rfl rfl (by decide) rfl inX6 (by decide) rfl wF_X6_26 (rP hX.1 rfl) ?_
              refine T.aload_n (pc' := 40) (q_d dX6_isEnough_0 19 rfl) rfl rfl rfl ?_
              refine T.iload_n (pc' := 41) (q_d dX6_isEnough_0 20 rfl) rfl rfl rfl ?_
              refine T.iload_n (pc' := 42) (q_d dX6_isEnough_0 21 rfl) rfl rfl rfl ?_
              refine T.iload (pc' := 44) (q_d dX6_isEnough_0 22 rfl) rfl rfl ?_
              refine T.callV (pc' := 47) (ci := 6) (q_d dX6_isEnough_0 23 rfl) rfl uX6_then wM_X6_84 (m_then hX hx (Or.inr ⟨rfl, show g < 4 by omega⟩)) rfl rfl (by decide) rfl rfl (by decide) (Nat.le_of_ble_eq_true rfl) rfl rfl (fun _ => rfl) ?_
              rintro _ _ ⟨rfl, rfl⟩
              dsimp only [Option.toList, List.cons_append, List.nil_append, List.append_nil]
              refine T.iald (pc' := 48) (q_d dX6_isEnough_0 24 rfl) rfl rfl (by decide) rfl (by omega) (by decide) hng ?_
              refine T.iload_n (pc' := 49) (q_d dX6_isEnough_0 25 rfl) rfl rfl rfl ?_
              refine T.icmp_geN (tgt := 56) (pc' := 52) (q_d dX6_isEnough_0 26 rfl) rfl (by decide) (by omega) (by omega) (fun h49 => ?_) (fun h49 => ?_)
              · refine T.iconst (pc' := 57) (v := nI 0) (q_d dX6_isEnough_0 29 rfl) rfl (by decide) ?_
                refine T.istore (pc' := 59) (q_d dX6_isEnough_0 30 rfl) rfl (by decide) rfl rfl ?_
                refine T.iinc (pc' := 62) (q_d dX6_isEnough_0 31 rfl) rfl rfl (nN_p _ 1) (by decide) rfl rfl ?_
                refine T.goto (tgt := 15) (q_d dX6_isEnough_0 32 rfl) (by decide) ?_
                first
                  | (have e9 : enF s nd lv x c (g + 1) = false := by rw [enF, b01_eq h32]; rfl
                     have h := ih (g + 1) (by omega)
                     rw [e9] at h; exact h)
                  | (have e9 : enF s nd lv x c (g + 1) = false := by rw [enF, decide_eq_false (show ¬ nd (thn s x c g) < lv by omega), Bool.and_false]
                     have h := ih (g + 1) (by omega)
                     rw [e9] at h; exact h)
                  | (have e9 : enF s nd lv x c (g + 1) = true := by rw [enF, b01_ne h32, decide_eq_true (show nd (thn s x c g) < lv by omega)]; rfl
                     have h := ih (g + 1) (by omega)
                     rw [e9] at h; exact h)
              · refine T.iconst (pc' := 53) (v := nI 1) (q_d dX6_isEnough_0 27 rfl) rfl (by decide) ?_
                refine T.goto (tgt := 57) (q_d dX6_isEnough_0 28 rfl) (by decide) ?_
                refine T.istore (pc' := 59) (q_d dX6_isEnough_0 30 rfl) rfl (by decide) rfl rfl ?_
                refine T.iinc (pc' := 62) (q_d dX6_isEnough_0 31 rfl) rfl rfl (nN_p _ 1) (by decide) rfl rfl ?_
                refine T.goto (tgt := 15) (q_d dX6_isEnough_0 32 rfl) (by decide) ?_
                first
                  | (have e9 : enF s nd lv x c (g + 1) = false := by rw [enF, b01_eq h32]; rfl
                     have h := ih (g + 1) (by omega)
                     rw [e9] at h; exact h)
                  | (have e9 : enF s nd lv x c (g + 1) = false := by rw [enF, decide_eq_false (show ¬ nd (thn s x c g) < lv by omega), Bool.and_false]
                     have h := ih (g + 1) (by omega)
                     rw [e9] at h; exact h)
                  | (have e9 : enF s nd lv x c (g + 1) = true := by rw [enF, b01_ne h32, decide_eq_true (show nd (thn s x c g) < lv by omega)]; rfl
                     have h := ih (g + 1) (by omega)
                     rw [e9] at h; exact h)
    refine T.iconst (pc' := 1) (v := nI 1) (q_d dX6_isEnough_0 0 rfl) rfl (by decide) ?_
    refine T.istore (pc' := 3) (q_d dX6_isEnough_0 1 rfl) rfl (by decide) rfl rfl ?_
    refine T.iload (pc' := 5) (q_d dX6_isEnough_0 2 rfl) rfl rfl ?_
    refine T.if_eqN (tgt := 12) (pc' := 8) (q_d dX6_isEnough_0 3 rfl) rfl (by decide) (by decide) (fun h5 => ?_) (fun h5 => ?_)
    · exact absurd h5 (by decide)
    · refine T.iconst (pc' := 9) (v := nI 0) (q_d dX6_isEnough_0 4 rfl) rfl (by decide) ?_
      refine T.goto (tgt := 13) (q_d dX6_isEnough_0 5 rfl) (by decide) ?_
      refine T.istore (pc' := 15) (q_d dX6_isEnough_0 7 rfl) rfl (by decide) rfl rfl ?_
      exact loop 4 0 (by decide)
  · have ee : enough s nd 4 4 lv x c = decide (nd (thn s x c 4) < lv) := by
      rw [Bool.eq_iff_iff, enough_iff (by decide), decide_eq_true_eq]
      exact ⟨fun h => h 4 (by omega) (by omega), fun h g h1 h2 => by rw [show g = 4 by omega]; exact h⟩
    rw [ee]
    have last : ∀ r, r < 2 → T l hdM kM mX6_isEnough (RI M r) 0 0 15 [some (.ref 0), some (.int (nI x)), some (.int (nI c)), some (.int (nI lv)), some (.int (nI 0)), some (.int (nI r)), some (.int (nI (4294967295 + 1)))] [] M := by
      intro r hr
      refine T.iload (pc' := 17) (q_d dX6_isEnough_0 8 rfl) rfl rfl ?_
      refine T.iload (pc' := 19) (q_d dX6_isEnough_0 9 rfl) rfl rfl ?_
      refine T.if_eqN (tgt := 26) (pc' := 22) (q_d dX6_isEnough_0 10 rfl) rfl (by decide) (by decide) (fun h19 => ?_) (fun h19 => ?_)
      · refine T.iconst (pc' := 27) (v := nI 4294967295) (q_d dX6_isEnough_0 13 rfl) rfl (by decide) ?_
        refine T.icmp_gt (tgt := 65) (pc' := 30) (q_d dX6_isEnough_0 14 rfl) rfl (by decide)  (fun h27 => ?_) (fun h27 => ?_)
        · refine T.iload (pc' := 67) (q_d dX6_isEnough_0 33 rfl) rfl rfl ?_
          refine T.zret (q_d dX6_isEnough_0 34 rfl) rfl (by rcases (by omega : r = 0 ∨ r = 1) with rfl | rfl <;> decide) rfl rfl ?_
          exact ⟨rfl, rfl⟩
        · exact absurd (show nI 4294967295 < nI (4294967295 + 1) by decide) h27
      · exact absurd rfl h19
    have tl := thn_lt (s := s) (b := x) (c := c) (g := 4) w7
    have hng := hn (thn s x c 4) tl
    have hnl9 := hnl (thn s x c 4)
    have body : T l hdM kM mX6_isEnough (RI M (if decide (nd (thn s x c 4) < lv) = true then 1 else 0)) 0 0 15 [some (.ref 0), some (.int (nI x)), some (.int (nI c)), some (.int (nI lv)), some (.int (nI 0)), some (.int (nI 1)), some (.int (nI 4294967295))] [] M := by
      refine T.iload (pc' := 17) (q_d dX6_isEnough_0 8 rfl) rfl rfl ?_
      refine T.iload (pc' := 19) (q_d dX6_isEnough_0 9 rfl) rfl rfl ?_
      refine T.if_eqN (tgt := 26) (pc' := 22) (q_d dX6_isEnough_0 10 rfl) rfl (by decide) (by decide) (fun h19 => ?_) (fun h19 => ?_)
      · refine T.iconst (pc' := 27) (v := nI 4294967295) (q_d dX6_isEnough_0 13 rfl) rfl (by decide) ?_
        refine T.icmp_gt (tgt := 65) (pc' := 30) (q_d dX6_isEnough_0 14 rfl) rfl (by decide)  (fun h27 => ?_) (fun h27 => ?_)
        · exact absurd h27 (by decide)
        · refine T.iload (pc' := 32) (q_d dX6_isEnough_0 15 rfl) rfl rfl ?_
          refine T.if_eqN (tgt := 56) (pc' := 35) (q_d dX6_isEnough_0 16 rfl) rfl (by decide) (by decide) (fun h32 => ?_) (fun h32 => ?_)
          · exact absurd h32 (by decide)
          · refine T.aload_n (pc' := 36) (q_d dX6_isEnough_0 17 rfl) rfl rfl rfl ?_
            refine T.getR (pc' := 39) (ci := 6) (k0 := 10) (q_d dX6_isEnough_0 18 rfl) rfl rfl (by decide) rfl inX6 (by decide) rfl wF_X6_26 (rP hX.1 rfl) ?_
            refine T.aload_n (pc' := 40) (q_d dX6_isEnough_0 19 rfl) rfl rfl rfl ?_
            refine T.iload_n (pc' := 41) (q_d dX6_isEnough_0 20 rfl) rfl rfl rfl ?_
            refine T.iload_n (pc' := 42) (q_d dX6_isEnough_0 21 rfl) rfl rfl rfl ?_
            refine T.iload (pc' := 44) (q_d dX6_isEnough_0 22 rfl) rfl rfl ?_
            refine T.callV (pc' := 47) (ci := 6) (q_d dX6_isEnough_0 23 rfl) rfl uX6_then wM_X6_84 (m_then hX hx (Or.inl ⟨rfl, rfl⟩)) rfl rfl (by decide) rfl rfl (by decide) (Nat.le_of_ble_eq_true rfl) rfl rfl (fun _ => rfl) ?_
            rintro _ _ ⟨rfl, rfl⟩
            dsimp only [Option.toList, List.cons_append, List.nil_append, List.append_nil]
            refine T.iald (pc' := 48) (q_d dX6_isEnough_0 24 rfl) rfl rfl (by decide) rfl (by omega) (by decide) hng ?_
            refine T.iload_n (pc' := 49) (q_d dX6_isEnough_0 25 rfl) rfl rfl rfl ?_
            refine T.icmp_geN (tgt := 56) (pc' := 52) (q_d dX6_isEnough_0 26 rfl) rfl (by decide) (by omega) (by omega) (fun h49 => ?_) (fun h49 => ?_)
            · refine T.iconst (pc' := 57) (v := nI 0) (q_d dX6_isEnough_0 29 rfl) rfl (by decide) ?_
              refine T.istore (pc' := 59) (q_d dX6_isEnough_0 30 rfl) rfl (by decide) rfl rfl ?_
              refine T.iinc (pc' := 62) (q_d dX6_isEnough_0 31 rfl) rfl rfl (nN_p _ 1) (by decide) rfl rfl ?_
              refine T.goto (tgt := 15) (q_d dX6_isEnough_0 32 rfl) (by decide) ?_
              first
                | (have e9 : decide (nd (thn s x c 4) < lv) = true := decide_eq_true (by omega)
                   rw [e9]; exact last 1 (by decide))
                | (have e9 : decide (nd (thn s x c 4) < lv) = false := decide_eq_false (by omega)
                   rw [e9]; exact last 0 (by decide))
            · refine T.iconst (pc' := 53) (v := nI 1) (q_d dX6_isEnough_0 27 rfl) rfl (by decide) ?_
              refine T.goto (tgt := 57) (q_d dX6_isEnough_0 28 rfl) (by decide) ?_
              refine T.istore (pc' := 59) (q_d dX6_isEnough_0 30 rfl) rfl (by decide) rfl rfl ?_
              refine T.iinc (pc' := 62) (q_d dX6_isEnough_0 31 rfl) rfl rfl (nN_p _ 1) (by decide) rfl rfl ?_
              refine T.goto (tgt := 15) (q_d dX6_isEnough_0 32 rfl) (by decide) ?_
              first
                | (have e9 : decide (nd (thn s x c 4) < lv) = true := decide_eq_true (by omega)
                   rw [e9]; exact last 1 (by decide))
                | (have e9 : decide (nd (thn s x c 4) < lv) = false := decide_eq_false (by omega)
                   rw [e9]; exact last 0 (by decide))
      · exact absurd rfl h19
    refine T.iconst (pc' := 1) (v := nI 1) (q_d dX6_isEnough_0 0 rfl) rfl (by decide) ?_
    refine T.istore (pc' := 3) (q_d dX6_isEnough_0 1 rfl) rfl (by decide) rfl rfl ?_
    refine T.iload (pc' := 5) (q_d dX6_isEnough_0 2 rfl) rfl rfl ?_
    refine T.if_eqN (tgt := 12) (pc' := 8) (q_d dX6_isEnough_0 3 rfl) rfl (by decide) (by decide) (fun h5 => ?_) (fun h5 => ?_)
    · refine T.iconst (pc' := 13) (v := nI 4294967295) (q_d dX6_isEnough_0 6 rfl) rfl (by decide) ?_
      refine T.istore (pc' := 15) (q_d dX6_isEnough_0 7 rfl) rfl (by decide) rfl rfl ?_
      exact body
    · exact absurd rfl h5
theorem m_solves (hX : RM M b s k was n t) {z g0 g1 : Nat} (hz : ZO z g0 g1) : Ct l hdM kM mX6_solves [.ref 0, .int (nI z)] M (fun v M' => v = none ∧ M'.2 = M.2 ∧ (∀ a, a ≠ 6 → a ≠ 7 → M'.1 a = M.1 a) ∧ ∀ x, x < 2 ^ s 0 → M'.1 6 x = (solN s g0 g1 127).1 x ∧ M'.1 7 x = (solN s g0 g1 127).2 x) := by
  refine Ct.of [some (.ref 0), some (.int (nI z)), none, none, none, none, none] (by decide +kernel) (fun h => absurd h (by decide)) (Nat.le_of_ble_eq_true rfl) rfl ?_
  have w7 := hX.2.2.1.1
  have w0 := p2_le w7
  have w6 := hX.2.2.1.2.2.2.2.2.1
  have hg : g1 ≤ 4 := by rcases hz with ⟨-, -, h⟩ | ⟨-, -, h⟩ <;> omega
  have scM : ∀ M' : qM, M'.2 = M.2 → (∀ a, a ≠ 6 → a ≠ 7 → M'.1 a = M.1 a) → RM M' b s k was n t := fun M' h2 ha => hX.sc ⟨by rw [h2], ha 1 (by decide) (by decide), ha 2 (by decide) (by decide), ha 5 (by decide) (by decide), by rw [ha 0 (by decide) (by decide)], by rw [ha 0 (by decide) (by decide)]⟩
  have hA : ∀ k x, newly s (solN s g0 g1 k).1 g0 g1 (k + 1) x = true → (solN s g0 g1 (k + 1)).1 x = k + 1 ∧ (solN s g0 g1 (k + 1)).2 x = (fstC s (solN s g0 g1 k).1 g0 g1 (k + 1) x).getD 0 := fun k x n1 => by simp only [solN]; rw [if_pos n1, if_pos n1]; exact ⟨rfl, rfl⟩
  have hB : ∀ k x, newly s (solN s g0 g1 k).1 g0 g1 (k + 1) x = false → (solN s g0 g1 (k + 1)).1 x = (solN s g0 g1 k).1 x ∧ (solN s g0 g1 (k + 1)).2 x = (solN s g0 g1 k).2 x := fun k x n1 => by simp only [solN]; rw [n1]; simp
  have level : ∀ k, k ≤ 127 → ∀ {Q : Option Value → qM → Prop}, (∀ any (M' : qM), M'.2 = M.2 → (∀ a, a ≠ 6 → a ≠ 7 → M'.1 a = M.1 a) → (∀ x, x < 2 ^ s 0 → M'.1 6 x = (solN s g0 g1 (k + 1)).1 x ∧ M'.1 7 x = (solN s g0 g1 (k + 1)).2 x) →
      ((any = 1 ∧ ∃ x, newly s (solN s g0 g1 k).1 g0 g1 (k + 1) x = true) ∨ (any = 0 ∧ ∀ x, newly s (solN s g0 g1 k).1 g0 g1 (k + 1) x = false)) →
      T l hdM kM mX6_solves Q 0 0 51 [some (.ref 0), some (.int (nI z)), some (.int (nI (2 ^ s 0))), some (.int (nI any)), some (.int (nI (k + 1 + 1))), none, none] [] M') →
      ∀ d j any (M' : qM), j + d = 2 ^ s 0 → 0 < j → M'.2 = M.2 → (∀ a, a ≠ 6 → a ≠ 7 → M'.1 a = M.1 a) →
      (∀ x, x < 2 ^ s 0 → M'.1 6 x = (if x < j then (solN s g0 g1 (k + 1)).1 x else (solN s g0 g1 k).1 x) ∧ M'.1 7 x = (if x < j then (solN s g0 g1 (k + 1)).2 x else (solN s g0 g1 k).2 x)) →
      ((any = 1 ∧ ∃ x, newly s (solN s g0 g1 k).1 g0 g1 (k + 1) x = true) ∨ (any = 0 ∧ ∀ x, x < j → newly s (solN s g0 g1 k).1 g0 g1 (k + 1) x = false)) →
      T l hdM kM mX6_solves Q 0 0 60 [some (.ref 0), some (.int (nI z)), some (.int (nI (2 ^ s 0))), some (.int (nI any)), some (.int (nI (k + 1))), some (.int (nI j)), none] [] M' := by
    intro k hk Q fin d
    induction d with
    | zero =>
      intro j any M' hj hj0 h2 ha hc hy
      have hout : ∀ x, ¬ x < j → newly s (solN s g0 g1 k).1 g0 g1 (k + 1) x = false := fun x hx => by
        cases hn : newly s (solN s g0 g1 k).1 g0 g1 (k + 1) x with
        | false => rfl
        | true => exact absurd (newly_pos hn).2.1 (by omega)
      refine T.iload (pc' := 62) (q_d dX6_solves_0 38 rfl) rfl rfl ?_
      refine T.iload_n (pc' := 63) (q_d dX6_solves_0 39 rfl) rfl rfl rfl ?_
      refine T.icmp_geN (tgt := 149) (pc' := 66) (q_d dX6_solves_1 0 rfl) rfl (by decide) (by omega) (by omega) (fun h63 => ?_) (fun h63 => ?_)
      · refine T.iinc (pc' := 152) (q_d dX6_solves_2 2 rfl) rfl rfl (nN_p _ 1) (by decide) rfl rfl ?_
        refine T.goto (tgt := 51) (q_d dX6_solves_2 3 rfl) (by decide) ?_
        refine T.drop (loc' := [some (.ref 0), some (.int (nI z)), some (.int (nI (2 ^ s 0))), some (.int (nI any)), some (.int (nI (k + 1 + 1))), none, none]) ⟨rfl, rfl, rfl, rfl, rfl, trivial⟩ ?_
        refine fin any M' h2 ha (fun x hx => ?_) ?_
        · have h9 := hc x hx
          rw [if_pos (by omega), if_pos (by omega)] at h9; exact h9
        · rcases hy with q | ⟨e, h9⟩
          · exact Or.inl q
          · exact Or.inr ⟨e, fun x => by
              by_cases hx : x < j
              · exact h9 x hx
              · exact hout x hx⟩
      · exact absurd h63 (by omega)
    | succ d ih =>
      intro j any M' hj hj0 h2 ha hc hy
      have hj2 : j < 2 ^ s 0 := by omega
      have hP' : M'.2.2 = pM := by rw [h2]; exact hX.1
      have hX' := scM M' h2 ha
      have hcj := hc j hj2
      rw [if_neg (Nat.lt_irrefl j), if_neg (Nat.lt_irrefl j)] at hcj
      have hsv := sol_val (s := s) (g0 := g0) (g1 := g1) k j
      have hlt : ∀ y, (if y < j then (solN s g0 g1 (k + 1)).1 y else (solN s g0 g1 k).1 y) < k + 1 ↔ (solN s g0 g1 k).1 y < k + 1 := fun y => by
        split
        · cases hn : newly s (solN s g0 g1 k).1 g0 g1 (k + 1) y with
          | true => rw [(hA k y hn).1, (newly_pos hn).2.2.1]; omega
          | false => rw [(hB k y hn).1]
        · exact Iff.rfl
      have hbd : ∀ y, (if y < j then (solN s g0 g1 (k + 1)).1 y else (solN s g0 g1 k).1 y) < 2 ^ 31 := fun y => by
        split
        · rcases sol_val (s := s) (g0 := g0) (g1 := g1) (k + 1) y with v | v <;> omega
        · rcases sol_val (s := s) (g0 := g0) (g1 := g1) k y with v | v <;> omega
      have hen := enough_congr (s := s) (x := j) (g0 := g0) (lv := k + 1) hg hlt
      -- the belief stays
      have stay : newly s (solN s g0 g1 k).1 g0 g1 (k + 1) j = false → T l hdM kM mX6_solves Q 0 0 60 [some (.ref 0), some (.int (nI z)), some (.int (nI (2 ^ s 0))), some (.int (nI any)), some (.int (nI (k + 1))), some (.int (nI (j + 1))), none] [] M' := by
        intro hno
        refine ih (j + 1) any M' (by omega) (by omega) h2 ha (fun x hx => ?_) ?_
        · have h9 := hc x hx
          by_cases e : x = j
          · subst e
            rw [if_pos (by omega), if_pos (by omega), (hB k x hno).1, (hB k x hno).2]; exact hcj
          · by_cases e2 : x < j
            · rw [if_pos e2, if_pos e2] at h9; rw [if_pos (by omega), if_pos (by omega)]; exact h9
            · rw [if_neg e2, if_neg e2] at h9; rw [if_neg (by omega), if_neg (by omega)]; exact h9
        · rcases hy with q | ⟨e, h9⟩
          · exact Or.inl q
          · refine Or.inr ⟨e, fun x hx => ?_⟩
            by_cases e : x = j
            · rw [e]; exact hno
            · exact h9 x (by omega)
      -- the belief is settled by c
      have done : ∀ c, c < 2 ^ s 0 → newly s (solN s g0 g1 k).1 g0 g1 (k + 1) j = true → fstC s (solN s g0 g1 k).1 g0 g1 (k + 1) j = some c → T l hdM kM mX6_solves Q 0 0 69 [some (.ref 0), some (.int (nI z)), some (.int (nI (2 ^ s 0))), some (.int (nI 1)), some (.int (nI (k + 1))), some (.int (nI j)), some (.int (nI (c + 1)))] [] (qI (qI M' 6 j (k + 1)) 7 j c) := by
        intro c hc9 hne hf
        have hv6 : (qI (qI M' 6 j (k + 1)) 7 j c).1 6 j = k + 1 := by rw [qI_ne (Or.inl (by decide)), qI_eq]
        refine T.iload (pc' := 71) (q_d dX6_solves_1 3 rfl) rfl rfl ?_
        refine T.iload_n (pc' := 72) (q_d dX6_solves_1 4 rfl) rfl rfl rfl ?_
        refine T.icmp_geN (tgt := 143) (pc' := 75) (q_d dX6_solves_1 5 rfl) rfl (by decide) (by omega) (by omega) (fun h72 => ?_) (fun h72 => ?_)
        · refine T.iinc (pc' := 146) (q_d dX6_solves_2 0 rfl) rfl rfl (nN_p _ 1) (by decide) rfl rfl ?_
          refine T.goto (tgt := 60) (q_d dX6_solves_2 1 rfl) (by decide) ?_
          refine T.drop (loc' := [some (.ref 0), some (.int (nI z)), some (.int (nI (2 ^ s 0))), some (.int (nI 1)), some (.int (nI (k + 1))), some (.int (nI (j + 1))), none]) ⟨rfl, rfl, rfl, rfl, rfl, rfl, trivial⟩ ?_
          refine ih (j + 1) 1 _ (by omega) (by omega) h2 (fun a a6 a7 => ?_) (fun x hx => ?_) (Or.inl ⟨rfl, j, hne⟩)
          · funext y; rw [qI_ne (Or.inl a7), qI_ne (Or.inl a6), ha a a6 a7]
          · by_cases e : x = j
            · subst e
              rw [if_pos (by omega), if_pos (by omega), hv6, qI_eq, (hA k x hne).1, (hA k x hne).2, hf]
              exact ⟨rfl, rfl⟩
            · have h9 := hc x hx
              rw [qI_ne (Or.inr e), qI_ne (Or.inr e), qI_ne (Or.inr e), qI_ne (Or.inr e)]
              by_cases e2 : x < j
              · rw [if_pos e2, if_pos e2] at h9; rw [if_pos (by omega), if_pos (by omega)]; exact h9
              · rw [if_neg e2, if_neg e2] at h9; rw [if_neg (by omega), if_neg (by omega)]; exact h9
        · refine T.aload_n (pc' := 76) (q_d dX6_solves_1 6 rfl) rfl rfl rfl ?_
          refine T.getR (pc' := 79) (ci := 6) (k0 := 10) (q_d dX6_solves_1 7 rfl) rfl rfl (by decide) rfl inX6 (by decide) rfl wF_X6_26 (rP hP' rfl) ?_
          refine T.iload (pc' := 81) (q_d dX6_solves_1 8 rfl) rfl rfl ?_
          refine T.iald (pc' := 82) (q_d dX6_solves_1 9 rfl) rfl rfl (by decide) rfl (by omega) (by decide) hv6 ?_
          refine T.sipush (pc' := 85) (v := nI 1000) (q_d dX6_solves_1 10 rfl) rfl (by decide) ?_
          refine T.icmp_neN (tgt := 143) (pc' := 88) (q_d dX6_solves_1 11 rfl) rfl (by decide) (by omega) (by omega) (fun h85 => ?_) (fun h85 => ?_)
          · refine T.iinc (pc' := 146) (q_d dX6_solves_2 0 rfl) rfl rfl (nN_p _ 1) (by decide) rfl rfl ?_
            refine T.goto (tgt := 60) (q_d dX6_solves_2 1 rfl) (by decide) ?_
            refine T.drop (loc' := [some (.ref 0), some (.int (nI z)), some (.int (nI (2 ^ s 0))), some (.int (nI 1)), some (.int (nI (k + 1))), some (.int (nI (j + 1))), none]) ⟨rfl, rfl, rfl, rfl, rfl, rfl, trivial⟩ ?_
            refine ih (j + 1) 1 _ (by omega) (by omega) h2 (fun a a6 a7 => ?_) (fun x hx => ?_) (Or.inl ⟨rfl, j, hne⟩)
            · funext y; rw [qI_ne (Or.inl a7), qI_ne (Or.inl a6), ha a a6 a7]
            · by_cases e : x = j
              · subst e
                rw [if_pos (by omega), if_pos (by omega), hv6, qI_eq, (hA k x hne).1, (hA k x hne).2, hf]
                exact ⟨rfl, rfl⟩
              · have h9 := hc x hx
                rw [qI_ne (Or.inr e), qI_ne (Or.inr e), qI_ne (Or.inr e), qI_ne (Or.inr e)]
                by_cases e2 : x < j
                · rw [if_pos e2, if_pos e2] at h9; rw [if_pos (by omega), if_pos (by omega)]; exact h9
                · rw [if_neg e2, if_neg e2] at h9; rw [if_neg (by omega), if_neg (by omega)]; exact h9
          · exact absurd h85 (by omega)
      have loopC : ∀ e c, c + e = 2 ^ s 0 → (∀ c', c' < c → goodC s (solN s g0 g1 k).1 g0 g1 (k + 1) j c' = false) → T l hdM kM mX6_solves Q 0 0 69 [some (.ref 0), some (.int (nI z)), some (.int (nI (2 ^ s 0))), some (.int (nI any)), some (.int (nI (k + 1))), some (.int (nI j)), some (.int (nI c))] [] M' := by
        intro e
        induction e with
        | zero =>
          intro c hce hcl
          have hnone : fstC s (solN s g0 g1 k).1 g0 g1 (k + 1) j = none := by
            unfold fstC
            rw [List.find?_eq_none]
            intro x hx9
            have := hcl x (by have := List.mem_range.mp hx9; omega)
            simpa using this
          have hno : newly s (solN s g0 g1 k).1 g0 g1 (k + 1) j = false := by unfold newly; rw [hnone]; simp
          refine T.iload (pc' := 71) (q_d dX6_solves_1 3 rfl) rfl rfl ?_
          refine T.iload_n (pc' := 72) (q_d dX6_solves_1 4 rfl) rfl rfl rfl ?_
          refine T.icmp_geN (tgt := 143) (pc' := 75) (q_d dX6_solves_1 5 rfl) rfl (by decide) (by omega) (by omega) (fun h72 => ?_) (fun h72 => ?_)
          · refine T.iinc (pc' := 146) (q_d dX6_solves_2 0 rfl) rfl rfl (nN_p _ 1) (by decide) rfl rfl ?_
            refine T.goto (tgt := 60) (q_d dX6_solves_2 1 rfl) (by decide) ?_
            exact T.drop (loc' := [some (.ref 0), some (.int (nI z)), some (.int (nI (2 ^ s 0))), some (.int (nI any)), some (.int (nI (k + 1))), some (.int (nI (j + 1))), none]) ⟨rfl, rfl, rfl, rfl, rfl, rfl, trivial⟩ (stay hno)
          · exact absurd h72 (by omega)
        | succ e ihC =>
          intro c hce hcl
          have o1 := ones_le c
          have hgood : goodC s (solN s g0 g1 k).1 g0 g1 (k + 1) j c = (decide (ones c ≤ s 6) && enough s (fun y => if y < j then (solN s g0 g1 (k + 1)).1 y else (solN s g0 g1 k).1 y) g0 g1 (k + 1) j c) := by unfold goodC; rw [hen]
          have nxt : goodC s (solN s g0 g1 k).1 g0 g1 (k + 1) j c = false → T l hdM kM mX6_solves Q 0 0 69 [some (.ref 0), some (.int (nI z)), some (.int (nI (2 ^ s 0))), some (.int (nI any)), some (.int (nI (k + 1))), some (.int (nI j)), some (.int (nI (c + 1)))] [] M' := fun hb => ihC (c + 1) (by omega) (fun c' hc' => by
            by_cases q : c' = c
            · rw [q]; exact hb
            · exact hcl c' (by omega))
          refine T.iload (pc' := 71) (q_d dX6_solves_1 3 rfl) rfl rfl ?_
          refine T.iload_n (pc' := 72) (q_d dX6_solves_1 4 rfl) rfl rfl rfl ?_
          refine T.icmp_geN (tgt := 143) (pc' := 75) (q_d dX6_solves_1 5 rfl) rfl (by decide) (by omega) (by omega) (fun h72 => ?_) (fun h72 => ?_)
          · exact absurd h72 (by omega)
          · refine T.aload_n (pc' := 76) (q_d dX6_solves_1 6 rfl) rfl rfl rfl ?_
            refine T.getR (pc' := 79) (ci := 6) (k0 := 10) (q_d dX6_solves_1 7 rfl) rfl rfl (by decide) rfl inX6 (by decide) rfl wF_X6_26 (rP hP' rfl) ?_
            refine T.iload (pc' := 81) (q_d dX6_solves_1 8 rfl) rfl rfl ?_
            refine T.iald (pc' := 82) (q_d dX6_solves_1 9 rfl) rfl rfl (by decide) rfl (by omega) (by decide) hcj.1 ?_
            refine T.sipush (pc' := 85) (v := nI 1000) (q_d dX6_solves_1 10 rfl) rfl (by decide) ?_
            refine T.icmp_neN (tgt := 143) (pc' := 88) (q_d dX6_solves_1 11 rfl) rfl (by decide) (by rcases hsv with v | v <;> omega) (by decide) (fun h85 => ?_) (fun h85 => ?_)
            · refine T.iinc (pc' := 146) (q_d dX6_solves_2 0 rfl) rfl rfl (nN_p _ 1) (by decide) rfl rfl ?_
              refine T.goto (tgt := 60) (q_d dX6_solves_2 1 rfl) (by decide) ?_
              have hno : newly s (solN s g0 g1 k).1 g0 g1 (k + 1) j = false := by unfold newly; rw [decide_eq_false h85]; simp
              exact T.drop (loc' := [some (.ref 0), some (.int (nI z)), some (.int (nI (2 ^ s 0))), some (.int (nI any)), some (.int (nI (k + 1))), some (.int (nI (j + 1))), none]) ⟨rfl, rfl, rfl, rfl, rfl, rfl, trivial⟩ (stay hno)
            · refine T.iload (pc' := 90) (q_d dX6_solves_1 12 rfl) rfl rfl ?_
              refine T.callS (pc' := 93) (q_d dX6_solves_1 13 rfl) rfl uX6_ones wM_X6_60 (m_ones (show c < 2 ^ 31 by omega)) rfl rfl (by decide) (Nat.le_of_ble_eq_true rfl) rfl rfl (fun _ => rfl) ?_
              rintro _ _ ⟨rfl, rfl⟩
              dsimp only [Option.toList, List.cons_append, List.nil_append, List.append_nil]
              refine T.aload_n (pc' := 94) (q_d dX6_solves_1 14 rfl) rfl rfl rfl ?_
              refine T.getR (pc' := 97) (ci := 6) (k0 := 0) (q_d dX6_solves_1 15 rfl) rfl rfl (by decide) rfl inX6 (by decide) rfl wF_X6_7 (rP hP' rfl) ?_
              refine T.bipush (pc' := 99) (v := nI 6) (q_d dX6_solves_1 16 rfl) rfl (by decide) ?_
              refine T.iald (pc' := 100) (q_d dX6_solves_1 17 rfl) rfl rfl (by decide) rfl (by omega) (by decide) (hX'.2.1 6 (by decide)) ?_
              refine T.icmp_gtN (tgt := 137) (pc' := 103) (q_d dX6_solves_1 18 rfl) rfl (by decide) (by omega) (by omega) (fun h100 => ?_) (fun h100 => ?_)
              · refine T.iinc (pc' := 140) (q_d dX6_solves_1 38 rfl) rfl rfl (nN_p _ 1) (by decide) rfl rfl ?_
                refine T.goto (tgt := 69) (q_d dX6_solves_1 39 rfl) (by decide) ?_
                first
                  | exact nxt (by rw [hgood, decide_eq_false (show ¬ ones c ≤ s 6 by omega)]; rfl)
                  | exact nxt (by rw [hgood, b01_eq h114, Bool.and_false])
                  | (have hgd : goodC s (solN s g0 g1 k).1 g0 g1 (k + 1) j c = true := by rw [hgood, b01_ne h114, decide_eq_true (show ones c ≤ s 6 by omega)]; rfl
                     have hf : fstC s (solN s g0 g1 k).1 g0 g1 (k + 1) j = some c := by
                       unfold fstC
                       rw [List.find?_range_eq_some]
                       refine ⟨hgd, List.mem_range.mpr (by omega), fun j hj => by rw [hcl j hj]; rfl⟩
                     have hne : newly s (solN s g0 g1 k).1 g0 g1 (k + 1) j = true := by unfold newly; rw [hf, decide_eq_true h85, decide_eq_true hj0, decide_eq_true hj2]; rfl
                     exact done c (by omega) hne hf)
              · refine T.aload_n (pc' := 104) (q_d dX6_solves_1 19 rfl) rfl rfl rfl ?_
                refine T.iload (pc' := 106) (q_d dX6_solves_1 20 rfl) rfl rfl ?_
                refine T.iload (pc' := 108) (q_d dX6_solves_1 21 rfl) rfl rfl ?_
                refine T.iload (pc' := 110) (q_d dX6_solves_1 22 rfl) rfl rfl ?_
                refine T.iload_n (pc' := 111) (q_d dX6_solves_1 23 rfl) rfl rfl rfl ?_
                refine T.callV (pc' := 114) (ci := 6) (q_d dX6_solves_1 24 rfl) rfl uX6_isEnough wM_X6_92 (m_isEnough hX' (nd := fun y => if y < j then (solN s g0 g1 (k + 1)).1 y else (solN s g0 g1 k).1 y) (fun y hy => (hc y hy).1) hbd hj2 (show k + 1 < 2 ^ 31 by omega) hz) rfl rfl (by decide) rfl rfl (by decide) (Nat.le_of_ble_eq_true rfl) rfl rfl (fun _ => rfl) ?_
                rintro _ _ ⟨rfl, rfl⟩
                dsimp only [Option.toList, List.cons_append, List.nil_append, List.append_nil]
                refine T.if_eqN (tgt := 137) (pc' := 117) (q_d dX6_solves_1 25 rfl) rfl (by decide) (by split <;> decide) (fun h114 => ?_) (fun h114 => ?_)
                · refine T.iinc (pc' := 140) (q_d dX6_solves_1 38 rfl) rfl rfl (nN_p _ 1) (by decide) rfl rfl ?_
                  refine T.goto (tgt := 69) (q_d dX6_solves_1 39 rfl) (by decide) ?_
                  first
                    | exact nxt (by rw [hgood, decide_eq_false (show ¬ ones c ≤ s 6 by omega)]; rfl)
                    | exact nxt (by rw [hgood, b01_eq h114, Bool.and_false])
                    | (have hgd : goodC s (solN s g0 g1 k).1 g0 g1 (k + 1) j c = true := by rw [hgood, b01_ne h114, decide_eq_true (show ones c ≤ s 6 by omega)]; rfl
                       have hf : fstC s (solN s g0 g1 k).1 g0 g1 (k + 1) j = some c := by
                         unfold fstC
                         rw [List.find?_range_eq_some]
                         refine ⟨hgd, List.mem_range.mpr (by omega), fun j hj => by rw [hcl j hj]; rfl⟩
                       have hne : newly s (solN s g0 g1 k).1 g0 g1 (k + 1) j = true := by unfold newly; rw [hf, decide_eq_true h85, decide_eq_true hj0, decide_eq_true hj2]; rfl
                       exact done c (by omega) hne hf)
                · refine T.aload_n (pc' := 118) (q_d dX6_solves_1 26 rfl) rfl rfl rfl ?_
                  refine T.getR (pc' := 121) (ci := 6) (k0 := 10) (q_d dX6_solves_1 27 rfl) rfl rfl (by decide) rfl inX6 (by decide) rfl wF_X6_26 (rP hP' rfl) ?_
                  refine T.iload (pc' := 123) (q_d dX6_solves_1 28 rfl) rfl rfl ?_
                  refine T.iload (pc' := 125) (q_d dX6_solves_1 29 rfl) rfl rfl ?_
                  refine T.iast (pc' := 126) (q_d dX6_solves_1 30 rfl) rfl rfl (by decide) rfl (by omega) (by decide) ?_
                  refine T.aload_n (pc' := 127) (q_d dX6_solves_1 31 rfl) rfl rfl rfl ?_
                  refine T.getR (pc' := 130) (ci := 6) (k0 := 11) (q_d dX6_solves_1 32 rfl) rfl rfl (by decide) rfl inX6 (by decide) rfl wF_X6_29 (rP hP' rfl) ?_
                  refine T.iload (pc' := 132) (q_d dX6_solves_1 33 rfl) rfl rfl ?_
                  refine T.iload (pc' := 134) (q_d dX6_solves_1 34 rfl) rfl rfl ?_
                  refine T.iast (pc' := 135) (q_d dX6_solves_1 35 rfl) rfl rfl (by decide) rfl (by omega) (by decide) ?_
                  refine T.iconst (pc' := 136) (v := nI 1) (q_d dX6_solves_1 36 rfl) rfl (by decide) ?_
                  refine T.istore_n (pc' := 137) (q_d dX6_solves_1 37 rfl) rfl rfl (by decide) rfl rfl ?_
                  refine T.iinc (pc' := 140) (q_d dX6_solves_1 38 rfl) rfl rfl (nN_p _ 1) (by decide) rfl rfl ?_
                  refine T.goto (tgt := 69) (q_d dX6_solves_1 39 rfl) (by decide) ?_
                  first
                    | exact nxt (by rw [hgood, decide_eq_false (show ¬ ones c ≤ s 6 by omega)]; rfl)
                    | exact nxt (by rw [hgood, b01_eq h114, Bool.and_false])
                    | (have hgd : goodC s (solN s g0 g1 k).1 g0 g1 (k + 1) j c = true := by rw [hgood, b01_ne h114, decide_eq_true (show ones c ≤ s 6 by omega)]; rfl
                       have hf : fstC s (solN s g0 g1 k).1 g0 g1 (k + 1) j = some c := by
                         unfold fstC
                         rw [List.find?_range_eq_some]
                         refine ⟨hgd, List.mem_range.mpr (by omega), fun j hj => by rw [hcl j hj]; rfl⟩
                       have hne : newly s (solN s g0 g1 k).1 g0 g1 (k + 1) j = true := by unfold newly; rw [hf, decide_eq_true h85, decide_eq_true hj0, decide_eq_true hj2]; rfl
                       exact done c (by omega) hne hf)
      refine T.iload (pc' := 62) (q_d dX6_solves_0 38 rfl) rfl rfl ?_
      refine T.iload_n (pc' := 63) (q_d dX6_solves_0 39 rfl) rfl rfl rfl ?_
      refine T.icmp_geN (tgt := 149) (pc' := 66) (q_d dX6_solves_1 0 rfl) rfl (by decide) (by omega) (by omega) (fun h63 => ?_) (fun h63 => ?_)
      · exact absurd h63 (by omega)
      · refine T.iconst (pc' := 67) (v := nI 0) (q_d dX6_solves_1 1 rfl) rfl (by decide) ?_
        refine T.istore (pc' := 69) (q_d dX6_solves_1 2 rfl) rfl (by decide) rfl rfl ?_
        exact loopC (2 ^ s 0) 0 (by omega) (fun c' h => absurd h (Nat.not_lt_zero _))
  have loop2 : ∀ d k m (M' : qM), k + d = 128 → M'.2 = M.2 → (∀ a, a ≠ 6 → a ≠ 7 → M'.1 a = M.1 a) → (∀ x, x < 2 ^ s 0 → M'.1 6 x = (solN s g0 g1 k).1 x ∧ M'.1 7 x = (solN s g0 g1 k).2 x) → ((m = 1 ∧ k ≤ nset (solN s g0 g1 k).1 127) ∨ (m = 0 ∧ solN s g0 g1 127 = solN s g0 g1 k)) →
      T l hdM kM mX6_solves (fun v M' => v = none ∧ M'.2 = M.2 ∧ (∀ a, a ≠ 6 → a ≠ 7 → M'.1 a = M.1 a) ∧ ∀ x, x < 2 ^ s 0 → M'.1 6 x = (solN s g0 g1 127).1 x ∧ M'.1 7 x = (solN s g0 g1 127).2 x) 0 0 51 [some (.ref 0), some (.int (nI z)), some (.int (nI (2 ^ s 0))), some (.int (nI m)), some (.int (nI (k + 1))), none, none] [] M' := by
    intro d
    induction d with
    | zero =>
      intro k m M' hk h2 ha hc hm
      have hle := nset_le (nd := (solN s g0 g1 k).1) (n := 127)
      refine T.iload_n (pc' := 52) (q_d dX6_solves_0 32 rfl) rfl rfl rfl ?_
      refine T.if_eqN (tgt := 155) (pc' := 55) (q_d dX6_solves_0 33 rfl) rfl (by decide) (by omega) (fun h52 => ?_) (fun h52 => ?_)
      · refine T.vret (q_d dX6_solves_2 4 rfl) rfl rfl rfl ?_
        rcases hm with ⟨e, h9⟩ | ⟨-, e⟩
        · omega
        · exact ⟨rfl, h2, ha, by rw [e]; exact hc⟩
      · exact absurd h52 (by omega)
    | succ d ih =>
      intro k m M' hk h2 ha hc hm
      have hpos : 1 ≤ 2 ^ s 0 := Nat.two_pow_pos _
      refine T.iload_n (pc' := 52) (q_d dX6_solves_0 32 rfl) rfl rfl rfl ?_
      refine T.if_eqN (tgt := 155) (pc' := 55) (q_d dX6_solves_0 33 rfl) rfl (by decide) (by omega) (fun h52 => ?_) (fun h52 => ?_)
      · refine T.vret (q_d dX6_solves_2 4 rfl) rfl rfl rfl ?_
        rcases hm with ⟨e, h9⟩ | ⟨-, e⟩
        · exact absurd h52 (by omega)
        · exact ⟨rfl, h2, ha, by rw [e]; exact hc⟩
      · refine T.iconst (pc' := 56) (v := nI 0) (q_d dX6_solves_0 34 rfl) rfl (by decide) ?_
        refine T.istore_n (pc' := 57) (q_d dX6_solves_0 35 rfl) rfl rfl (by decide) rfl rfl ?_
        refine T.iconst (pc' := 58) (v := nI 1) (q_d dX6_solves_0 36 rfl) rfl (by decide) ?_
        refine T.istore (pc' := 60) (q_d dX6_solves_0 37 rfl) rfl (by decide) rfl rfl ?_
        refine T.drop (loc' := [some (.ref 0), some (.int (nI z)), some (.int (nI (2 ^ s 0))), some (.int (nI 0)), some (.int (nI (k + 1))), some (.int (nI 1)), none]) ⟨rfl, rfl, rfl, rfl, rfl, rfl, trivial⟩ ?_
        refine level k (by omega) (fun any M2 j2 ja jc jy => ?_) (2 ^ s 0 - 1) 1 0 M' (by omega) (by decide) h2 ha (fun x hx => ?_) (Or.inr ⟨rfl, fun x hx => ?_⟩)
        · refine ih (k + 1) any M2 (by omega) j2 ja jc ?_
          rcases jy with ⟨e, x, hx⟩ | ⟨e, h9⟩
          · refine Or.inl ⟨e, ?_⟩
            have hgr := sol_grow (show k < 999 by omega) w7 hx
            rcases hm with ⟨-, h8⟩ | ⟨e0, -⟩
            · omega
            · exact absurd e0 h52
          · refine Or.inr ⟨e, ?_⟩
            by_cases q : k ≤ 126
            · rw [sol_end hg h9 (show k ≤ 127 by omega) (by decide), sol_end hg h9 (Nat.le_succ k) (by omega)]
            · have : k = 127 := by omega
              subst this
              exact (sol_end hg h9 (Nat.le_succ _) (by decide)).symm
        · by_cases e : x < 1
          · have e0 : x = 0 := by omega
            subst e0
            have hno : newly s (solN s g0 g1 k).1 g0 g1 (k + 1) 0 = false := by
              cases hn : newly s (solN s g0 g1 k).1 g0 g1 (k + 1) 0 with
              | false => rfl
              | true => exact absurd (newly_pos hn).1 (Nat.lt_irrefl 0)
            rw [if_pos e, if_pos e, (hB k 0 hno).1, (hB k 0 hno).2]; exact hc 0 hx
          · rw [if_neg e, if_neg e]; exact hc x hx
        · have e0 : x = 0 := by omega
          subst e0
          cases hn : newly s (solN s g0 g1 k).1 g0 g1 (k + 1) 0 with
          | false => rfl
          | true => exact absurd (newly_pos hn).1 (Nat.lt_irrefl 0)
  have loop1 : ∀ d i (M' : qM), i + d = 2 ^ s 0 → M'.2 = M.2 → (∀ a, a ≠ 6 → a ≠ 7 → M'.1 a = M.1 a) → (∀ x, x < i → M'.1 6 x = (if x = 0 then 0 else 1000) ∧ M'.1 7 x = 0) →
      T l hdM kM mX6_solves (fun v M' => v = none ∧ M'.2 = M.2 ∧ (∀ a, a ≠ 6 → a ≠ 7 → M'.1 a = M.1 a) ∧ ∀ x, x < 2 ^ s 0 → M'.1 6 x = (solN s g0 g1 127).1 x ∧ M'.1 7 x = (solN s g0 g1 127).2 x) 0 0 11 [some (.ref 0), some (.int (nI z)), some (.int (nI (2 ^ s 0))), some (.int (nI i)), none, none, none] [] M' := by
    intro d
    induction d with
    | zero =>
      intro i M' hi h2 ha hx
      refine T.iload_n (pc' := 12) (q_d dX6_solves_0 9 rfl) rfl rfl rfl ?_
      refine T.iload_n (pc' := 13) (q_d dX6_solves_0 10 rfl) rfl rfl rfl ?_
      refine T.icmp_geN (tgt := 46) (pc' := 16) (q_d dX6_solves_0 11 rfl) rfl (by decide) (by omega) (by omega) (fun h13 => ?_) (fun h13 => ?_)
      · refine T.iconst (pc' := 47) (v := nI 1) (q_d dX6_solves_0 28 rfl) rfl (by decide) ?_
        refine T.istore_n (pc' := 48) (q_d dX6_solves_0 29 rfl) rfl rfl (by decide) rfl rfl ?_
        refine T.iconst (pc' := 49) (v := nI 1) (q_d dX6_solves_0 30 rfl) rfl (by decide) ?_
        refine T.istore (pc' := 51) (q_d dX6_solves_0 31 rfl) rfl (by decide) rfl rfl ?_
        exact loop2 128 0 1 M' (by decide) h2 ha (fun x h9 => hx x (by omega)) (Or.inl ⟨rfl, Nat.zero_le _⟩)
      · exact absurd h13 (by omega)
    | succ d ih =>
      intro i M' hi h2 ha hx
      have hP' : M'.2.2 = pM := by rw [h2]; exact hX.1
      refine T.iload_n (pc' := 12) (q_d dX6_solves_0 9 rfl) rfl rfl rfl ?_
      refine T.iload_n (pc' := 13) (q_d dX6_solves_0 10 rfl) rfl rfl rfl ?_
      refine T.icmp_geN (tgt := 46) (pc' := 16) (q_d dX6_solves_0 11 rfl) rfl (by decide) (by omega) (by omega) (fun h13 => ?_) (fun h13 => ?_)
      · exact absurd h13 (by omega)
      · refine T.aload_n (pc' := 17) (q_d dX6_solves_0 12 rfl) rfl rfl rfl ?_
        refine T.getR (pc' := 20) (ci := 6) (k0 := 10) (q_d dX6_solves_0 13 rfl) rfl rfl (by decide) rfl inX6 (by decide) rfl wF_X6_26 (rP hP' rfl) ?_
        refine T.iload_n (pc' := 21) (q_d dX6_solves_0 14 rfl) rfl rfl rfl ?_
        refine T.iload_n (pc' := 22) (q_d dX6_solves_0 15 rfl) rfl rfl rfl ?_
        refine T.if_neN (tgt := 29) (pc' := 25) (q_d dX6_solves_0 16 rfl) rfl (by decide) (by omega) (fun h22 => ?_) (fun h22 => ?_)
        · refine T.sipush (pc' := 32) (v := nI 1000) (q_d dX6_solves_0 19 rfl) rfl (by decide) ?_
          refine T.iast (pc' := 33) (q_d dX6_solves_0 20 rfl) rfl rfl (by decide) rfl (by omega) (by decide) ?_
          refine T.aload_n (pc' := 34) (q_d dX6_solves_0 21 rfl) rfl rfl rfl ?_
          refine T.getR (pc' := 37) (ci := 6) (k0 := 11) (q_d dX6_solves_0 22 rfl) rfl rfl (by decide) rfl inX6 (by decide) rfl wF_X6_29 (rP hP' rfl) ?_
          refine T.iload_n (pc' := 38) (q_d dX6_solves_0 23 rfl) rfl rfl rfl ?_
          refine T.iconst (pc' := 39) (v := nI 0) (q_d dX6_solves_0 24 rfl) rfl (by decide) ?_
          refine T.iast (pc' := 40) (q_d dX6_solves_0 25 rfl) rfl rfl (by decide) rfl (by omega) (by decide) ?_
          refine T.iinc (pc' := 43) (q_d dX6_solves_0 26 rfl) rfl rfl (nN_p _ 1) (by decide) rfl rfl ?_
          refine T.goto (tgt := 11) (q_d dX6_solves_0 27 rfl) (by decide) ?_
          refine ih (i + 1) _ (by omega) h2 (fun a a6 a7 => ?_) (fun x h9 => ?_)
          · funext y; rw [qI_ne (Or.inl a7), qI_ne (Or.inl a6), ha a a6 a7]
          · by_cases e : x = i
            · subst e
              rw [qI_ne (Or.inl (by decide)), qI_eq, qI_eq]
              first
                | (rw [if_pos h22]; exact ⟨rfl, rfl⟩)
                | (rw [if_neg h22]; exact ⟨rfl, rfl⟩)
            · rw [qI_ne (Or.inr e), qI_ne (Or.inr e), qI_ne (Or.inr e), qI_ne (Or.inr e)]; exact hx x (by omega)
        · refine T.iconst (pc' := 26) (v := nI 0) (q_d dX6_solves_0 17 rfl) rfl (by decide) ?_
          refine T.goto (tgt := 32) (q_d dX6_solves_0 18 rfl) (by decide) ?_
          refine T.iast (pc' := 33) (q_d dX6_solves_0 20 rfl) rfl rfl (by decide) rfl (by omega) (by decide) ?_
          refine T.aload_n (pc' := 34) (q_d dX6_solves_0 21 rfl) rfl rfl rfl ?_
          refine T.getR (pc' := 37) (ci := 6) (k0 := 11) (q_d dX6_solves_0 22 rfl) rfl rfl (by decide) rfl inX6 (by decide) rfl wF_X6_29 (rP hP' rfl) ?_
          refine T.iload_n (pc' := 38) (q_d dX6_solves_0 23 rfl) rfl rfl rfl ?_
          refine T.iconst (pc' := 39) (v := nI 0) (q_d dX6_solves_0 24 rfl) rfl (by decide) ?_
          refine T.iast (pc' := 40) (q_d dX6_solves_0 25 rfl) rfl rfl (by decide) rfl (by omega) (by decide) ?_
          refine T.iinc (pc' := 43) (q_d dX6_solves_0 26 rfl) rfl rfl (nN_p _ 1) (by decide) rfl rfl ?_
          refine T.goto (tgt := 11) (q_d dX6_solves_0 27 rfl) (by decide) ?_
          refine ih (i + 1) _ (by omega) h2 (fun a a6 a7 => ?_) (fun x h9 => ?_)
          · funext y; rw [qI_ne (Or.inl a7), qI_ne (Or.inl a6), ha a a6 a7]
          · by_cases e : x = i
            · subst e
              rw [qI_ne (Or.inl (by decide)), qI_eq, qI_eq]
              first
                | (rw [if_pos h22]; exact ⟨rfl, rfl⟩)
                | (rw [if_neg h22]; exact ⟨rfl, rfl⟩)
            · rw [qI_ne (Or.inr e), qI_ne (Or.inr e), qI_ne (Or.inr e), qI_ne (Or.inr e)]; exact hx x (by omega)
  refine T.iconst (pc' := 1) (v := nI 1) (q_d dX6_solves_0 0 rfl) rfl (by decide) ?_
  refine T.aload_n (pc' := 2) (q_d dX6_solves_0 1 rfl) rfl rfl rfl ?_
  refine T.getR (pc' := 5) (ci := 6) (k0 := 0) (q_d dX6_solves_0 2 rfl) rfl rfl (by decide) rfl inX6 (by decide) rfl wF_X6_7 (rP hX.1 rfl) ?_
  refine T.iconst (pc' := 6) (v := nI 0) (q_d dX6_solves_0 3 rfl) rfl (by decide) ?_
  refine T.iald (pc' := 7) (q_d dX6_solves_0 4 rfl) rfl rfl (by decide) rfl (by omega) (by decide) (hX.2.1 0 (by decide)) ?_
  refine T.ishl (pc' := 8) (q_d dX6_solves_0 5 rfl) rfl ((nN_shl _ (by omega)).trans (by rw [Nat.one_shiftLeft])) ?_
  refine T.istore_n (pc' := 9) (q_d dX6_solves_0 6 rfl) rfl rfl (by decide) rfl rfl ?_
  refine T.iconst (pc' := 10) (v := nI 0) (q_d dX6_solves_0 7 rfl) rfl (by decide) ?_
  refine T.istore_n (pc' := 11) (q_d dX6_solves_0 8 rfl) rfl rfl (by decide) rfl rfl ?_
  exact loop1 (2 ^ s 0) 0 M (by omega) rfl (fun _ _ _ => rfl) (fun x h => absurd h (Nat.not_lt_zero _))
end CM5
