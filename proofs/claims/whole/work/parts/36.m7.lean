/-! the reference: how many beliefs are kept in mind -/
def CMm (M : qM) (sn : Nat → Bool) : Prop := ∀ x, x < 128 → M.1 8 x = if sn x = true then 1 else 0
section CM7
variable {l : Launch} {M M' : qM} {b b' : Nat} {s s' : Nat → Nat} {k : Nat} {was : Nat → Nat → Nat} {n : Nat} {t : Nat → Nat}
theorem m_memory (hX : RM M b s k was n t) {u : Nat} (hu : u < 4294967296) : Ct l hdM kM mX6_memory [.ref 0, .int (nI u)] M (OM b (qMemory s u, (s, k, was, n, t))) := by
  refine Ct.of [some (.ref 0), some (.int (nI u)), none, none, none, none, none] (by decide +kernel) (fun h => absurd h (by decide)) (Nat.le_of_ble_eq_true rfl) rfl ?_
  have nv := sol_vals (s := s) (g0 := 0) (g1 := 3)
  have nv1 := nv u
  have w7 := hX.2.2.1.1
  have w0 := p2_le w7
  have hpos : 1 ≤ 2 ^ s 0 := Nat.two_pow_pos _
  have e2 : nI 1 <<< (nI (s 0) &&& 31) = nI (2 ^ s 0) := (nN_shl _ (by omega)).trans (by rw [Nat.one_shiftLeft])
  by_cases a1 : u < 2 ^ s 0
  · have loopL : (solN s 0 3 127).1 u ≠ 1000 → ∀ L st (M' : qM), L ≤ 127 → RM M' b s k was n t → (∀ x, x < 2 ^ s 0 → M'.1 6 x = (solN s 0 3 127).1 x ∧ M'.1 7 x = (solN s 0 3 127).2 x) → CMm M' st.1 → (cmL s (solN s 0 3 127).1 (solN s 0 3 127).2 L st).2 = comingN s (solN s 0 3 127).1 (solN s 0 3 127).2 u →
        T l hdM kM mX6_memory (OM b (qMemory s u, (s, k, was, n, t))) 0 0 71 [some (.ref 0), some (.int (nI u)), some (.int (nI st.2)), some (.int (nI L)), none, none, none] [] M' := by
      intro hne L
      induction L with
      | zero =>
        intro st M' hL hX2 hR hcm he
        refine T.iload_n (pc' := 72) (q_d dX6_memory_1 1 rfl) rfl rfl rfl ?_
        refine T.if_leN (tgt := 185) (pc' := 75) (q_d dX6_memory_1 2 rfl) rfl (by decide) (by omega) (fun h72 => ?_) (fun h72 => ?_)
        · refine T.iload_n (pc' := 186) (q_d dX6_memory_2 21 rfl) rfl rfl rfl ?_
          refine T.iret (q_d dX6_memory_2 22 rfl) rfl rfl rfl ?_
          exact ⟨by unfold qMemory; rw [if_pos a1, if_neg hne, ← he]; rfl, hX2⟩
        · exact absurd h72 (by omega)
      | succ L ih =>
        intro st M' hL hX2 hR hcm he
        have inner : ∀ d q (M2 : qM), q + d + 1 = 2 ^ s 0 → RM M2 b s k was n t → (∀ x, x < 2 ^ s 0 → M2.1 6 x = (solN s 0 3 127).1 x ∧ M2.1 7 x = (solN s 0 3 127).2 x) → CMm M2 (cmB s (solN s 0 3 127).1 (solN s 0 3 127).2 (L + 1) q st).1 →
            T l hdM kM mX6_memory (OM b (qMemory s u, (s, k, was, n, t))) 0 0 78 [some (.ref 0), some (.int (nI u)), some (.int (nI (cmB s (solN s 0 3 127).1 (solN s 0 3 127).2 (L + 1) q st).2)), some (.int (nI (L + 1))), some (.int (nI (q + 1))), none, none] [] M2 := by
          intro d
          induction d with
          | zero =>
            intro q M2 hq jX jR jc
            refine T.iload (pc' := 80) (q_d dX6_memory_1 5 rfl) rfl rfl ?_
            refine T.iconst (pc' := 81) (v := nI 1) (q_d dX6_memory_1 6 rfl) rfl (by decide) ?_
            refine T.aload_n (pc' := 82) (q_d dX6_memory_1 7 rfl) rfl rfl rfl ?_
            refine T.getR (pc' := 85) (ci := 6) (k0 := 0) (q_d dX6_memory_1 8 rfl) rfl rfl (by decide) rfl inX6 (by decide) rfl wF_X6_7 (rP jX.1 rfl) ?_
            refine T.iconst (pc' := 86) (v := nI 0) (q_d dX6_memory_1 9 rfl) rfl (by decide) ?_
            refine T.iald (pc' := 87) (q_d dX6_memory_1 10 rfl) rfl rfl (by decide) rfl (by omega) (by decide) (jX.2.1 0 (by decide)) ?_
            refine T.ishl (pc' := 88) (q_d dX6_memory_1 11 rfl) rfl e2 ?_
            refine T.icmp_geN (tgt := 179) (pc' := 91) (q_d dX6_memory_1 12 rfl) rfl (by decide) (by omega) (by omega) (fun h88 => ?_) (fun h88 => ?_)
            · refine T.iinc (pc' := 182) (q_d dX6_memory_2 19 rfl) rfl rfl (nN_m1 (by omega)) (by decide) rfl rfl ?_
              refine T.goto (tgt := 71) (q_d dX6_memory_2 20 rfl) (by decide) ?_
              refine T.drop (loc' := [some (.ref 0), some (.int (nI u)), some (.int (nI (cmB s (solN s 0 3 127).1 (solN s 0 3 127).2 (L + 1) q st).2)), some (.int (nI L)), none, none, none]) ⟨rfl, rfl, rfl, rfl, trivial⟩ ?_
              exact ih (cmB s (solN s 0 3 127).1 (solN s 0 3 127).2 (L + 1) q st) M2 (by omega) jX jR jc (by rw [← he]; simp only [cmL]; rw [show 2 ^ s 0 - 1 = q by omega])
            · exact absurd h88 (by omega)
          | succ d ih2 =>
            intro q M2 hq jX jR jc
            have hn9 := jR (q + 1) (by omega)
            have hv1 := nv (q + 1)
            have mark : (cmB s (solN s 0 3 127).1 (solN s 0 3 127).2 (L + 1) q st).1 (q + 1) = true ∧ (solN s 0 3 127).1 (q + 1) = L + 1 → ∀ e g (M3 : qM), g + e = 4 → RM M3 b s k was n t → (∀ x, x < 2 ^ s 0 → M3.1 6 x = (solN s 0 3 127).1 x ∧ M3.1 7 x = (solN s 0 3 127).2 x) → CMm M3 (markN s (q + 1) ((solN s 0 3 127).2 (q + 1)) (cmB s (solN s 0 3 127).1 (solN s 0 3 127).2 (L + 1) q st).1 g) →
                T l hdM kM mX6_memory (OM b (qMemory s u, (s, k, was, n, t))) 0 0 135 [some (.ref 0), some (.int (nI u)), some (.int (nI ((cmB s (solN s 0 3 127).1 (solN s 0 3 127).2 (L + 1) q st).2 + 1))), some (.int (nI (L + 1))), some (.int (nI (q + 1))), some (.int (nI 1)), some (.int (nI g))] [] M3 := by
              intro hyes e
              induction e with
              | zero =>
                intro g M3 hg kX kR kc
                have eg : g = 4 := by omega
                subst eg
                refine T.iload (pc' := 137) (q_d dX6_memory_1 38 rfl) rfl rfl ?_
                refine T.iconst (pc' := 138) (v := nI 4) (q_d dX6_memory_1 39 rfl) rfl (by decide) ?_
                refine T.icmp_geN (tgt := 173) (pc' := 141) (q_d dX6_memory_2 0 rfl) rfl (by decide) (by omega) (by omega) (fun h138 => ?_) (fun h138 => ?_)
                · refine T.iinc (pc' := 176) (q_d dX6_memory_2 17 rfl) rfl rfl (nN_p _ 1) (by decide) rfl rfl ?_
                  refine T.goto (tgt := 78) (q_d dX6_memory_2 18 rfl) (by decide) ?_
                  refine T.drop (loc' := [some (.ref 0), some (.int (nI u)), some (.int (nI ((cmB s (solN s 0 3 127).1 (solN s 0 3 127).2 (L + 1) q st).2 + 1))), some (.int (nI (L + 1))), some (.int (nI (q + 1 + 1))), none, none]) ⟨rfl, rfl, rfl, rfl, rfl, trivial⟩ ?_
                  have e9 : cmB s (solN s 0 3 127).1 (solN s 0 3 127).2 (L + 1) (q + 1) st = (markN s (q + 1) ((solN s 0 3 127).2 (q + 1)) (cmB s (solN s 0 3 127).1 (solN s 0 3 127).2 (L + 1) q st).1 4, (cmB s (solN s 0 3 127).1 (solN s 0 3 127).2 (L + 1) q st).2 + 1) := by rw [cmB, if_pos hyes]
                  have h9 := ih2 (q + 1) M3 (by omega) kX kR (by rw [e9]; exact kc)
                  rw [e9] at h9
                  exact h9
                · exact absurd h138 (by omega)
              | succ e ih3 =>
                intro g M3 hg kX kR kc
                have hb3 := (kR (q + 1) (by omega)).2
                have tl := thn_lt (s := s) (b := q + 1) (c := (solN s 0 3 127).2 (q + 1)) (g := g) w7
                refine T.iload (pc' := 137) (q_d dX6_memory_1 38 rfl) rfl rfl ?_
                refine T.iconst (pc' := 138) (v := nI 4) (q_d dX6_memory_1 39 rfl) rfl (by decide) ?_
                refine T.icmp_geN (tgt := 173) (pc' := 141) (q_d dX6_memory_2 0 rfl) rfl (by decide) (by omega) (by omega) (fun h138 => ?_) (fun h138 => ?_)
                · exact absurd h138 (by omega)
                · refine T.iload (pc' := 143) (q_d dX6_memory_2 1 rfl) rfl rfl ?_
                  refine T.if_eqN (tgt := 173) (pc' := 146) (q_d dX6_memory_2 2 rfl) rfl (by decide) (by decide) (fun h143 => ?_) (fun h143 => ?_)
                  · exact absurd h143 (by decide)
                  · refine T.aload_n (pc' := 147) (q_d dX6_memory_2 3 rfl) rfl rfl rfl ?_
                    refine T.getR (pc' := 150) (ci := 6) (k0 := 12) (q_d dX6_memory_2 4 rfl) rfl rfl (by decide) rfl inX6 (by decide) rfl wF_X6_32 (rP kX.1 rfl) ?_
                    refine T.aload_n (pc' := 151) (q_d dX6_memory_2 5 rfl) rfl rfl rfl ?_
                    refine T.iload (pc' := 153) (q_d dX6_memory_2 6 rfl) rfl rfl ?_
                    refine T.aload_n (pc' := 154) (q_d dX6_memory_2 7 rfl) rfl rfl rfl ?_
                    refine T.getR (pc' := 157) (ci := 6) (k0 := 11) (q_d dX6_memory_2 8 rfl) rfl rfl (by decide) rfl inX6 (by decide) rfl wF_X6_29 (rP kX.1 rfl) ?_
                    refine T.iload (pc' := 159) (q_d dX6_memory_2 9 rfl) rfl rfl ?_
                    refine T.iald (pc' := 160) (q_d dX6_memory_2 10 rfl) rfl rfl (by decide) rfl (by omega) (by decide) hb3 ?_
                    refine T.iload (pc' := 162) (q_d dX6_memory_2 11 rfl) rfl rfl ?_
                    refine T.callV (pc' := 165) (ci := 6) (q_d dX6_memory_2 12 rfl) rfl uX6_then wM_X6_84 (m_then kX (show q + 1 < 2 ^ s 0 by omega) (Or.inr ⟨rfl, show g < 4 by omega⟩)) rfl rfl (by decide) rfl rfl (by decide) (Nat.le_of_ble_eq_true rfl) rfl rfl (fun _ => rfl) ?_
                    rintro _ _ ⟨rfl, rfl⟩
                    dsimp only [Option.toList, List.cons_append, List.nil_append, List.append_nil]
                    refine T.iconst (pc' := 166) (v := nI 1) (q_d dX6_memory_2 13 rfl) rfl (by decide) ?_
                    refine T.zast (pc' := 167) (q_d dX6_memory_2 14 rfl) rfl rfl (by decide) rfl (by omega) (by decide) (by decide) ?_
                    refine T.iinc (pc' := 170) (q_d dX6_memory_2 15 rfl) rfl rfl (nN_p _ 1) (by decide) rfl rfl ?_
                    refine T.goto (tgt := 135) (q_d dX6_memory_2 16 rfl) (by decide) ?_
                    refine ih3 (g + 1) _ (by omega) (kX.seen rfl (fun a h9 => by funext j; rw [qI_ne (Or.inl h9)])) (fun x hx => ?_) (fun y hy => ?_)
                    · rw [qI_ne (Or.inl (by decide)), qI_ne (Or.inl (by decide))]; exact kR x hx
                    · by_cases e : y = thn s (q + 1) ((solN s 0 3 127).2 (q + 1)) g
                      · subst e
                        rw [qI_eq, markN]; simp
                      · rw [qI_ne (Or.inr e), kc y hy, markN]; simp [e]
            have skip : ¬ ((cmB s (solN s 0 3 127).1 (solN s 0 3 127).2 (L + 1) q st).1 (q + 1) = true ∧ (solN s 0 3 127).1 (q + 1) = L + 1) →
                T l hdM kM mX6_memory (OM b (qMemory s u, (s, k, was, n, t))) 0 0 135 [some (.ref 0), some (.int (nI u)), some (.int (nI ((cmB s (solN s 0 3 127).1 (solN s 0 3 127).2 (L + 1) q st).2 + 0))), some (.int (nI (L + 1))), some (.int (nI (q + 1))), some (.int (nI 0)), some (.int (nI 0))] [] M2 := by
              intro hno
              refine T.iload (pc' := 137) (q_d dX6_memory_1 38 rfl) rfl rfl ?_
              refine T.iconst (pc' := 138) (v := nI 4) (q_d dX6_memory_1 39 rfl) rfl (by decide) ?_
              refine T.icmp_geN (tgt := 173) (pc' := 141) (q_d dX6_memory_2 0 rfl) rfl (by decide) (by omega) (by omega) (fun h138 => ?_) (fun h138 => ?_)
              · exact absurd h138 (by omega)
              · refine T.iload (pc' := 143) (q_d dX6_memory_2 1 rfl) rfl rfl ?_
                refine T.if_eqN (tgt := 173) (pc' := 146) (q_d dX6_memory_2 2 rfl) rfl (by decide) (by decide) (fun h143 => ?_) (fun h143 => ?_)
                · refine T.iinc (pc' := 176) (q_d dX6_memory_2 17 rfl) rfl rfl (nN_p _ 1) (by decide) rfl rfl ?_
                  refine T.goto (tgt := 78) (q_d dX6_memory_2 18 rfl) (by decide) ?_
                  refine T.drop (loc' := [some (.ref 0), some (.int (nI u)), some (.int (nI ((cmB s (solN s 0 3 127).1 (solN s 0 3 127).2 (L + 1) q st).2))), some (.int (nI (L + 1))), some (.int (nI (q + 1 + 1))), none, none]) ⟨rfl, rfl, rfl, rfl, rfl, trivial⟩ ?_
                  have e9 : cmB s (solN s 0 3 127).1 (solN s 0 3 127).2 (L + 1) (q + 1) st = cmB s (solN s 0 3 127).1 (solN s 0 3 127).2 (L + 1) q st := by rw [cmB, if_neg hno]
                  have h9 := ih2 (q + 1) M2 (by omega) jX jR (by rw [e9]; exact jc)
                  rw [e9] at h9
                  exact h9
                · exact absurd rfl h143
            refine T.iload (pc' := 80) (q_d dX6_memory_1 5 rfl) rfl rfl ?_
            refine T.iconst (pc' := 81) (v := nI 1) (q_d dX6_memory_1 6 rfl) rfl (by decide) ?_
            refine T.aload_n (pc' := 82) (q_d dX6_memory_1 7 rfl) rfl rfl rfl ?_
            refine T.getR (pc' := 85) (ci := 6) (k0 := 0) (q_d dX6_memory_1 8 rfl) rfl rfl (by decide) rfl inX6 (by decide) rfl wF_X6_7 (rP jX.1 rfl) ?_
            refine T.iconst (pc' := 86) (v := nI 0) (q_d dX6_memory_1 9 rfl) rfl (by decide) ?_
            refine T.iald (pc' := 87) (q_d dX6_memory_1 10 rfl) rfl rfl (by decide) rfl (by omega) (by decide) (jX.2.1 0 (by decide)) ?_
            refine T.ishl (pc' := 88) (q_d dX6_memory_1 11 rfl) rfl e2 ?_
            refine T.icmp_geN (tgt := 179) (pc' := 91) (q_d dX6_memory_1 12 rfl) rfl (by decide) (by omega) (by omega) (fun h88 => ?_) (fun h88 => ?_)
            · exact absurd h88 (by omega)
            · refine T.aload_n (pc' := 92) (q_d dX6_memory_1 13 rfl) rfl rfl rfl ?_
              refine T.getR (pc' := 95) (ci := 6) (k0 := 12) (q_d dX6_memory_1 14 rfl) rfl rfl (by decide) rfl inX6 (by decide) rfl wF_X6_32 (rP jX.1 rfl) ?_
              refine T.iload (pc' := 97) (q_d dX6_memory_1 15 rfl) rfl rfl ?_
              refine T.zald (pc' := 98) (q_d dX6_memory_1 16 rfl) rfl rfl (by decide) rfl (by omega) (by decide) (jc (q + 1) (by omega)) ?_
              refine T.if_eqN (tgt := 116) (pc' := 101) (q_d dX6_memory_1 17 rfl) rfl (by decide) (by split <;> decide) (fun h98 => ?_) (fun h98 => ?_)
              · refine T.iconst (pc' := 117) (v := nI 0) (q_d dX6_memory_1 26 rfl) rfl (by decide) ?_
                refine T.istore (pc' := 119) (q_d dX6_memory_1 27 rfl) rfl (by decide) rfl rfl ?_
                refine T.iload_n (pc' := 120) (q_d dX6_memory_1 28 rfl) rfl rfl rfl ?_
                refine T.iload (pc' := 122) (q_d dX6_memory_1 29 rfl) rfl rfl ?_
                refine T.if_eqN (tgt := 129) (pc' := 125) (q_d dX6_memory_1 30 rfl) rfl (by decide) (by decide) (fun h122 => ?_) (fun h122 => ?_)
                · refine T.iconst (pc' := 130) (v := nI 0) (q_d dX6_memory_1 33 rfl) rfl (by decide) ?_
                  refine T.iadd (pc' := 131) (q_d dX6_memory_1 34 rfl) rfl (nI_add _ _) ?_
                  refine T.istore_n (pc' := 132) (q_d dX6_memory_1 35 rfl) rfl rfl (by decide) rfl rfl ?_
                  refine T.iconst (pc' := 133) (v := nI 0) (q_d dX6_memory_1 36 rfl) rfl (by decide) ?_
                  refine T.istore (pc' := 135) (q_d dX6_memory_1 37 rfl) rfl (by decide) rfl rfl ?_
                  first
                    | exact absurd h122 (by decide)
                    | exact absurd rfl h122
                    | exact skip (fun z => by rw [if_pos z.1] at h98; exact absurd h98 (by decide))
                    | exact skip (fun z => h109 z.2)
                    | exact mark ⟨b01_ne h98, h109⟩ 4 0 M2 (by decide) jX jR jc
                · refine T.iconst (pc' := 126) (v := nI 1) (q_d dX6_memory_1 31 rfl) rfl (by decide) ?_
                  refine T.goto (tgt := 130) (q_d dX6_memory_1 32 rfl) (by decide) ?_
                  refine T.iadd (pc' := 131) (q_d dX6_memory_1 34 rfl) rfl (nI_add _ _) ?_
                  refine T.istore_n (pc' := 132) (q_d dX6_memory_1 35 rfl) rfl rfl (by decide) rfl rfl ?_
                  refine T.iconst (pc' := 133) (v := nI 0) (q_d dX6_memory_1 36 rfl) rfl (by decide) ?_
                  refine T.istore (pc' := 135) (q_d dX6_memory_1 37 rfl) rfl (by decide) rfl rfl ?_
                  first
                    | exact absurd h122 (by decide)
                    | exact absurd rfl h122
                    | exact skip (fun z => by rw [if_pos z.1] at h98; exact absurd h98 (by decide))
                    | exact skip (fun z => h109 z.2)
                    | exact mark ⟨b01_ne h98, h109⟩ 4 0 M2 (by decide) jX jR jc
              · refine T.aload_n (pc' := 102) (q_d dX6_memory_1 18 rfl) rfl rfl rfl ?_
                refine T.getR (pc' := 105) (ci := 6) (k0 := 10) (q_d dX6_memory_1 19 rfl) rfl rfl (by decide) rfl inX6 (by decide) rfl wF_X6_26 (rP jX.1 rfl) ?_
                refine T.iload (pc' := 107) (q_d dX6_memory_1 20 rfl) rfl rfl ?_
                refine T.iald (pc' := 108) (q_d dX6_memory_1 21 rfl) rfl rfl (by decide) rfl (by omega) (by decide) hn9.1 ?_
                refine T.iload_n (pc' := 109) (q_d dX6_memory_1 22 rfl) rfl rfl rfl ?_
                refine T.icmp_neN (tgt := 116) (pc' := 112) (q_d dX6_memory_1 23 rfl) rfl (by decide) (by omega) (by omega) (fun h109 => ?_) (fun h109 => ?_)
                · refine T.iconst (pc' := 117) (v := nI 0) (q_d dX6_memory_1 26 rfl) rfl (by decide) ?_
                  refine T.istore (pc' := 119) (q_d dX6_memory_1 27 rfl) rfl (by decide) rfl rfl ?_
                  refine T.iload_n (pc' := 120) (q_d dX6_memory_1 28 rfl) rfl rfl rfl ?_
                  refine T.iload (pc' := 122) (q_d dX6_memory_1 29 rfl) rfl rfl ?_
                  refine T.if_eqN (tgt := 129) (pc' := 125) (q_d dX6_memory_1 30 rfl) rfl (by decide) (by decide) (fun h122 => ?_) (fun h122 => ?_)
                  · refine T.iconst (pc' := 130) (v := nI 0) (q_d dX6_memory_1 33 rfl) rfl (by decide) ?_
                    refine T.iadd (pc' := 131) (q_d dX6_memory_1 34 rfl) rfl (nI_add _ _) ?_
                    refine T.istore_n (pc' := 132) (q_d dX6_memory_1 35 rfl) rfl rfl (by decide) rfl rfl ?_
                    refine T.iconst (pc' := 133) (v := nI 0) (q_d dX6_memory_1 36 rfl) rfl (by decide) ?_
                    refine T.istore (pc' := 135) (q_d dX6_memory_1 37 rfl) rfl (by decide) rfl rfl ?_
                    first
                      | exact absurd h122 (by decide)
                      | exact absurd rfl h122
                      | exact skip (fun z => by rw [if_pos z.1] at h98; exact absurd h98 (by decide))
                      | exact skip (fun z => h109 z.2)
                      | exact mark ⟨b01_ne h98, h109⟩ 4 0 M2 (by decide) jX jR jc
                  · refine T.iconst (pc' := 126) (v := nI 1) (q_d dX6_memory_1 31 rfl) rfl (by decide) ?_
                    refine T.goto (tgt := 130) (q_d dX6_memory_1 32 rfl) (by decide) ?_
                    refine T.iadd (pc' := 131) (q_d dX6_memory_1 34 rfl) rfl (nI_add _ _) ?_
                    refine T.istore_n (pc' := 132) (q_d dX6_memory_1 35 rfl) rfl rfl (by decide) rfl rfl ?_
                    refine T.iconst (pc' := 133) (v := nI 0) (q_d dX6_memory_1 36 rfl) rfl (by decide) ?_
                    refine T.istore (pc' := 135) (q_d dX6_memory_1 37 rfl) rfl (by decide) rfl rfl ?_
                    first
                      | exact absurd h122 (by decide)
                      | exact absurd rfl h122
                      | exact skip (fun z => by rw [if_pos z.1] at h98; exact absurd h98 (by decide))
                      | exact skip (fun z => h109 z.2)
                      | exact mark ⟨b01_ne h98, h109⟩ 4 0 M2 (by decide) jX jR jc
                · refine T.iconst (pc' := 113) (v := nI 1) (q_d dX6_memory_1 24 rfl) rfl (by decide) ?_
                  refine T.goto (tgt := 117) (q_d dX6_memory_1 25 rfl) (by decide) ?_
                  refine T.istore (pc' := 119) (q_d dX6_memory_1 27 rfl) rfl (by decide) rfl rfl ?_
                  refine T.iload_n (pc' := 120) (q_d dX6_memory_1 28 rfl) rfl rfl rfl ?_
                  refine T.iload (pc' := 122) (q_d dX6_memory_1 29 rfl) rfl rfl ?_
                  refine T.if_eqN (tgt := 129) (pc' := 125) (q_d dX6_memory_1 30 rfl) rfl (by decide) (by decide) (fun h122 => ?_) (fun h122 => ?_)
                  · refine T.iconst (pc' := 130) (v := nI 0) (q_d dX6_memory_1 33 rfl) rfl (by decide) ?_
                    refine T.iadd (pc' := 131) (q_d dX6_memory_1 34 rfl) rfl (nI_add _ _) ?_
                    refine T.istore_n (pc' := 132) (q_d dX6_memory_1 35 rfl) rfl rfl (by decide) rfl rfl ?_
                    refine T.iconst (pc' := 133) (v := nI 0) (q_d dX6_memory_1 36 rfl) rfl (by decide) ?_
                    refine T.istore (pc' := 135) (q_d dX6_memory_1 37 rfl) rfl (by decide) rfl rfl ?_
                    first
                      | exact absurd h122 (by decide)
                      | exact absurd rfl h122
                      | exact skip (fun z => by rw [if_pos z.1] at h98; exact absurd h98 (by decide))
                      | exact skip (fun z => h109 z.2)
                      | exact mark ⟨b01_ne h98, h109⟩ 4 0 M2 (by decide) jX jR jc
                  · refine T.iconst (pc' := 126) (v := nI 1) (q_d dX6_memory_1 31 rfl) rfl (by decide) ?_
                    refine T.goto (tgt := 130) (q_d dX6_memory_1 32 rfl) (by decide) ?_
                    refine T.iadd (pc' := 131) (q_d dX6_memory_1 34 rfl) rfl (nI_add _ _) ?_
                    refine T.istore_n (pc' := 132) (q_d dX6_memory_1 35 rfl) rfl rfl (by decide) rfl rfl ?_
                    refine T.iconst (pc' := 133) (v := nI 0) (q_d dX6_memory_1 36 rfl) rfl (by decide) ?_
                    refine T.istore (pc' := 135) (q_d dX6_memory_1 37 rfl) rfl (by decide) rfl rfl ?_
                    first
                      | exact absurd h122 (by decide)
                      | exact absurd rfl h122
                      | exact skip (fun z => by rw [if_pos z.1] at h98; exact absurd h98 (by decide))
                      | exact skip (fun z => h109 z.2)
                      | exact mark ⟨b01_ne h98, h109⟩ 4 0 M2 (by decide) jX jR jc
        refine T.iload_n (pc' := 72) (q_d dX6_memory_1 1 rfl) rfl rfl rfl ?_
        refine T.if_leN (tgt := 185) (pc' := 75) (q_d dX6_memory_1 2 rfl) rfl (by decide) (by omega) (fun h72 => ?_) (fun h72 => ?_)
        · exact absurd h72 (by omega)
        · refine T.iconst (pc' := 76) (v := nI 1) (q_d dX6_memory_1 3 rfl) rfl (by decide) ?_
          refine T.istore (pc' := 78) (q_d dX6_memory_1 4 rfl) rfl (by decide) rfl rfl ?_
          exact inner (2 ^ s 0 - 1) 0 M' (by omega) hX2 hR hcm
    have loop0 : ∀ d i (M' : qM), i + d = 128 → RM M' b s k was n t → (∀ x, x < 2 ^ s 0 → M'.1 6 x = (solN s 0 3 127).1 x ∧ M'.1 7 x = (solN s 0 3 127).2 x) → (solN s 0 3 127).1 u ≠ 1000 → (∀ y, y < i → M'.1 8 y = if y = u then 1 else 0) →
        T l hdM kM mX6_memory (OM b (qMemory s u, (s, k, was, n, t))) 0 0 33 [some (.ref 0), some (.int (nI u)), some (.int (nI i)), none, none, none, none] [] M' := by
      intro d
      induction d with
      | zero =>
        intro i M' hi hX2 hR hne hz
        have hn := (hR u a1).1
        refine T.iload_n (pc' := 34) (q_d dX6_memory_0 19 rfl) rfl rfl rfl ?_
        refine T.sipush (pc' := 37) (v := nI 128) (q_d dX6_memory_0 20 rfl) rfl (by decide) ?_
        refine T.icmp_geN (tgt := 62) (pc' := 40) (q_d dX6_memory_0 21 rfl) rfl (by decide) (by omega) (by omega) (fun h37 => ?_) (fun h37 => ?_)
        · refine T.iconst (pc' := 63) (v := nI 0) (q_d dX6_memory_0 34 rfl) rfl (by decide) ?_
          refine T.istore_n (pc' := 64) (q_d dX6_memory_0 35 rfl) rfl rfl (by decide) rfl rfl ?_
          refine T.aload_n (pc' := 65) (q_d dX6_memory_0 36 rfl) rfl rfl rfl ?_
          refine T.getR (pc' := 68) (ci := 6) (k0 := 10) (q_d dX6_memory_0 37 rfl) rfl rfl (by decide) rfl inX6 (by decide) rfl wF_X6_26 (rP hX2.1 rfl) ?_
          refine T.iload_n (pc' := 69) (q_d dX6_memory_0 38 rfl) rfl rfl rfl ?_
          refine T.iald (pc' := 70) (q_d dX6_memory_0 39 rfl) rfl rfl (by decide) rfl (by omega) (by decide) hn ?_
          refine T.istore_n (pc' := 71) (q_d dX6_memory_1 0 rfl) rfl rfl (by decide) rfl rfl ?_
          refine loopL hne ((solN s 0 3 127).1 u) (fun y => decide (y = u), 0) M' (by omega) hX2 hR (fun y hy => ?_) rfl
          rw [hz y (by omega)]
          by_cases e : y = u
          · rw [if_pos e, if_pos (decide_eq_true e)]
          · rw [if_neg e, if_neg (by simpa using e)]
        · exact absurd h37 (by omega)
      | succ d ih =>
        intro i M' hi hX2 hR hne hz
        refine T.iload_n (pc' := 34) (q_d dX6_memory_0 19 rfl) rfl rfl rfl ?_
        refine T.sipush (pc' := 37) (v := nI 128) (q_d dX6_memory_0 20 rfl) rfl (by decide) ?_
        refine T.icmp_geN (tgt := 62) (pc' := 40) (q_d dX6_memory_0 21 rfl) rfl (by decide) (by omega) (by omega) (fun h37 => ?_) (fun h37 => ?_)
        · exact absurd h37 (by omega)
        · refine T.aload_n (pc' := 41) (q_d dX6_memory_0 22 rfl) rfl rfl rfl ?_
          refine T.getR (pc' := 44) (ci := 6) (k0 := 12) (q_d dX6_memory_0 23 rfl) rfl rfl (by decide) rfl inX6 (by decide) rfl wF_X6_32 (rP hX2.1 rfl) ?_
          refine T.iload_n (pc' := 45) (q_d dX6_memory_0 24 rfl) rfl rfl rfl ?_
          refine T.iload_n (pc' := 46) (q_d dX6_memory_0 25 rfl) rfl rfl rfl ?_
          refine T.iload_n (pc' := 47) (q_d dX6_memory_0 26 rfl) rfl rfl rfl ?_
          refine T.icmp_neN (tgt := 54) (pc' := 50) (q_d dX6_memory_0 27 rfl) rfl (by decide) (by omega) (by omega) (fun h47 => ?_) (fun h47 => ?_)
          · refine T.iconst (pc' := 55) (v := nI 0) (q_d dX6_memory_0 30 rfl) rfl (by decide) ?_
            refine T.zast (pc' := 56) (q_d dX6_memory_0 31 rfl) rfl rfl (by decide) rfl (by omega) (by decide) (by decide) ?_
            refine T.iinc (pc' := 59) (q_d dX6_memory_0 32 rfl) rfl rfl (nN_p _ 1) (by decide) rfl rfl ?_
            refine T.goto (tgt := 33) (q_d dX6_memory_0 33 rfl) (by decide) ?_
            refine ih (i + 1) _ (by omega) (hX2.seen rfl (fun a h9 => by funext j; rw [qI_ne (Or.inl h9)])) (fun x hx => ?_) hne (fun y hy => ?_)
            · rw [qI_ne (Or.inl (by decide)), qI_ne (Or.inl (by decide))]; exact hR x hx
            · by_cases e : y = i
              · subst e
                rw [qI_eq]
                first
                  | (rw [if_pos h47]; done)
                  | (rw [if_neg h47]; done)
              · rw [qI_ne (Or.inr e)]; exact hz y (by omega)
          · refine T.iconst (pc' := 51) (v := nI 1) (q_d dX6_memory_0 28 rfl) rfl (by decide) ?_
            refine T.goto (tgt := 55) (q_d dX6_memory_0 29 rfl) (by decide) ?_
            refine T.zast (pc' := 56) (q_d dX6_memory_0 31 rfl) rfl rfl (by decide) rfl (by omega) (by decide) (by decide) ?_
            refine T.iinc (pc' := 59) (q_d dX6_memory_0 32 rfl) rfl rfl (nN_p _ 1) (by decide) rfl rfl ?_
            refine T.goto (tgt := 33) (q_d dX6_memory_0 33 rfl) (by decide) ?_
            refine ih (i + 1) _ (by omega) (hX2.seen rfl (fun a h9 => by funext j; rw [qI_ne (Or.inl h9)])) (fun x hx => ?_) hne (fun y hy => ?_)
            · rw [qI_ne (Or.inl (by decide)), qI_ne (Or.inl (by decide))]; exact hR x hx
            · by_cases e : y = i
              · subst e
                rw [qI_eq]
                first
                  | (rw [if_pos h47]; done)
                  | (rw [if_neg h47]; done)
              · rw [qI_ne (Or.inr e)]; exact hz y (by omega)
    refine T.aload_n (pc' := 1) (q_d dX6_memory_0 0 rfl) rfl rfl rfl ?_
    refine T.iload_n (pc' := 2) (q_d dX6_memory_0 1 rfl) rfl rfl rfl ?_
    refine T.callV (pc' := 5) (ci := 6) (q_d dX6_memory_0 2 rfl) rfl uX6_isSet wM_X6_78 (m_isSet hX hu) rfl rfl (by decide) rfl rfl (by decide) (Nat.le_of_ble_eq_true rfl) rfl rfl (fun _ => rfl) ?_
    rintro _ _ ⟨rfl, rfl⟩
    dsimp only [Option.toList, List.cons_append, List.nil_append, List.append_nil]
    refine T.if_neN (tgt := 11) (pc' := 8) (q_d dX6_memory_0 3 rfl) rfl (by decide) (by split <;> decide) (fun h5 => ?_) (fun h5 => ?_)
    · refine T.aload_n (pc' := 12) (q_d dX6_memory_0 6 rfl) rfl rfl rfl ?_
      refine T.iconst (pc' := 13) (v := nI 1) (q_d dX6_memory_0 7 rfl) rfl (by decide) ?_
      refine T.callV (pc' := 16) (ci := 6) (q_d dX6_memory_0 8 rfl) rfl uX6_solves wM_X6_96 (m_solves hX (z := 1) (Or.inl ⟨rfl, rfl, rfl⟩)) rfl rfl (by decide) rfl rfl (by decide) (Nat.le_of_ble_eq_true rfl) rfl rfl (fun _ => rfl) ?_
      rintro _ M2 ⟨rfl, f2, fa, f1⟩
      have hX2 := hX.sol f2 fa
      have hn := f1 u a1
      dsimp only [Option.toList, List.cons_append, List.nil_append, List.append_nil]
      refine T.aload_n (pc' := 17) (q_d dX6_memory_0 9 rfl) rfl rfl rfl ?_
      refine T.getR (pc' := 20) (ci := 6) (k0 := 10) (q_d dX6_memory_0 10 rfl) rfl rfl (by decide) rfl inX6 (by decide) rfl wF_X6_26 (rP (P := pM) (by first | exact hX2.1 | exact hX.1) rfl) ?_
      refine T.iload_n (pc' := 21) (q_d dX6_memory_0 11 rfl) rfl rfl rfl ?_
      refine T.iald (pc' := 22) (q_d dX6_memory_0 12 rfl) rfl rfl (by decide) rfl (by omega) (by decide) hn.1 ?_
      refine T.sipush (pc' := 25) (v := nI 1000) (q_d dX6_memory_0 13 rfl) rfl (by decide) ?_
      refine T.icmp_neN (tgt := 31) (pc' := 28) (q_d dX6_memory_0 14 rfl) rfl (by decide) (by omega) (by omega) (fun h25 => ?_) (fun h25 => ?_)
      · refine T.iconst (pc' := 32) (v := nI 0) (q_d dX6_memory_0 17 rfl) rfl (by decide) ?_
        refine T.istore_n (pc' := 33) (q_d dX6_memory_0 18 rfl) rfl rfl (by decide) rfl rfl ?_
        exact loop0 128 0 M2 (by omega) hX2 f1 h25 (fun y h => absurd h (Nat.not_lt_zero _))
      · refine T.ldc (pc' := 30) (v := nI 4293967292) (q_d dX6_memory_0 15 rfl) rfl wN_X6_91 ?_
        refine T.iret (q_d dX6_memory_0 16 rfl) rfl rfl rfl ?_
        exact ⟨by unfold qMemory; rw [if_pos a1, if_pos h25], hX2⟩
    · exact absurd h5 (by rw [if_pos a1]; decide)
  · refine T.aload_n (pc' := 1) (q_d dX6_memory_0 0 rfl) rfl rfl rfl ?_
    refine T.iload_n (pc' := 2) (q_d dX6_memory_0 1 rfl) rfl rfl rfl ?_
    refine T.callV (pc' := 5) (ci := 6) (q_d dX6_memory_0 2 rfl) rfl uX6_isSet wM_X6_78 (m_isSet hX hu) rfl rfl (by decide) rfl rfl (by decide) (Nat.le_of_ble_eq_true rfl) rfl rfl (fun _ => rfl) ?_
    rintro _ _ ⟨rfl, rfl⟩
    dsimp only [Option.toList, List.cons_append, List.nil_append, List.append_nil]
    refine T.if_neN (tgt := 11) (pc' := 8) (q_d dX6_memory_0 3 rfl) rfl (by decide) (by split <;> decide) (fun h5 => ?_) (fun h5 => ?_)
    · exact absurd (if_neg a1) h5
    · refine T.ldc (pc' := 10) (v := nI 4293967295) (q_d dX6_memory_0 4 rfl) rfl wN_X6_47 ?_
      refine T.iret (q_d dX6_memory_0 5 rfl) rfl rfl rfl ?_
      exact ⟨by unfold qMemory; rw [if_neg a1], hX⟩
end CM7
