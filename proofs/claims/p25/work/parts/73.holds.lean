/-! what the law holds of an object at any time -/
section Holds
variable {l : Launch} {M : qM} {b : Nat} {s : Nat → Nat} {k : Nat} {was : Nat → Nat → Nat} {n : Nat} {t pa : Nat → Nat} {sw : Bool}
theorem sum_le (h7 : s 0 ≤ 7) {o : Nat} {p : Nat} (hp : p ≤ 7) : sumTo (fun i => ones (s (o + i))) p ≤ 49 := by
  have h := sumTo_le (f := fun i => ones (s (o + i))) (m := 7) (fun i => ones_le _) p
  omega
theorem rdN_le (h7 : s 0 ≤ 7) {o : Nat} : rdN s o ≤ 49 := by
  have h := sum_le h7 (s := s) (o := o) h7
  unfold rdN
  omega
theorem c_holds (hb : b < 2 ^ 30) (hX : RX M b s k was n t pa sw) (hI : IN s) : Ct l hdX kX mL_holds [.ref 0] M (OX b (1, (s, k, was, n, t))) := by
  refine Ct.of [some (.ref 0), none, none, none, none, none, none, none] (by decide +kernel) (fun h => absurd h (by decide)) (Nat.le_of_ble_eq_true rfl) rfl ?_
  have hw := hX.2.2.2.1
  have h7 := hw.1
  have w0 := p2_le h7
  have w1 := hw.2.1
  have e1n : 1 <<< s 0 = 2 ^ s 0 := Nat.one_shiftLeft _
  have h1n : 1 ≤ 2 ^ s 0 := Nat.two_pow_pos _
  have hda : s 1 &&& (2 ^ s 0 - 1 ^^^ 4294967295) = 0 := dif_all w1 h7
  have hrd := rd_le hw
  have hr14 := rdN_le h7 (o := 14)
  have hr21 := rdN_le h7 (o := 21)
  have hs14 := sum_le h7 (s := s) (o := 14) h7
  have hs21 := sum_le h7 (s := s) (o := 21) h7
  have er14 : rdN s 14 = sumTo (fun i => ones (s (14 + i))) (s 0) / 2 := rfl
  have er21 : rdN s 21 = sumTo (fun i => ones (s (21 + i))) (s 0) / 2 := rfl
  have hpar := thn_parts hw (x := s 1) (c := 0)
  have hpl := thn_lt (s := s) (b := s 1) (c := 0) (g := 4) h7
  have hnd := nset_deaf h7 (s := s) (n := 2 ^ s 0 - 1) (by omega)
  have hnl := nset_le (nd := (solN s 0 3 127).1) (n := 2 ^ s 0 - 1)
  have loop2 : ∀ d g (M1 : qM) (pa1 : Nat → Nat) (sw1 : Bool), g + d = 4 → RX M1 b s k was n t pa1 sw1 → T l hdX kX mL_holds (OX b (1, (s, k, was, n, t))) 0 0 205 [some (.ref 0), some (.int (nI (s 0))), some (.int (nI (2 ^ s 0 - 1))), some (.int (nI (sumTo (fun i => ones (s (14 + i))) (s 0)))), some (.int (nI (sumTo (fun i => ones (s (21 + i))) (s 0)))), some (.int (nI 1)), some (.int (nI (orTo (fun g => thn s (s 1) 0 g) g))), some (.int (nI g))] [] M1 := by
    intro d
    induction d with
    | zero =>
      intro g M1 pa1 sw1 hgd hX1
      have e : g = 4 := by omega
      subst e
      rw [hpar]
      refine T.iload (pc' := 207) (q_d dL_holds_3 1 rfl) rfl rfl ?_
      refine T.iconst (pc' := 208) (v := nI 4) (q_d dL_holds_3 2 rfl) rfl (by decide) ?_
      refine T.icmp_geN (tgt := 234) (pc' := 211) (q_d dL_holds_3 3 rfl) rfl (by decide) (by omega) (by omega) (fun h208 => ?_) (fun h208 => ?_)
      · refine T.iload (pc' := 236) (q_d dL_holds_3 16 rfl) rfl rfl ?_
        refine T.if_eqN (tgt := 304) (pc' := 239) (q_d dL_holds_3 17 rfl) rfl (by decide) (by omega) (fun h236 => ?_) (fun h236 => ?_)
        · exact absurd h236 (by decide)
        · refine T.aload_n (pc' := 240) (q_d dL_holds_3 18 rfl) rfl rfl rfl ?_
          refine T.iconst (pc' := 241) (v := nI 1) (q_d dL_holds_3 19 rfl) rfl (by decide) ?_
          refine T.callV (pc' := 244) (ci := 5) (q_d dL_holds_3 20 rfl) rfl uX5_count wM_L_38 (c_cnt hX1 hb (u := 1) (x := rdN s 14) (by decide) rfl) rfl rfl (by decide) rfl rfl (by decide) (Nat.le_of_ble_eq_true rfl) rfl rfl (fun _ => rfl) ?_
          rintro _ M2 ⟨rfl, pa2, sw2, hX2⟩
          replace hX2 : RX M2 b s k was n t pa2 sw2 := hX2
          dsimp only [Option.toList, List.cons_append, List.nil_append, List.append_nil]
          refine T.iload_n (pc' := 245) (q_d dL_holds_3 21 rfl) rfl rfl rfl ?_
          refine T.iconst (pc' := 246) (v := nI 2) (q_d dL_holds_3 22 rfl) rfl (by decide) ?_
          refine T.idiv (pc' := 247) (q_d dL_holds_3 23 rfl) rfl (by decide) (pk_div (by omega) (by omega) (by omega)) ?_
          refine T.icmp_neN (tgt := 304) (pc' := 250) (q_d dL_holds_3 24 rfl) rfl (by decide) (by omega) (by omega) (fun h247 => ?_) (fun h247 => ?_)
          · exact absurd er14 h247
          · refine T.aload_n (pc' := 251) (q_d dL_holds_3 25 rfl) rfl rfl rfl ?_
            refine T.iconst (pc' := 252) (v := nI 2) (q_d dL_holds_3 26 rfl) rfl (by decide) ?_
            refine T.callV (pc' := 255) (ci := 5) (q_d dL_holds_3 27 rfl) rfl uX5_count wM_L_38 (c_cnt hX2 hb (u := 2) (x := rdN s 21) (by decide) rfl) rfl rfl (by decide) rfl rfl (by decide) (Nat.le_of_ble_eq_true rfl) rfl rfl (fun _ => rfl) ?_
            rintro _ M3 ⟨rfl, pa3, sw3, hX3⟩
            replace hX3 : RX M3 b s k was n t pa3 sw3 := hX3
            dsimp only [Option.toList, List.cons_append, List.nil_append, List.append_nil]
            refine T.iload (pc' := 257) (q_d dL_holds_3 28 rfl) rfl rfl ?_
            refine T.iconst (pc' := 258) (v := nI 2) (q_d dL_holds_3 29 rfl) rfl (by decide) ?_
            refine T.idiv (pc' := 259) (q_d dL_holds_3 30 rfl) rfl (by decide) (pk_div (by omega) (by omega) (by omega)) ?_
            refine T.icmp_neN (tgt := 304) (pc' := 262) (q_d dL_holds_3 31 rfl) rfl (by decide) (by omega) (by omega) (fun h259 => ?_) (fun h259 => ?_)
            · exact absurd er21 h259
            · refine T.iload (pc' := 264) (q_d dL_holds_3 32 rfl) rfl rfl ?_
              refine T.aload_n (pc' := 265) (q_d dL_holds_3 33 rfl) rfl rfl rfl ?_
              refine T.aload_n (pc' := 266) (q_d dL_holds_3 34 rfl) rfl rfl rfl ?_
              refine T.iconst (pc' := 267) (v := nI 3) (q_d dL_holds_3 35 rfl) rfl (by decide) ?_
              refine T.callV (pc' := 270) (ci := 5) (q_d dL_holds_3 36 rfl) rfl uX5_count wM_L_38 (c_cnt hX3 hb (u := 3) (x := s 1) (by decide) rfl) rfl rfl (by decide) rfl rfl (by decide) (Nat.le_of_ble_eq_true rfl) rfl rfl (fun _ => rfl) ?_
              rintro _ M4 ⟨rfl, pa4, sw4, hX4⟩
              replace hX4 : RX M4 b s k was n t pa4 sw4 := hX4
              dsimp only [Option.toList, List.cons_append, List.nil_append, List.append_nil]
              refine T.iconst (pc' := 271) (v := nI 0) (q_d dL_holds_3 37 rfl) rfl (by decide) ?_
              refine T.iconst (pc' := 272) (v := nI 4294967295) (q_d dL_holds_3 38 rfl) rfl (by decide) ?_
              refine T.callV (pc' := 275) (ci := 5) (q_d dL_holds_3 39 rfl) rfl uX5_behind wM_L_9 (c_behA hX4 w1 (show 0 < 2 ^ s 0 by omega)) rfl rfl (by decide) rfl rfl (by decide) (Nat.le_of_ble_eq_true rfl) rfl rfl (fun _ => rfl) ?_
              rintro _ M5 ⟨rfl, pa5, sw5, hX5⟩
              replace hX5 : RX M5 b s k was n t pa5 sw5 := hX5
              dsimp only [Option.toList, List.cons_append, List.nil_append, List.append_nil]
              refine T.icmp_neN (tgt := 304) (pc' := 278) (q_d dL_holds_4 0 rfl) rfl (by decide) (by omega) (by omega) (fun h275 => ?_) (fun h275 => ?_)
              · exact absurd rfl h275
              · refine T.aload_n (pc' := 279) (q_d dL_holds_4 1 rfl) rfl rfl rfl ?_
                refine T.iconst (pc' := 280) (v := nI 4) (q_d dL_holds_4 2 rfl) rfl (by decide) ?_
                refine T.callV (pc' := 283) (ci := 5) (q_d dL_holds_4 3 rfl) rfl uX5_beliefs wM_L_51 (c_blf hX5 (u := 4) (x := nset (solN s 4 4 127).1 (2 ^ s 0 - 1)) (by decide) rfl) rfl rfl (by decide) rfl rfl (by decide) (Nat.le_of_ble_eq_true rfl) rfl rfl (fun _ => rfl) ?_
                rintro _ M6 ⟨rfl, pa6, sw6, hX6⟩
                replace hX6 : RX M6 b s k was n t pa6 sw6 := hX6
                dsimp only [Option.toList, List.cons_append, List.nil_append, List.append_nil]
                refine T.aload_n (pc' := 284) (q_d dL_holds_4 4 rfl) rfl rfl rfl ?_
                refine T.iconst (pc' := 285) (v := nI 1) (q_d dL_holds_4 5 rfl) rfl (by decide) ?_
                refine T.callV (pc' := 288) (ci := 5) (q_d dL_holds_4 6 rfl) rfl uX5_beliefs wM_L_51 (c_blf hX6 (u := 1) (x := nset (solN s 0 3 127).1 (2 ^ s 0 - 1)) (by decide) rfl) rfl rfl (by decide) rfl rfl (by decide) (Nat.le_of_ble_eq_true rfl) rfl rfl (fun _ => rfl) ?_
                rintro _ M7 ⟨rfl, pa7, sw7, hX7⟩
                replace hX7 : RX M7 b s k was n t pa7 sw7 := hX7
                dsimp only [Option.toList, List.cons_append, List.nil_append, List.append_nil]
                refine T.icmp_gtN (tgt := 304) (pc' := 291) (q_d dL_holds_4 7 rfl) rfl (by decide) (by omega) (by omega) (fun h288 => ?_) (fun h288 => ?_)
                · exact absurd h288 (by omega)
                · refine T.aload_n (pc' := 292) (q_d dL_holds_4 8 rfl) rfl rfl rfl ?_
                  refine T.iconst (pc' := 293) (v := nI 1) (q_d dL_holds_4 9 rfl) rfl (by decide) ?_
                  refine T.callV (pc' := 296) (ci := 5) (q_d dL_holds_4 10 rfl) rfl uX5_beliefs wM_L_51 (c_blf hX7 (u := 1) (x := nset (solN s 0 3 127).1 (2 ^ s 0 - 1)) (by decide) rfl) rfl rfl (by decide) rfl rfl (by decide) (Nat.le_of_ble_eq_true rfl) rfl rfl (fun _ => rfl) ?_
                  rintro _ M8 ⟨rfl, pa8, sw8, hX8⟩
                  replace hX8 : RX M8 b s k was n t pa8 sw8 := hX8
                  dsimp only [Option.toList, List.cons_append, List.nil_append, List.append_nil]
                  refine T.iload_n (pc' := 297) (q_d dL_holds_4 11 rfl) rfl rfl rfl ?_
                  refine T.icmp_gtN (tgt := 304) (pc' := 300) (q_d dL_holds_4 12 rfl) rfl (by decide) (by omega) (by omega) (fun h297 => ?_) (fun h297 => ?_)
                  · exact absurd h297 (by omega)
                  · refine T.iconst (pc' := 301) (v := nI 1) (q_d dL_holds_4 13 rfl) rfl (by decide) ?_
                    refine T.goto (tgt := 305) (q_d dL_holds_4 14 rfl) (by decide) ?_
                    refine T.zret (q_d dL_holds_4 16 rfl) rfl (by decide) rfl rfl ?_
                    exact ⟨rfl, pa8, sw8, hX8⟩
      · exact absurd h208 (by decide)
    | succ d ih =>
      intro g M1 pa1 sw1 hgd hX1
      have eo : orTo (fun g => thn s (s 1) 0 g) (g + 1) = orTo (fun g => thn s (s 1) 0 g) g ||| thn s (s 1) 0 g := rfl
      refine T.iload (pc' := 207) (q_d dL_holds_3 1 rfl) rfl rfl ?_
      refine T.iconst (pc' := 208) (v := nI 4) (q_d dL_holds_3 2 rfl) rfl (by decide) ?_
      refine T.icmp_geN (tgt := 234) (pc' := 211) (q_d dL_holds_3 3 rfl) rfl (by decide) (by omega) (by omega) (fun h208 => ?_) (fun h208 => ?_)
      · exact absurd h208 (by omega)
      · refine T.iload (pc' := 213) (q_d dL_holds_3 4 rfl) rfl rfl ?_
        refine T.aload_n (pc' := 214) (q_d dL_holds_3 5 rfl) rfl rfl rfl ?_
        refine T.aload_n (pc' := 215) (q_d dL_holds_3 6 rfl) rfl rfl rfl ?_
        refine T.iconst (pc' := 216) (v := nI 3) (q_d dL_holds_3 7 rfl) rfl (by decide) ?_
        refine T.callV (pc' := 219) (ci := 5) (q_d dL_holds_3 8 rfl) rfl uX5_count wM_L_38 (c_cnt hX1 hb (u := 3) (x := s 1) (by decide) rfl) rfl rfl (by decide) rfl rfl (by decide) (Nat.le_of_ble_eq_true rfl) rfl rfl (fun _ => rfl) ?_
        rintro _ M2 ⟨rfl, pa2, sw2, hX2⟩
        replace hX2 : RX M2 b s k was n t pa2 sw2 := hX2
        dsimp only [Option.toList, List.cons_append, List.nil_append, List.append_nil]
        refine T.iconst (pc' := 220) (v := nI 0) (q_d dL_holds_3 9 rfl) rfl (by decide) ?_
        refine T.iload (pc' := 222) (q_d dL_holds_3 10 rfl) rfl rfl ?_
        refine T.callV (pc' := 225) (ci := 5) (q_d dL_holds_3 11 rfl) rfl uX5_behind wM_L_9 (c_behG hX2 w1 (show 0 < 2 ^ s 0 by omega) (show g ≤ 3 by omega)) rfl rfl (by decide) rfl rfl (by decide) (Nat.le_of_ble_eq_true rfl) rfl rfl (fun _ => rfl) ?_
        rintro _ M3 ⟨rfl, pa3, sw3, hX3⟩
        replace hX3 : RX M3 b s k was n t pa3 sw3 := hX3
        dsimp only [Option.toList, List.cons_append, List.nil_append, List.append_nil]
        refine T.ior (pc' := 226) (q_d dL_holds_3 12 rfl) rfl (nN_or _ _) ?_
        refine T.istore (pc' := 228) (q_d dL_holds_3 13 rfl) rfl (by decide) rfl rfl ?_
        refine T.iinc (pc' := 231) (q_d dL_holds_3 14 rfl) rfl rfl (nN_p _ 1) (by decide) rfl rfl ?_
        refine T.goto (tgt := 205) (q_d dL_holds_3 15 rfl) (by decide) ?_
        have h9 := ih (g + 1) M3 pa3 sw3 (by omega) hX3
        rw [eo] at h9
        exact h9
  have loop1 : ∀ d p (M1 : qM) (pa1 : Nat → Nat) (sw1 : Bool), p + d = s 0 → RX M1 b s k was n t pa1 sw1 → T l hdX kX mL_holds (OX b (1, (s, k, was, n, t))) 0 0 52 [some (.ref 0), some (.int (nI (s 0))), some (.int (nI (2 ^ s 0 - 1))), some (.int (nI (sumTo (fun i => ones (s (14 + i))) p))), some (.int (nI (sumTo (fun i => ones (s (21 + i))) p))), some (.int (nI 1)), some (.int (nI p)), none] [] M1 := by
    intro d
    induction d with
    | zero =>
      intro p M1 pa1 sw1 hpd hX1
      have e : p = s 0 := by omega
      subst e
      refine T.iload (pc' := 54) (q_d dL_holds_0 35 rfl) rfl rfl ?_
      refine T.iload_n (pc' := 55) (q_d dL_holds_0 36 rfl) rfl rfl rfl ?_
      refine T.icmp_geN (tgt := 199) (pc' := 58) (q_d dL_holds_0 37 rfl) rfl (by decide) (by omega) (by omega) (fun h55 => ?_) (fun h55 => ?_)
      · refine T.iconst (pc' := 200) (v := nI 0) (q_d dL_holds_2 37 rfl) rfl (by decide) ?_
        refine T.istore (pc' := 202) (q_d dL_holds_2 38 rfl) rfl (by decide) rfl rfl ?_
        refine T.iconst (pc' := 203) (v := nI 0) (q_d dL_holds_2 39 rfl) rfl (by decide) ?_
        refine T.istore (pc' := 205) (q_d dL_holds_3 0 rfl) rfl (by decide) rfl rfl ?_
        exact loop2 4 0 M1 pa1 sw1 (by decide) hX1
      · exact absurd h55 (by omega)
    | succ d ih =>
      intro p M1 pa1 sw1 hpd hX1
      have hp : p < s 0 := by omega
      have l14 := (rd_lt (o := 0) hw hp).1
      have l21 := (rd_lt (o := 0) hw hp).2
      have hp2 : 1 <<< p < 2 ^ s 0 := by rw [Nat.one_shiftLeft]; exact Nat.pow_lt_pow_right (by decide) hp
      have o14 := ones_le (s (14 + p))
      have o21 := ones_le (s (21 + p))
      have q14 := sum_le h7 (s := s) (o := 14) (p := p) (by omega)
      have q21 := sum_le h7 (s := s) (o := 21) (p := p) (by omega)
      have f14 : sumTo (fun i => ones (s (14 + i))) (p + 1) = sumTo (fun i => ones (s (14 + i))) p + ones (s (14 + p)) := rfl
      have f21 : sumTo (fun i => ones (s (21 + i))) (p + 1) = sumTo (fun i => ones (s (21 + i))) p + ones (s (21 + p)) := rfl
      have p1 : qPlaceOf s p 1 = s (14 + p) := by unfold qPlaceOf; rw [if_pos hp]; rfl
      have p2 : qPlaceOf s p 2 = s (21 + p) := by unfold qPlaceOf; rw [if_pos hp]; rfl
      have p3 : qPlaceOf s p 3 = goes s p 0 := by unfold qPlaceOf; rw [if_pos hp]; rfl
      have d1 : s (14 + p) >>> p &&& 1 = 0 := (sh_bit _ _).mpr (hI.2 p (by omega))
      have d2 : s (21 + p) &&& (s (14 + p) ^^^ 4294967295) = 0 := dif_sub l21 (fun i hi => hw.2.2.2.2.2.2.2.2.2.2.2.2 p i (by omega) hi)
      have d3 := goes_lt hw (c := 0) hp
      have d4 := goes_and hw (p := p) (by omega)
      have d5 := thn_one hw hp (c := 0) (Nat.zero_testBit _)
      have d6 := thn_self hw hp
      refine T.iload (pc' := 54) (q_d dL_holds_0 35 rfl) rfl rfl ?_
      refine T.iload_n (pc' := 55) (q_d dL_holds_0 36 rfl) rfl rfl rfl ?_
      refine T.icmp_geN (tgt := 199) (pc' := 58) (q_d dL_holds_0 37 rfl) rfl (by decide) (by omega) (by omega) (fun h55 => ?_) (fun h55 => ?_)
      · exact absurd h55 (by omega)
      · refine T.iload (pc' := 60) (q_d dL_holds_0 38 rfl) rfl rfl ?_
        refine T.if_eqN (tgt := 199) (pc' := 63) (q_d dL_holds_0 39 rfl) rfl (by decide) (by omega) (fun h60 => ?_) (fun h60 => ?_)
        · exact absurd h60 (by decide)
        · refine T.aload_n (pc' := 64) (q_d dL_holds_1 0 rfl) rfl rfl rfl ?_
          refine T.iload (pc' := 66) (q_d dL_holds_1 1 rfl) rfl rfl ?_
          refine T.iconst (pc' := 67) (v := nI 2) (q_d dL_holds_1 2 rfl) rfl (by decide) ?_
          refine T.callV (pc' := 70) (ci := 5) (q_d dL_holds_1 3 rfl) rfl uX5_placeOf wM_L_48 (c_pla hX1 (by omega) (v := 2) (by decide) p2) rfl rfl (by decide) rfl rfl (by decide) (Nat.le_of_ble_eq_true rfl) rfl rfl (fun _ => rfl) ?_
          rintro _ M2 ⟨rfl, pa2, sw2, hX2⟩
          replace hX2 : RX M2 b s k was n t pa2 sw2 := hX2
          dsimp only [Option.toList, List.cons_append, List.nil_append, List.append_nil]
          refine T.istore (pc' := 72) (q_d dL_holds_1 4 rfl) rfl (by decide) rfl rfl ?_
          refine T.iload_n (pc' := 73) (q_d dL_holds_1 5 rfl) rfl rfl rfl ?_
          refine T.aload_n (pc' := 74) (q_d dL_holds_1 6 rfl) rfl rfl rfl ?_
          refine T.iload (pc' := 76) (q_d dL_holds_1 7 rfl) rfl rfl ?_
          refine T.iconst (pc' := 77) (v := nI 1) (q_d dL_holds_1 8 rfl) rfl (by decide) ?_
          refine T.callV (pc' := 80) (ci := 5) (q_d dL_holds_1 9 rfl) rfl uX5_placeOf wM_L_48 (c_pla hX2 (by omega) (v := 1) (by decide) p1) rfl rfl (by decide) rfl rfl (by decide) (Nat.le_of_ble_eq_true rfl) rfl rfl (fun _ => rfl) ?_
          rintro _ M3 ⟨rfl, pa3, sw3, hX3⟩
          replace hX3 : RX M3 b s k was n t pa3 sw3 := hX3
          dsimp only [Option.toList, List.cons_append, List.nil_append, List.append_nil]
          refine T.callS (pc' := 83) (q_d dL_holds_1 10 rfl) rfl uL_bits wM_L_24 (c_bits l14) rfl rfl (by decide) (Nat.le_of_ble_eq_true rfl) rfl rfl (fun _ => rfl) ?_
          rintro _ _ ⟨rfl, rfl⟩
          dsimp only [Option.toList, List.cons_append, List.nil_append, List.append_nil]
          refine T.iadd (pc' := 84) (q_d dL_holds_1 11 rfl) rfl (nI_add _ _) ?_
          refine T.istore_n (pc' := 85) (q_d dL_holds_1 12 rfl) rfl rfl (by decide) rfl rfl ?_
          refine T.iload (pc' := 87) (q_d dL_holds_1 13 rfl) rfl rfl ?_
          refine T.iload (pc' := 89) (q_d dL_holds_1 14 rfl) rfl rfl ?_
          refine T.callS (pc' := 92) (q_d dL_holds_1 15 rfl) rfl uL_bits wM_L_24 (c_bits l21) rfl rfl (by decide) (Nat.le_of_ble_eq_true rfl) rfl rfl (fun _ => rfl) ?_
          rintro _ _ ⟨rfl, rfl⟩
          dsimp only [Option.toList, List.cons_append, List.nil_append, List.append_nil]
          refine T.iadd (pc' := 93) (q_d dL_holds_1 16 rfl) rfl (nI_add _ _) ?_
          refine T.istore (pc' := 95) (q_d dL_holds_1 17 rfl) rfl (by decide) rfl rfl ?_
          refine T.aload_n (pc' := 96) (q_d dL_holds_1 18 rfl) rfl rfl rfl ?_
          refine T.iload (pc' := 98) (q_d dL_holds_1 19 rfl) rfl rfl ?_
          refine T.iconst (pc' := 99) (v := nI 1) (q_d dL_holds_1 20 rfl) rfl (by decide) ?_
          refine T.callV (pc' := 102) (ci := 5) (q_d dL_holds_1 21 rfl) rfl uX5_placeOf wM_L_48 (c_pla hX3 (by omega) (v := 1) (by decide) p1) rfl rfl (by decide) rfl rfl (by decide) (Nat.le_of_ble_eq_true rfl) rfl rfl (fun _ => rfl) ?_
          rintro _ M4 ⟨rfl, pa4, sw4, hX4⟩
          replace hX4 : RX M4 b s k was n t pa4 sw4 := hX4
          dsimp only [Option.toList, List.cons_append, List.nil_append, List.append_nil]
          refine T.iload (pc' := 104) (q_d dL_holds_1 22 rfl) rfl rfl ?_
          refine T.ishr (pc' := 105) (q_d dL_holds_1 23 rfl) rfl (nN_shr (by omega) (by omega)) ?_
          refine T.iconst (pc' := 106) (v := nI 1) (q_d dL_holds_1 24 rfl) rfl (by decide) ?_
          refine T.iand (pc' := 107) (q_d dL_holds_1 25 rfl) rfl (nN_and _ _) ?_
          refine T.if_neN (tgt := 190) (pc' := 110) (q_d dL_holds_1 26 rfl) rfl (by decide) (by omega) (fun h107 => ?_) (fun h107 => ?_)
          · exact absurd d1 h107
          · refine T.iload (pc' := 112) (q_d dL_holds_1 27 rfl) rfl rfl ?_
            refine T.aload_n (pc' := 113) (q_d dL_holds_1 28 rfl) rfl rfl rfl ?_
            refine T.iload (pc' := 115) (q_d dL_holds_1 29 rfl) rfl rfl ?_
            refine T.iconst (pc' := 116) (v := nI 1) (q_d dL_holds_1 30 rfl) rfl (by decide) ?_
            refine T.callV (pc' := 119) (ci := 5) (q_d dL_holds_1 31 rfl) rfl uX5_placeOf wM_L_48 (c_pla hX4 (by omega) (v := 1) (by decide) p1) rfl rfl (by decide) rfl rfl (by decide) (Nat.le_of_ble_eq_true rfl) rfl rfl (fun _ => rfl) ?_
            rintro _ M5 ⟨rfl, pa5, sw5, hX5⟩
            replace hX5 : RX M5 b s k was n t pa5 sw5 := hX5
            dsimp only [Option.toList, List.cons_append, List.nil_append, List.append_nil]
            refine T.iconst (pc' := 120) (v := nI 4294967295) (q_d dL_holds_1 32 rfl) rfl (by decide) ?_
            refine T.ixor (pc' := 121) (q_d dL_holds_1 33 rfl) rfl (nN_xor _ _) ?_
            refine T.iand (pc' := 122) (q_d dL_holds_1 34 rfl) rfl (nN_and _ _) ?_
            refine T.if_neN (tgt := 190) (pc' := 125) (q_d dL_holds_1 35 rfl) rfl (by decide) (by omega) (fun h122 => ?_) (fun h122 => ?_)
            · exact absurd d2 h122
            · refine T.aload_n (pc' := 126) (q_d dL_holds_1 36 rfl) rfl rfl rfl ?_
              refine T.iload (pc' := 128) (q_d dL_holds_1 37 rfl) rfl rfl ?_
              refine T.iconst (pc' := 129) (v := nI 3) (q_d dL_holds_1 38 rfl) rfl (by decide) ?_
              refine T.callV (pc' := 132) (ci := 5) (q_d dL_holds_1 39 rfl) rfl uX5_placeOf wM_L_48 (c_pla hX5 (by omega) (v := 3) (by decide) p3) rfl rfl (by decide) rfl rfl (by decide) (Nat.le_of_ble_eq_true rfl) rfl rfl (fun _ => rfl) ?_
              rintro _ M6 ⟨rfl, pa6, sw6, hX6⟩
              replace hX6 : RX M6 b s k was n t pa6 sw6 := hX6
              dsimp only [Option.toList, List.cons_append, List.nil_append, List.append_nil]
              refine T.if_eqN (tgt := 190) (pc' := 135) (q_d dL_holds_2 0 rfl) rfl (by decide) (by omega) (fun h132 => ?_) (fun h132 => ?_)
              · exact absurd h132 goes_ne
              · refine T.aload_n (pc' := 136) (q_d dL_holds_2 1 rfl) rfl rfl rfl ?_
                refine T.iload (pc' := 138) (q_d dL_holds_2 2 rfl) rfl rfl ?_
                refine T.iconst (pc' := 139) (v := nI 3) (q_d dL_holds_2 3 rfl) rfl (by decide) ?_
                refine T.callV (pc' := 142) (ci := 5) (q_d dL_holds_2 4 rfl) rfl uX5_placeOf wM_L_48 (c_pla hX6 (by omega) (v := 3) (by decide) p3) rfl rfl (by decide) rfl rfl (by decide) (Nat.le_of_ble_eq_true rfl) rfl rfl (fun _ => rfl) ?_
                rintro _ M7 ⟨rfl, pa7, sw7, hX7⟩
                replace hX7 : RX M7 b s k was n t pa7 sw7 := hX7
                dsimp only [Option.toList, List.cons_append, List.nil_append, List.append_nil]
                refine T.iload (pc' := 144) (q_d dL_holds_2 5 rfl) rfl rfl ?_
                refine T.iand (pc' := 145) (q_d dL_holds_2 6 rfl) rfl (nN_and _ _) ?_
                refine T.iload (pc' := 147) (q_d dL_holds_2 7 rfl) rfl rfl ?_
                refine T.icmp_neN (tgt := 190) (pc' := 150) (q_d dL_holds_2 8 rfl) rfl (by decide) (by omega) (by omega) (fun h147 => ?_) (fun h147 => ?_)
                · exact absurd d4 h147
                · refine T.aload_n (pc' := 151) (q_d dL_holds_2 9 rfl) rfl rfl rfl ?_
                  refine T.iconst (pc' := 152) (v := nI 1) (q_d dL_holds_2 10 rfl) rfl (by decide) ?_
                  refine T.iload (pc' := 154) (q_d dL_holds_2 11 rfl) rfl rfl ?_
                  refine T.ishl (pc' := 155) (q_d dL_holds_2 12 rfl) rfl (nN_shl _ (by omega)) ?_
                  refine T.iconst (pc' := 156) (v := nI 0) (q_d dL_holds_2 13 rfl) rfl (by decide) ?_
                  refine T.iconst (pc' := 157) (v := nI 4294967295) (q_d dL_holds_2 14 rfl) rfl (by decide) ?_
                  refine T.callV (pc' := 160) (ci := 5) (q_d dL_holds_2 15 rfl) rfl uX5_behind wM_L_9 (c_behA hX7 hp2 (show 0 < 2 ^ s 0 by omega)) rfl rfl (by decide) rfl rfl (by decide) (Nat.le_of_ble_eq_true rfl) rfl rfl (fun _ => rfl) ?_
                  rintro _ M8 ⟨rfl, pa8, sw8, hX8⟩
                  replace hX8 : RX M8 b s k was n t pa8 sw8 := hX8
                  dsimp only [Option.toList, List.cons_append, List.nil_append, List.append_nil]
                  refine T.aload_n (pc' := 161) (q_d dL_holds_2 16 rfl) rfl rfl rfl ?_
                  refine T.iload (pc' := 163) (q_d dL_holds_2 17 rfl) rfl rfl ?_
                  refine T.iconst (pc' := 164) (v := nI 3) (q_d dL_holds_2 18 rfl) rfl (by decide) ?_
                  refine T.callV (pc' := 167) (ci := 5) (q_d dL_holds_2 19 rfl) rfl uX5_placeOf wM_L_48 (c_pla hX8 (by omega) (v := 3) (by decide) p3) rfl rfl (by decide) rfl rfl (by decide) (Nat.le_of_ble_eq_true rfl) rfl rfl (fun _ => rfl) ?_
                  rintro _ M9 ⟨rfl, pa9, sw9, hX9⟩
                  replace hX9 : RX M9 b s k was n t pa9 sw9 := hX9
                  dsimp only [Option.toList, List.cons_append, List.nil_append, List.append_nil]
                  refine T.icmp_neN (tgt := 190) (pc' := 170) (q_d dL_holds_2 20 rfl) rfl (by decide) (by omega) (by omega) (fun h167 => ?_) (fun h167 => ?_)
                  · exact absurd d5 h167
                  · refine T.aload_n (pc' := 171) (q_d dL_holds_2 21 rfl) rfl rfl rfl ?_
                    refine T.iconst (pc' := 172) (v := nI 1) (q_d dL_holds_2 22 rfl) rfl (by decide) ?_
                    refine T.iload (pc' := 174) (q_d dL_holds_2 23 rfl) rfl rfl ?_
                    refine T.ishl (pc' := 175) (q_d dL_holds_2 24 rfl) rfl (nN_shl _ (by omega)) ?_
                    refine T.iconst (pc' := 176) (v := nI 1) (q_d dL_holds_2 25 rfl) rfl (by decide) ?_
                    refine T.iload (pc' := 178) (q_d dL_holds_2 26 rfl) rfl rfl ?_
                    refine T.ishl (pc' := 179) (q_d dL_holds_2 27 rfl) rfl (nN_shl _ (by omega)) ?_
                    refine T.iconst (pc' := 180) (v := nI 4294967295) (q_d dL_holds_2 28 rfl) rfl (by decide) ?_
                    refine T.callV (pc' := 183) (ci := 5) (q_d dL_holds_2 29 rfl) rfl uX5_behind wM_L_9 (c_behA hX9 hp2 hp2) rfl rfl (by decide) rfl rfl (by decide) (Nat.le_of_ble_eq_true rfl) rfl rfl (fun _ => rfl) ?_
                    rintro _ MA ⟨rfl, paA, swA, hXA⟩
                    replace hXA : RX MA b s k was n t paA swA := hXA
                    dsimp only [Option.toList, List.cons_append, List.nil_append, List.append_nil]
                    refine T.if_neN (tgt := 190) (pc' := 186) (q_d dL_holds_2 30 rfl) rfl (by decide) (by omega) (fun h183 => ?_) (fun h183 => ?_)
                    · exact absurd d6 h183
                    · refine T.iconst (pc' := 187) (v := nI 1) (q_d dL_holds_2 31 rfl) rfl (by decide) ?_
                      refine T.goto (tgt := 191) (q_d dL_holds_2 32 rfl) (by decide) ?_
                      refine T.istore (pc' := 193) (q_d dL_holds_2 34 rfl) rfl (by decide) rfl rfl ?_
                      refine T.iinc (pc' := 196) (q_d dL_holds_2 35 rfl) rfl rfl (nN_p _ 1) (by decide) rfl rfl ?_
                      refine T.goto (tgt := 52) (q_d dL_holds_2 36 rfl) (by decide) ?_
                      refine T.drop (loc' := [some (.ref 0), some (.int (nI (s 0))), some (.int (nI (2 ^ s 0 - 1))), some (.int (nI (sumTo (fun i => ones (s (14 + i))) p + ones (s (14 + p))))), some (.int (nI (sumTo (fun i => ones (s (21 + i))) p + ones (s (21 + p))))), some (.int (nI 1)), some (.int (nI (p + 1))), none]) ⟨rfl, rfl, rfl, rfl, rfl, rfl, rfl, trivial⟩ ?_
                      have h9 := ih (p + 1) MA paA swA (by omega) hXA
                      rw [f14, f21] at h9
                      exact h9
  refine T.aload_n (pc' := 1) (q_d dL_holds_0 0 rfl) rfl rfl rfl ?_
  refine T.iconst (pc' := 2) (v := nI 0) (q_d dL_holds_0 1 rfl) rfl (by decide) ?_
  refine T.callV (pc' := 5) (ci := 5) (q_d dL_holds_0 2 rfl) rfl uX5_count wM_L_38 (c_cnt hX hb (u := 0) (x := s 0) (by decide) rfl) rfl rfl (by decide) rfl rfl (by decide) (Nat.le_of_ble_eq_true rfl) rfl rfl (fun _ => rfl) ?_
  rintro _ M2 ⟨rfl, pa2, sw2, hX2⟩
  replace hX2 : RX M2 b s k was n t pa2 sw2 := hX2
  dsimp only [Option.toList, List.cons_append, List.nil_append, List.append_nil]
  refine T.istore_n (pc' := 6) (q_d dL_holds_0 3 rfl) rfl rfl (by decide) rfl rfl ?_
  refine T.iconst (pc' := 7) (v := nI 1) (q_d dL_holds_0 4 rfl) rfl (by decide) ?_
  refine T.iload_n (pc' := 8) (q_d dL_holds_0 5 rfl) rfl rfl rfl ?_
  refine T.ishl (pc' := 9) (q_d dL_holds_0 6 rfl) rfl (nN_shl _ (by omega)) ?_
  rw [e1n]
  refine T.iconst (pc' := 10) (v := nI 1) (q_d dL_holds_0 7 rfl) rfl (by decide) ?_
  refine T.isub (pc' := 11) (q_d dL_holds_0 8 rfl) rfl (nN_sub (by omega)) ?_
  refine T.istore_n (pc' := 12) (q_d dL_holds_0 9 rfl) rfl rfl (by decide) rfl rfl ?_
  refine T.iconst (pc' := 13) (v := nI 0) (q_d dL_holds_0 10 rfl) rfl (by decide) ?_
  refine T.istore_n (pc' := 14) (q_d dL_holds_0 11 rfl) rfl rfl (by decide) rfl rfl ?_
  refine T.iconst (pc' := 15) (v := nI 0) (q_d dL_holds_0 12 rfl) rfl (by decide) ?_
  refine T.istore (pc' := 17) (q_d dL_holds_0 13 rfl) rfl (by decide) rfl rfl ?_
  refine T.aload_n (pc' := 18) (q_d dL_holds_0 14 rfl) rfl rfl rfl ?_
  refine T.iconst (pc' := 19) (v := nI 2) (q_d dL_holds_0 15 rfl) rfl (by decide) ?_
  refine T.callV (pc' := 22) (ci := 5) (q_d dL_holds_0 16 rfl) rfl uX5_count wM_L_38 (c_cnt hX2 hb (u := 2) (x := rdN s 21) (by decide) rfl) rfl rfl (by decide) rfl rfl (by decide) (Nat.le_of_ble_eq_true rfl) rfl rfl (fun _ => rfl) ?_
  rintro _ M3 ⟨rfl, pa3, sw3, hX3⟩
  replace hX3 : RX M3 b s k was n t pa3 sw3 := hX3
  dsimp only [Option.toList, List.cons_append, List.nil_append, List.append_nil]
  refine T.aload_n (pc' := 23) (q_d dL_holds_0 17 rfl) rfl rfl rfl ?_
  refine T.iconst (pc' := 24) (v := nI 1) (q_d dL_holds_0 18 rfl) rfl (by decide) ?_
  refine T.callV (pc' := 27) (ci := 5) (q_d dL_holds_0 19 rfl) rfl uX5_count wM_L_38 (c_cnt hX3 hb (u := 1) (x := rdN s 14) (by decide) rfl) rfl rfl (by decide) rfl rfl (by decide) (Nat.le_of_ble_eq_true rfl) rfl rfl (fun _ => rfl) ?_
  rintro _ M4 ⟨rfl, pa4, sw4, hX4⟩
  replace hX4 : RX M4 b s k was n t pa4 sw4 := hX4
  dsimp only [Option.toList, List.cons_append, List.nil_append, List.append_nil]
  refine T.icmp_gtN (tgt := 46) (pc' := 30) (q_d dL_holds_0 20 rfl) rfl (by decide) (by omega) (by omega) (fun h27 => ?_) (fun h27 => ?_)
  · exact absurd h27 (by omega)
  · refine T.aload_n (pc' := 31) (q_d dL_holds_0 21 rfl) rfl rfl rfl ?_
    refine T.iconst (pc' := 32) (v := nI 3) (q_d dL_holds_0 22 rfl) rfl (by decide) ?_
    refine T.callV (pc' := 35) (ci := 5) (q_d dL_holds_0 23 rfl) rfl uX5_count wM_L_38 (c_cnt hX4 hb (u := 3) (x := s 1) (by decide) rfl) rfl rfl (by decide) rfl rfl (by decide) (Nat.le_of_ble_eq_true rfl) rfl rfl (fun _ => rfl) ?_
    rintro _ M5 ⟨rfl, pa5, sw5, hX5⟩
    replace hX5 : RX M5 b s k was n t pa5 sw5 := hX5
    dsimp only [Option.toList, List.cons_append, List.nil_append, List.append_nil]
    refine T.iload_n (pc' := 36) (q_d dL_holds_0 24 rfl) rfl rfl rfl ?_
    refine T.iconst (pc' := 37) (v := nI 4294967295) (q_d dL_holds_0 25 rfl) rfl (by decide) ?_
    refine T.ixor (pc' := 38) (q_d dL_holds_0 26 rfl) rfl (nN_xor _ _) ?_
    refine T.iand (pc' := 39) (q_d dL_holds_0 27 rfl) rfl (nN_and _ _) ?_
    refine T.if_neN (tgt := 46) (pc' := 42) (q_d dL_holds_0 28 rfl) rfl (by decide) (by omega) (fun h39 => ?_) (fun h39 => ?_)
    · exact absurd hda h39
    · refine T.iconst (pc' := 43) (v := nI 1) (q_d dL_holds_0 29 rfl) rfl (by decide) ?_
      refine T.goto (tgt := 47) (q_d dL_holds_0 30 rfl) (by decide) ?_
      refine T.istore (pc' := 49) (q_d dL_holds_0 32 rfl) rfl (by decide) rfl rfl ?_
      refine T.iconst (pc' := 50) (v := nI 0) (q_d dL_holds_0 33 rfl) rfl (by decide) ?_
      refine T.istore (pc' := 52) (q_d dL_holds_0 34 rfl) rfl (by decide) rfl rfl ?_
      exact loop1 (s 0) 0 M5 pa5 sw5 (Nat.zero_add _) hX5
end Holds
