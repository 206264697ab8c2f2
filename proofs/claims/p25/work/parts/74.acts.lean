/-! an act of the law -/
def AQ (b : Nat) (n : Nat) (t : Nat → Nat) : Option Value → qM → Prop := fun v M' => v = some (.int (nI 1)) ∧ ∃ s' k' was', IN s' ∧ 3 ≤ s' 0 ∧ Ac (b + 127) (s', k', was', n, t) M'
section Acts
variable {l : Launch} {M : qM} {b : Nat} {s : Nat → Nat} {k : Nat} {was : Nat → Nat → Nat} {n : Nat} {t pa : Nat → Nat} {sw : Bool}
theorem c_placeY (hX : RX M b s k was n t pa sw) (h7 : s 0 < 7) {u : Nat} (hu : u ≤ 3) : Ct l hdX kX mX5_place [.ref 0, .int (nI u)] M (OX b (s 0, act s k was n t (sPlace s u))) :=
  (c_place hX (u := u) (by omega)).mono (fun _ _ q => OX.to (by unfold oPlace; rw [if_pos hu, if_pos h7]) q)
theorem c_placeN (hX : RX M b s k was n t pa sw) (h7 : ¬ s 0 < 7) {u : Nat} (hu : u ≤ 3) : Ct l hdX kX mX5_place [.ref 0, .int (nI u)] M (OX b (4293967293, (s, k, was, n, t))) :=
  (c_place hX (u := u) (by omega)).mono (fun _ _ q => OX.to (by unfold oPlace; rw [if_pos hu, if_neg h7]) q)
theorem c_roadY (hX : RX M b s k was n t pa sw) {u v : Nat} (hu : u < s 0) (hv : v < s 0) (h : u ≠ v ∧ s (14 + u) >>> v &&& 1 = 0) : Ct l hdX kX mX5_road [.ref 0, .int (nI u), .int (nI v)] M (OX b (rdN s 14 + 1, act s k was n t (sRoad s u v))) := by
  have w7 := hX.2.2.2.1.1
  refine (c_road hX (u := u) (v := v) (by omega) (by omega)).mono (fun _ _ q => OX.to ?_ q)
  unfold oRoad
  rw [if_pos ⟨hu, hv, h.1⟩, if_pos h.2, rd_road14 hX.2.2.2.1 hu hv h.1 h.2]
theorem c_roadN (hX : RX M b s k was n t pa sw) {u v : Nat} (hu : u < s 0) (hv : v < s 0) (h : ¬ (u ≠ v ∧ s (14 + u) >>> v &&& 1 = 0)) : ∃ e, (e = 4293967294 ∨ e = 4293967295) ∧ Ct l hdX kX mX5_road [.ref 0, .int (nI u), .int (nI v)] M (OX b (e, (s, k, was, n, t))) := by
  have w7 := hX.2.2.2.1.1
  by_cases huv : u = v
  · refine ⟨4293967295, Or.inr rfl, (c_road hX (u := u) (v := v) (by omega) (by omega)).mono (fun _ _ q => OX.to ?_ q)⟩
    unfold oRoad
    rw [if_neg (fun q => q.2.2 huv)]
  · refine ⟨4293967294, Or.inl rfl, (c_road hX (u := u) (v := v) (by omega) (by omega)).mono (fun _ _ q => OX.to ?_ q)⟩
    unfold oRoad
    rw [if_pos ⟨hu, hv, huv⟩, if_neg (fun q => h ⟨huv, q⟩)]
theorem c_shutY (hX : RX M b s k was n t pa sw) {u v w : Nat} (hu : u < s 0) (hv : v < s 0) (hw : w ≤ 1) (h : u ≠ v ∧ s (14 + u) >>> v &&& 1 = 1 ∧ s (21 + u) >>> v &&& 1 = w) : Ct l hdX kX mX5_shut [.ref 0, .int (nI u), .int (nI v), .int (nI w)] M (OX b (rdN (sShut s u v) 21, act s k was n t (sShut s u v))) := by
  have w7 := hX.2.2.2.1.1
  refine (c_shut hX (u := u) (v := v) (w := w) (by omega) (by omega) (by omega)).mono (fun _ _ q => OX.to ?_ q)
  unfold oShut
  rw [if_pos ⟨⟨hu, hv, h.1⟩, hw⟩, if_pos h.2]
theorem c_shutN (hX : RX M b s k was n t pa sw) {u v w : Nat} (hu : u < s 0) (hv : v < s 0) (hw : w ≤ 1) (h : ¬ (u ≠ v ∧ s (14 + u) >>> v &&& 1 = 1 ∧ s (21 + u) >>> v &&& 1 = w)) : ∃ e, (e = 4293967294 ∨ e = 4293967295) ∧ Ct l hdX kX mX5_shut [.ref 0, .int (nI u), .int (nI v), .int (nI w)] M (OX b (e, (s, k, was, n, t))) := by
  have w7 := hX.2.2.2.1.1
  by_cases huv : u = v
  · refine ⟨4293967295, Or.inr rfl, (c_shut hX (u := u) (v := v) (w := w) (by omega) (by omega) (by omega)).mono (fun _ _ q => OX.to ?_ q)⟩
    unfold oShut
    rw [if_neg (fun q => q.1.2.2 huv)]
  · refine ⟨4293967294, Or.inl rfl, (c_shut hX (u := u) (v := v) (w := w) (by omega) (by omega) (by omega)).mono (fun _ _ q => OX.to ?_ q)⟩
    unfold oShut
    rw [if_pos ⟨⟨hu, hv, huv⟩, hw⟩, if_neg (fun q => h ⟨huv, q⟩)]
theorem c_setY (hX : RX M b s k was n t pa sw) {u v : Nat} (hu : u ≤ 2) (hv : if u = 2 then 1 ≤ v ∧ v ≤ 2 else v ≤ 3) : Ct l hdX kX mX5_set [.ref 0, .int (nI u), .int (nI v)] M (OX b (s (4 + u), act s k was n t (up s (4 + u) v))) := by
  have hv2 : v < 4294967296 := by split at hv <;> omega
  refine (c_set hX (u := u) (v := v) (by omega) hv2).mono (fun _ _ q => OX.to ?_ q)
  unfold oSet
  rw [if_pos ⟨hu, hv⟩]
theorem a_place (hb : b + 127 < 2 ^ 30) (hX : RX M b s k was n t pa sw) (hI : IN s) (h3 : 3 ≤ s 0) {y z : Nat} (hz : z < 2147483648) : T l hdX kX mL_acts (AQ b n t) 0 0 48 [some (.ref 0), some (.int (nI y)), some (.int (nI z)), some (.int (nI (s 0))), none, none, none, none, none] [] M := by
  have w7 := hX.2.2.2.1.1
  by_cases h7 : s 0 < 7
  · refine T.aload_n (pc' := 49) (q_d dL_acts_0 12 rfl) rfl rfl rfl ?_
    refine T.iload_n (pc' := 50) (q_d dL_acts_0 13 rfl) rfl rfl rfl ?_
    refine T.iconst (pc' := 51) (v := nI 4) (q_d dL_acts_0 14 rfl) rfl (by decide) ?_
    refine T.irem (pc' := 52) (q_d dL_acts_0 15 rfl) rfl (by decide) (pk_rem (by omega) (by omega) (by omega)) ?_
    refine T.callV (pc' := 55) (ci := 5) (q_d dL_acts_0 16 rfl) rfl uX5_place wM_L_54 (c_placeY hX h7 (show z % 4 ≤ 3 by omega)) rfl rfl (by decide) rfl rfl (by decide) (Nat.le_of_ble_eq_true rfl) rfl rfl (fun _ => rfl) ?_
    rintro _ M2 ⟨rfl, pa2, sw2, hX2⟩
    replace hX2 : RX M2 b (sPlace s (z % 4)) (pushK k) (pushW k was s) n t pa2 sw2 := hX2
    dsimp only [Option.toList, List.cons_append, List.nil_append, List.append_nil]
    refine T.iload_n (pc' := 56) (q_d dL_acts_0 17 rfl) rfl rfl rfl ?_
    refine T.bipush (pc' := 58) (v := nI 7) (q_d dL_acts_0 18 rfl) rfl (by decide) ?_
    refine T.icmp_neN (tgt := 66) (pc' := 61) (q_d dL_acts_0 19 rfl) rfl (by decide) (by omega) (by omega) (fun h58 => ?_) (fun h58 => ?_)
    · refine T.iload_n (pc' := 67) (q_d dL_acts_0 22 rfl) rfl rfl rfl ?_
      refine T.icmp_neN (tgt := 74) (pc' := 70) (q_d dL_acts_0 23 rfl) rfl (by decide) (by omega) (by omega) (fun h67 => ?_) (fun h67 => ?_)
      · exact absurd rfl h67
      · refine T.iconst (pc' := 71) (v := nI 1) (q_d dL_acts_0 24 rfl) rfl (by decide) ?_
        refine T.goto (tgt := 75) (q_d dL_acts_0 25 rfl) (by decide) ?_
        refine T.zret (q_d dL_acts_0 27 rfl) rfl (by decide) rfl rfl ?_
        exact ⟨rfl, _, _, _, hI.place h7, (show 3 ≤ s 0 + 1 by omega), pa2, sw2, hX2.le (by omega)⟩
    · exact absurd h58 (by omega)
  · refine T.aload_n (pc' := 49) (q_d dL_acts_0 12 rfl) rfl rfl rfl ?_
    refine T.iload_n (pc' := 50) (q_d dL_acts_0 13 rfl) rfl rfl rfl ?_
    refine T.iconst (pc' := 51) (v := nI 4) (q_d dL_acts_0 14 rfl) rfl (by decide) ?_
    refine T.irem (pc' := 52) (q_d dL_acts_0 15 rfl) rfl (by decide) (pk_rem (by omega) (by omega) (by omega)) ?_
    refine T.callV (pc' := 55) (ci := 5) (q_d dL_acts_0 16 rfl) rfl uX5_place wM_L_54 (c_placeN hX h7 (show z % 4 ≤ 3 by omega)) rfl rfl (by decide) rfl rfl (by decide) (Nat.le_of_ble_eq_true rfl) rfl rfl (fun _ => rfl) ?_
    rintro _ M2 ⟨rfl, pa2, sw2, hX2⟩
    replace hX2 : RX M2 b s k was n t pa2 sw2 := hX2
    dsimp only [Option.toList, List.cons_append, List.nil_append, List.append_nil]
    refine T.iload_n (pc' := 56) (q_d dL_acts_0 17 rfl) rfl rfl rfl ?_
    refine T.bipush (pc' := 58) (v := nI 7) (q_d dL_acts_0 18 rfl) rfl (by decide) ?_
    refine T.icmp_neN (tgt := 66) (pc' := 61) (q_d dL_acts_0 19 rfl) rfl (by decide) (by omega) (by omega) (fun h58 => ?_) (fun h58 => ?_)
    · exact absurd h58 (by omega)
    · refine T.ldc (pc' := 63) (v := nI 4293967293) (q_d dL_acts_0 20 rfl) rfl wN_L_57 ?_
      refine T.goto (tgt := 67) (q_d dL_acts_0 21 rfl) (by decide) ?_
      refine T.icmp_neN (tgt := 74) (pc' := 70) (q_d dL_acts_0 23 rfl) rfl (by decide) (by omega) (by omega) (fun h67 => ?_) (fun h67 => ?_)
      · exact absurd rfl h67
      · refine T.iconst (pc' := 71) (v := nI 1) (q_d dL_acts_0 24 rfl) rfl (by decide) ?_
        refine T.goto (tgt := 75) (q_d dL_acts_0 25 rfl) (by decide) ?_
        refine T.zret (q_d dL_acts_0 27 rfl) rfl (by decide) rfl rfl ?_
        exact ⟨rfl, s, k, was, hI, h3, pa2, sw2, hX2.le (by omega)⟩
theorem a_road (hb : b + 127 < 2 ^ 30) (hX : RX M b s k was n t pa sw) (hI : IN s) (h3 : 3 ≤ s 0) {y z : Nat} (hz : z < 2147483648) : T l hdX kX mL_acts (AQ b n t) 0 0 76 [some (.ref 0), some (.int (nI y)), some (.int (nI z)), some (.int (nI (s 0))), none, none, none, none, none] [] M := by
  have hw := hX.2.2.2.1
  have w7 := hw.1
  have hr14 := rdN_le w7 (o := 14)
  have hu := Nat.mod_lt z (show 0 < s 0 by omega)
  have hv := Nat.mod_lt (z / 8) (show 0 < s 0 by omega)
  by_cases h : z % s 0 ≠ z / 8 % s 0 ∧ s (14 + z % s 0) >>> (z / 8 % s 0) &&& 1 = 0
  · have hr21 := rd_road21 hw hu hv h.1
    have hr2 : rdN (sRoad s (z % s 0) (z / 8 % s 0)) 21 ≤ 49 := rdN_le (by rw [sRoad_out (by omega)]; exact w7)
    refine T.aload_n (pc' := 77) (q_d dL_acts_0 28 rfl) rfl rfl rfl ?_
    refine T.iconst (pc' := 78) (v := nI 1) (q_d dL_acts_0 29 rfl) rfl (by decide) ?_
    refine T.callV (pc' := 81) (ci := 5) (q_d dL_acts_0 30 rfl) rfl uX5_count wM_L_38 (c_cnt hX (by omega) (u := 1) (x := rdN s 14) (by decide) rfl) rfl rfl (by decide) rfl rfl (by decide) (Nat.le_of_ble_eq_true rfl) rfl rfl (fun _ => rfl) ?_
    rintro _ M2 ⟨rfl, pa2, sw2, hX2⟩
    replace hX2 : RX M2 b s k was n t pa2 sw2 := hX2
    dsimp only [Option.toList, List.cons_append, List.nil_append, List.append_nil]
    refine T.istore (pc' := 83) (q_d dL_acts_0 31 rfl) rfl (by decide) rfl rfl ?_
    refine T.aload_n (pc' := 84) (q_d dL_acts_0 32 rfl) rfl rfl rfl ?_
    refine T.iload_n (pc' := 85) (q_d dL_acts_0 33 rfl) rfl rfl rfl ?_
    refine T.iload_n (pc' := 86) (q_d dL_acts_0 34 rfl) rfl rfl rfl ?_
    refine T.irem (pc' := 87) (q_d dL_acts_0 35 rfl) rfl (nI_ne0 (by omega) (by omega)) (pk_rem (by omega) (by omega) (by omega)) ?_
    refine T.iload_n (pc' := 88) (q_d dL_acts_0 36 rfl) rfl rfl rfl ?_
    refine T.bipush (pc' := 90) (v := nI 8) (q_d dL_acts_0 37 rfl) rfl (by decide) ?_
    refine T.idiv (pc' := 91) (q_d dL_acts_0 38 rfl) rfl (by decide) (pk_div (by omega) (by omega) (by omega)) ?_
    refine T.iload_n (pc' := 92) (q_d dL_acts_0 39 rfl) rfl rfl rfl ?_
    refine T.irem (pc' := 93) (q_d dL_acts_1 0 rfl) rfl (nI_ne0 (by omega) (by omega)) (pk_rem (by omega) (by omega) (by omega)) ?_
    refine T.callV (pc' := 96) (ci := 5) (q_d dL_acts_1 1 rfl) rfl uX5_road wM_L_58 (c_roadY hX2 hu hv h) rfl rfl (by decide) rfl rfl (by decide) (Nat.le_of_ble_eq_true rfl) rfl rfl (fun _ => rfl) ?_
    rintro _ M3 ⟨rfl, pa3, sw3, hX3⟩
    replace hX3 : RX M3 b (sRoad s (z % s 0) (z / 8 % s 0)) (pushK k) (pushW k was s) n t pa3 sw3 := hX3
    dsimp only [Option.toList, List.cons_append, List.nil_append, List.append_nil]
    refine T.istore (pc' := 98) (q_d dL_acts_1 2 rfl) rfl (by decide) rfl rfl ?_
    refine T.iload (pc' := 100) (q_d dL_acts_1 3 rfl) rfl rfl ?_
    refine T.if_leN (tgt := 129) (pc' := 103) (q_d dL_acts_1 4 rfl) rfl (by decide) (by omega) (fun h100 => ?_) (fun h100 => ?_)
    · exact absurd h100 (by omega)
    · refine T.iload (pc' := 105) (q_d dL_acts_1 5 rfl) rfl rfl ?_
      refine T.iload (pc' := 107) (q_d dL_acts_1 6 rfl) rfl rfl ?_
      refine T.iconst (pc' := 108) (v := nI 1) (q_d dL_acts_1 7 rfl) rfl (by decide) ?_
      refine T.iadd (pc' := 109) (q_d dL_acts_1 8 rfl) rfl (nI_add _ _) ?_
      refine T.icmp_neN (tgt := 125) (pc' := 112) (q_d dL_acts_1 9 rfl) rfl (by decide) (by omega) (by omega) (fun h109 => ?_) (fun h109 => ?_)
      · exact absurd rfl h109
      · refine T.aload_n (pc' := 113) (q_d dL_acts_1 10 rfl) rfl rfl rfl ?_
        refine T.iconst (pc' := 114) (v := nI 2) (q_d dL_acts_1 11 rfl) rfl (by decide) ?_
        refine T.callV (pc' := 117) (ci := 5) (q_d dL_acts_1 12 rfl) rfl uX5_count wM_L_38 (c_cnt hX3 (by omega) (u := 2) (x := rdN (sRoad s (z % s 0) (z / 8 % s 0)) 21) (by decide) rfl) rfl rfl (by decide) rfl rfl (by decide) (Nat.le_of_ble_eq_true rfl) rfl rfl (fun _ => rfl) ?_
        rintro _ M4 ⟨rfl, pa4, sw4, hX4⟩
        replace hX4 : RX M4 b (sRoad s (z % s 0) (z / 8 % s 0)) (pushK k) (pushW k was s) n t pa4 sw4 := hX4
        dsimp only [Option.toList, List.cons_append, List.nil_append, List.append_nil]
        refine T.iconst (pc' := 118) (v := nI 1) (q_d dL_acts_1 13 rfl) rfl (by decide) ?_
        refine T.icmp_ltN (tgt := 125) (pc' := 121) (q_d dL_acts_1 14 rfl) rfl (by decide) (by omega) (by omega) (fun h118 => ?_) (fun h118 => ?_)
        · exact absurd h118 (by omega)
        · refine T.iconst (pc' := 122) (v := nI 1) (q_d dL_acts_1 15 rfl) rfl (by decide) ?_
          refine T.goto (tgt := 144) (q_d dL_acts_1 16 rfl) (by decide) ?_
          refine T.zret (q_d dL_acts_1 27 rfl) rfl (by decide) rfl rfl ?_
          exact ⟨rfl, _, _, _, hI.road h.1, (by rw [sRoad_out (by omega)]; exact h3), pa4, sw4, hX4.le (by omega)⟩
  · refine T.aload_n (pc' := 77) (q_d dL_acts_0 28 rfl) rfl rfl rfl ?_
    refine T.iconst (pc' := 78) (v := nI 1) (q_d dL_acts_0 29 rfl) rfl (by decide) ?_
    refine T.callV (pc' := 81) (ci := 5) (q_d dL_acts_0 30 rfl) rfl uX5_count wM_L_38 (c_cnt hX (by omega) (u := 1) (x := rdN s 14) (by decide) rfl) rfl rfl (by decide) rfl rfl (by decide) (Nat.le_of_ble_eq_true rfl) rfl rfl (fun _ => rfl) ?_
    rintro _ M2 ⟨rfl, pa2, sw2, hX2⟩
    replace hX2 : RX M2 b s k was n t pa2 sw2 := hX2
    dsimp only [Option.toList, List.cons_append, List.nil_append, List.append_nil]
    refine T.istore (pc' := 83) (q_d dL_acts_0 31 rfl) rfl (by decide) rfl rfl ?_
    refine T.aload_n (pc' := 84) (q_d dL_acts_0 32 rfl) rfl rfl rfl ?_
    refine T.iload_n (pc' := 85) (q_d dL_acts_0 33 rfl) rfl rfl rfl ?_
    refine T.iload_n (pc' := 86) (q_d dL_acts_0 34 rfl) rfl rfl rfl ?_
    refine T.irem (pc' := 87) (q_d dL_acts_0 35 rfl) rfl (nI_ne0 (by omega) (by omega)) (pk_rem (by omega) (by omega) (by omega)) ?_
    refine T.iload_n (pc' := 88) (q_d dL_acts_0 36 rfl) rfl rfl rfl ?_
    refine T.bipush (pc' := 90) (v := nI 8) (q_d dL_acts_0 37 rfl) rfl (by decide) ?_
    refine T.idiv (pc' := 91) (q_d dL_acts_0 38 rfl) rfl (by decide) (pk_div (by omega) (by omega) (by omega)) ?_
    refine T.iload_n (pc' := 92) (q_d dL_acts_0 39 rfl) rfl rfl rfl ?_
    refine T.irem (pc' := 93) (q_d dL_acts_1 0 rfl) rfl (nI_ne0 (by omega) (by omega)) (pk_rem (by omega) (by omega) (by omega)) ?_
    obtain ⟨e, he, hCt⟩ := c_roadN (l := l) hX2 hu hv h
    refine T.callV (pc' := 96) (ci := 5) (q_d dL_acts_1 1 rfl) rfl uX5_road wM_L_58 hCt rfl rfl (by decide) rfl rfl (by decide) (Nat.le_of_ble_eq_true rfl) rfl rfl (fun _ => rfl) ?_
    rintro _ M3 ⟨rfl, pa3, sw3, hX3⟩
    replace hX3 : RX M3 b s k was n t pa3 sw3 := hX3
    dsimp only [Option.toList, List.cons_append, List.nil_append, List.append_nil]
    refine T.istore (pc' := 98) (q_d dL_acts_1 2 rfl) rfl (by decide) rfl rfl ?_
    refine T.iload (pc' := 100) (q_d dL_acts_1 3 rfl) rfl rfl ?_
    refine T.if_le (tgt := 129) (pc' := 103) (q_d dL_acts_1 4 rfl) rfl (by decide)  (fun h100 => ?_) (fun h100 => ?_)
    · refine T.aload_n (pc' := 130) (q_d dL_acts_1 19 rfl) rfl rfl rfl ?_
      refine T.iconst (pc' := 131) (v := nI 1) (q_d dL_acts_1 20 rfl) rfl (by decide) ?_
      refine T.callV (pc' := 134) (ci := 5) (q_d dL_acts_1 21 rfl) rfl uX5_count wM_L_38 (c_cnt hX3 (by omega) (u := 1) (x := rdN s 14) (by decide) rfl) rfl rfl (by decide) rfl rfl (by decide) (Nat.le_of_ble_eq_true rfl) rfl rfl (fun _ => rfl) ?_
      rintro _ M4 ⟨rfl, pa4, sw4, hX4⟩
      replace hX4 : RX M4 b s k was n t pa4 sw4 := hX4
      dsimp only [Option.toList, List.cons_append, List.nil_append, List.append_nil]
      refine T.iload (pc' := 136) (q_d dL_acts_1 22 rfl) rfl rfl ?_
      refine T.icmp_neN (tgt := 143) (pc' := 139) (q_d dL_acts_1 23 rfl) rfl (by decide) (by omega) (by omega) (fun h136 => ?_) (fun h136 => ?_)
      · exact absurd rfl h136
      · refine T.iconst (pc' := 140) (v := nI 1) (q_d dL_acts_1 24 rfl) rfl (by decide) ?_
        refine T.goto (tgt := 144) (q_d dL_acts_1 25 rfl) (by decide) ?_
        refine T.zret (q_d dL_acts_1 27 rfl) rfl (by decide) rfl rfl ?_
        exact ⟨rfl, s, k, was, hI, h3, pa4, sw4, hX4.le (by omega)⟩
    · rcases he with rfl | rfl <;> exact absurd (by decide) h100
theorem a_shut (hb : b + 127 < 2 ^ 30) (hX : RX M b s k was n t pa sw) (hI : IN s) (h3 : 3 ≤ s 0) {y z : Nat} (hz : z < 2147483648) : T l hdX kX mL_acts (AQ b n t) 0 0 145 [some (.ref 0), some (.int (nI y)), some (.int (nI z)), some (.int (nI (s 0))), none, none, none, none, none] [] M := by
  have hw := hX.2.2.2.1
  have w7 := hw.1
  have hr21 := rdN_le w7 (o := 21)
  have hu := Nat.mod_lt z (show 0 < s 0 by omega)
  have hv := Nat.mod_lt (z / 8) (show 0 < s 0 by omega)
  by_cases h : z % s 0 ≠ z / 8 % s 0 ∧ s (14 + z % s 0) >>> (z / 8 % s 0) &&& 1 = 1 ∧ s (21 + z % s 0) >>> (z / 8 % s 0) &&& 1 = z / 64 % 2
  · have hr2 : rdN (sShut s (z % s 0) (z / 8 % s 0)) 21 ≤ 49 := rdN_le (by rw [sShut_out (by omega)]; exact w7)
    have k1 : z / 64 % 2 = 1 → rdN (sShut s (z % s 0) (z / 8 % s 0)) 21 + 1 = rdN s 21 := fun e => rd_shut1 hw hI hu hv h.1 (h.2.2.trans e)
    have k0 : z / 64 % 2 ≠ 1 → rdN (sShut s (z % s 0) (z / 8 % s 0)) 21 = rdN s 21 + 1 := fun e => rd_shut0 hw hI hu hv h.1 (h.2.2.trans (by omega))
    refine T.aload_n (pc' := 146) (q_d dL_acts_1 28 rfl) rfl rfl rfl ?_
    refine T.iconst (pc' := 147) (v := nI 2) (q_d dL_acts_1 29 rfl) rfl (by decide) ?_
    refine T.callV (pc' := 150) (ci := 5) (q_d dL_acts_1 30 rfl) rfl uX5_count wM_L_38 (c_cnt hX (by omega) (u := 2) (x := rdN s 21) (by decide) rfl) rfl rfl (by decide) rfl rfl (by decide) (Nat.le_of_ble_eq_true rfl) rfl rfl (fun _ => rfl) ?_
    rintro _ M2 ⟨rfl, pa2, sw2, hX2⟩
    replace hX2 : RX M2 b s k was n t pa2 sw2 := hX2
    dsimp only [Option.toList, List.cons_append, List.nil_append, List.append_nil]
    refine T.istore (pc' := 152) (q_d dL_acts_1 31 rfl) rfl (by decide) rfl rfl ?_
    refine T.iload_n (pc' := 153) (q_d dL_acts_1 32 rfl) rfl rfl rfl ?_
    refine T.bipush (pc' := 155) (v := nI 64) (q_d dL_acts_1 33 rfl) rfl (by decide) ?_
    refine T.idiv (pc' := 156) (q_d dL_acts_1 34 rfl) rfl (by decide) (pk_div (by omega) (by omega) (by omega)) ?_
    refine T.iconst (pc' := 157) (v := nI 2) (q_d dL_acts_1 35 rfl) rfl (by decide) ?_
    refine T.irem (pc' := 158) (q_d dL_acts_1 36 rfl) rfl (by decide) (pk_rem (by omega) (by omega) (by omega)) ?_
    refine T.istore (pc' := 160) (q_d dL_acts_1 37 rfl) rfl (by decide) rfl rfl ?_
    refine T.aload_n (pc' := 161) (q_d dL_acts_1 38 rfl) rfl rfl rfl ?_
    refine T.iload_n (pc' := 162) (q_d dL_acts_1 39 rfl) rfl rfl rfl ?_
    refine T.iload_n (pc' := 163) (q_d dL_acts_2 0 rfl) rfl rfl rfl ?_
    refine T.irem (pc' := 164) (q_d dL_acts_2 1 rfl) rfl (nI_ne0 (by omega) (by omega)) (pk_rem (by omega) (by omega) (by omega)) ?_
    refine T.iload_n (pc' := 165) (q_d dL_acts_2 2 rfl) rfl rfl rfl ?_
    refine T.bipush (pc' := 167) (v := nI 8) (q_d dL_acts_2 3 rfl) rfl (by decide) ?_
    refine T.idiv (pc' := 168) (q_d dL_acts_2 4 rfl) rfl (by decide) (pk_div (by omega) (by omega) (by omega)) ?_
    refine T.iload_n (pc' := 169) (q_d dL_acts_2 5 rfl) rfl rfl rfl ?_
    refine T.irem (pc' := 170) (q_d dL_acts_2 6 rfl) rfl (nI_ne0 (by omega) (by omega)) (pk_rem (by omega) (by omega) (by omega)) ?_
    refine T.iload (pc' := 172) (q_d dL_acts_2 7 rfl) rfl rfl ?_
    refine T.callV (pc' := 175) (ci := 5) (q_d dL_acts_2 8 rfl) rfl uX5_shut wM_L_61 (c_shutY hX2 hu hv (w := z / 64 % 2) (by omega) h) rfl rfl (by decide) rfl rfl (by decide) (Nat.le_of_ble_eq_true rfl) rfl rfl (fun _ => rfl) ?_
    rintro _ M3 ⟨rfl, pa3, sw3, hX3⟩
    replace hX3 : RX M3 b (sShut s (z % s 0) (z / 8 % s 0)) (pushK k) (pushW k was s) n t pa3 sw3 := hX3
    dsimp only [Option.toList, List.cons_append, List.nil_append, List.append_nil]
    refine T.istore (pc' := 177) (q_d dL_acts_2 9 rfl) rfl (by decide) rfl rfl ?_
    refine T.iload (pc' := 179) (q_d dL_acts_2 10 rfl) rfl rfl ?_
    refine T.if_ltN (tgt := 212) (pc' := 182) (q_d dL_acts_2 11 rfl) rfl (by decide) (by omega) ?_
    refine T.iload (pc' := 184) (q_d dL_acts_2 12 rfl) rfl rfl ?_
    refine T.iload (pc' := 186) (q_d dL_acts_2 13 rfl) rfl rfl ?_
    refine T.iconst (pc' := 187) (v := nI 1) (q_d dL_acts_2 14 rfl) rfl (by decide) ?_
    refine T.icmp_neN (tgt := 197) (pc' := 190) (q_d dL_acts_2 15 rfl) rfl (by decide) (by omega) (by omega) (fun h187 => ?_) (fun h187 => ?_)
    · refine T.iload (pc' := 199) (q_d dL_acts_2 20 rfl) rfl rfl ?_
      refine T.iconst (pc' := 200) (v := nI 1) (q_d dL_acts_2 21 rfl) rfl (by decide) ?_
      refine T.iadd (pc' := 201) (q_d dL_acts_2 22 rfl) rfl (nI_add _ _) ?_
      refine T.icmp_neN (tgt := 208) (pc' := 204) (q_d dL_acts_2 23 rfl) rfl (by decide) (by omega) (by omega) (fun h201 => ?_) (fun h201 => ?_)
      · first | exact absurd (k0 h187) h201 | exact absurd (show rdN (sShut s (z % s 0) (z / 8 % s 0)) 21 = rdN s 21 - 1 by have := k1 h187; omega) h201
      · refine T.iconst (pc' := 205) (v := nI 1) (q_d dL_acts_2 24 rfl) rfl (by decide) ?_
        refine T.goto (tgt := 227) (q_d dL_acts_2 25 rfl) (by decide) ?_
        refine T.zret (q_d dL_acts_2 36 rfl) rfl (by decide) rfl rfl ?_
        exact ⟨rfl, _, _, _, hI.shut h.1, (by rw [sShut_out (by omega)]; exact h3), pa3, sw3, hX3.le (by omega)⟩
    · refine T.iload (pc' := 192) (q_d dL_acts_2 16 rfl) rfl rfl ?_
      refine T.iconst (pc' := 193) (v := nI 1) (q_d dL_acts_2 17 rfl) rfl (by decide) ?_
      refine T.isub (pc' := 194) (q_d dL_acts_2 18 rfl) rfl (nN_sub (by have := k1 h187; omega)) ?_
      refine T.goto (tgt := 201) (q_d dL_acts_2 19 rfl) (by decide) ?_
      refine T.icmp_neN (tgt := 208) (pc' := 204) (q_d dL_acts_2 23 rfl) rfl (by decide) (by omega) (by omega) (fun h201 => ?_) (fun h201 => ?_)
      · first | exact absurd (k0 h187) h201 | exact absurd (show rdN (sShut s (z % s 0) (z / 8 % s 0)) 21 = rdN s 21 - 1 by have := k1 h187; omega) h201
      · refine T.iconst (pc' := 205) (v := nI 1) (q_d dL_acts_2 24 rfl) rfl (by decide) ?_
        refine T.goto (tgt := 227) (q_d dL_acts_2 25 rfl) (by decide) ?_
        refine T.zret (q_d dL_acts_2 36 rfl) rfl (by decide) rfl rfl ?_
        exact ⟨rfl, _, _, _, hI.shut h.1, (by rw [sShut_out (by omega)]; exact h3), pa3, sw3, hX3.le (by omega)⟩
  · refine T.aload_n (pc' := 146) (q_d dL_acts_1 28 rfl) rfl rfl rfl ?_
    refine T.iconst (pc' := 147) (v := nI 2) (q_d dL_acts_1 29 rfl) rfl (by decide) ?_
    refine T.callV (pc' := 150) (ci := 5) (q_d dL_acts_1 30 rfl) rfl uX5_count wM_L_38 (c_cnt hX (by omega) (u := 2) (x := rdN s 21) (by decide) rfl) rfl rfl (by decide) rfl rfl (by decide) (Nat.le_of_ble_eq_true rfl) rfl rfl (fun _ => rfl) ?_
    rintro _ M2 ⟨rfl, pa2, sw2, hX2⟩
    replace hX2 : RX M2 b s k was n t pa2 sw2 := hX2
    dsimp only [Option.toList, List.cons_append, List.nil_append, List.append_nil]
    refine T.istore (pc' := 152) (q_d dL_acts_1 31 rfl) rfl (by decide) rfl rfl ?_
    refine T.iload_n (pc' := 153) (q_d dL_acts_1 32 rfl) rfl rfl rfl ?_
    refine T.bipush (pc' := 155) (v := nI 64) (q_d dL_acts_1 33 rfl) rfl (by decide) ?_
    refine T.idiv (pc' := 156) (q_d dL_acts_1 34 rfl) rfl (by decide) (pk_div (by omega) (by omega) (by omega)) ?_
    refine T.iconst (pc' := 157) (v := nI 2) (q_d dL_acts_1 35 rfl) rfl (by decide) ?_
    refine T.irem (pc' := 158) (q_d dL_acts_1 36 rfl) rfl (by decide) (pk_rem (by omega) (by omega) (by omega)) ?_
    refine T.istore (pc' := 160) (q_d dL_acts_1 37 rfl) rfl (by decide) rfl rfl ?_
    refine T.aload_n (pc' := 161) (q_d dL_acts_1 38 rfl) rfl rfl rfl ?_
    refine T.iload_n (pc' := 162) (q_d dL_acts_1 39 rfl) rfl rfl rfl ?_
    refine T.iload_n (pc' := 163) (q_d dL_acts_2 0 rfl) rfl rfl rfl ?_
    refine T.irem (pc' := 164) (q_d dL_acts_2 1 rfl) rfl (nI_ne0 (by omega) (by omega)) (pk_rem (by omega) (by omega) (by omega)) ?_
    refine T.iload_n (pc' := 165) (q_d dL_acts_2 2 rfl) rfl rfl rfl ?_
    refine T.bipush (pc' := 167) (v := nI 8) (q_d dL_acts_2 3 rfl) rfl (by decide) ?_
    refine T.idiv (pc' := 168) (q_d dL_acts_2 4 rfl) rfl (by decide) (pk_div (by omega) (by omega) (by omega)) ?_
    refine T.iload_n (pc' := 169) (q_d dL_acts_2 5 rfl) rfl rfl rfl ?_
    refine T.irem (pc' := 170) (q_d dL_acts_2 6 rfl) rfl (nI_ne0 (by omega) (by omega)) (pk_rem (by omega) (by omega) (by omega)) ?_
    refine T.iload (pc' := 172) (q_d dL_acts_2 7 rfl) rfl rfl ?_
    obtain ⟨e, he, hCt⟩ := c_shutN (l := l) hX2 hu hv (w := z / 64 % 2) (by omega) h
    refine T.callV (pc' := 175) (ci := 5) (q_d dL_acts_2 8 rfl) rfl uX5_shut wM_L_61 hCt rfl rfl (by decide) rfl rfl (by decide) (Nat.le_of_ble_eq_true rfl) rfl rfl (fun _ => rfl) ?_
    rintro _ M3 ⟨rfl, pa3, sw3, hX3⟩
    replace hX3 : RX M3 b s k was n t pa3 sw3 := hX3
    dsimp only [Option.toList, List.cons_append, List.nil_append, List.append_nil]
    refine T.istore (pc' := 177) (q_d dL_acts_2 9 rfl) rfl (by decide) rfl rfl ?_
    refine T.iload (pc' := 179) (q_d dL_acts_2 10 rfl) rfl rfl ?_
    refine T.if_lt (tgt := 212) (pc' := 182) (q_d dL_acts_2 11 rfl) rfl (by decide)  (fun h179 => ?_) (fun h179 => ?_)
    · refine T.aload_n (pc' := 213) (q_d dL_acts_2 28 rfl) rfl rfl rfl ?_
      refine T.iconst (pc' := 214) (v := nI 2) (q_d dL_acts_2 29 rfl) rfl (by decide) ?_
      refine T.callV (pc' := 217) (ci := 5) (q_d dL_acts_2 30 rfl) rfl uX5_count wM_L_38 (c_cnt hX3 (by omega) (u := 2) (x := rdN s 21) (by decide) rfl) rfl rfl (by decide) rfl rfl (by decide) (Nat.le_of_ble_eq_true rfl) rfl rfl (fun _ => rfl) ?_
      rintro _ M4 ⟨rfl, pa4, sw4, hX4⟩
      replace hX4 : RX M4 b s k was n t pa4 sw4 := hX4
      dsimp only [Option.toList, List.cons_append, List.nil_append, List.append_nil]
      refine T.iload (pc' := 219) (q_d dL_acts_2 31 rfl) rfl rfl ?_
      refine T.icmp_neN (tgt := 226) (pc' := 222) (q_d dL_acts_2 32 rfl) rfl (by decide) (by omega) (by omega) (fun h219 => ?_) (fun h219 => ?_)
      · exact absurd rfl h219
      · refine T.iconst (pc' := 223) (v := nI 1) (q_d dL_acts_2 33 rfl) rfl (by decide) ?_
        refine T.goto (tgt := 227) (q_d dL_acts_2 34 rfl) (by decide) ?_
        refine T.zret (q_d dL_acts_2 36 rfl) rfl (by decide) rfl rfl ?_
        exact ⟨rfl, s, k, was, hI, h3, pa4, sw4, hX4.le (by omega)⟩
    · rcases he with rfl | rfl <;> exact absurd (by decide) h179
theorem a_set (hb : b + 127 < 2 ^ 30) (hX : RX M b s k was n t pa sw) (hI : IN s) (h3 : 3 ≤ s 0) {y z : Nat} (hz : z < 2147483648) : T l hdX kX mL_acts (AQ b n t) 0 0 228 [some (.ref 0), some (.int (nI y)), some (.int (nI z)), some (.int (nI (s 0))), none, none, none, none, none] [] M := by
  have hw := hX.2.2.2.1
  have w4 := hw.2.2.2.1
  have w5 := hw.2.2.2.2.1
  have w6 := hw.2.2.2.2.2.1
  have g4 : s (4 + z % 2) ≤ 3 := by
    rcases (by omega : z % 2 = 0 ∨ z % 2 = 1) with e | e
    · rw [e]; exact w4
    · rw [e]; exact w5
  have e6 : up s (4 + z % 2) (z / 4 % 4) (4 + 2) = s 6 := up_ne (by omega)
  have e0 : up (up s (4 + z % 2) (z / 4 % 4)) (4 + 2) (1 + z / 16 % 2) 0 = s 0 := by rw [up_ne (by omega), up_ne (by omega)]
  refine T.aload_n (pc' := 229) (q_d dL_acts_2 37 rfl) rfl rfl rfl ?_
  refine T.iload_n (pc' := 230) (q_d dL_acts_2 38 rfl) rfl rfl rfl ?_
  refine T.iconst (pc' := 231) (v := nI 2) (q_d dL_acts_2 39 rfl) rfl (by decide) ?_
  refine T.irem (pc' := 232) (q_d dL_acts_3 0 rfl) rfl (by decide) (pk_rem (by omega) (by omega) (by omega)) ?_
  refine T.iload_n (pc' := 233) (q_d dL_acts_3 1 rfl) rfl rfl rfl ?_
  refine T.iconst (pc' := 234) (v := nI 4) (q_d dL_acts_3 2 rfl) rfl (by decide) ?_
  refine T.idiv (pc' := 235) (q_d dL_acts_3 3 rfl) rfl (by decide) (pk_div (by omega) (by omega) (by omega)) ?_
  refine T.iconst (pc' := 236) (v := nI 4) (q_d dL_acts_3 4 rfl) rfl (by decide) ?_
  refine T.irem (pc' := 237) (q_d dL_acts_3 5 rfl) rfl (by decide) (pk_rem (by omega) (by omega) (by omega)) ?_
  refine T.callV (pc' := 240) (ci := 5) (q_d dL_acts_3 6 rfl) rfl uX5_set wM_L_64 (c_setY hX (u := z % 2) (v := z / 4 % 4) (by omega) (by rw [if_neg (by omega)]; omega)) rfl rfl (by decide) rfl rfl (by decide) (Nat.le_of_ble_eq_true rfl) rfl rfl (fun _ => rfl) ?_
  rintro _ M2 ⟨rfl, pa2, sw2, hX2⟩
  replace hX2 : RX M2 b (up s (4 + z % 2) (z / 4 % 4)) (pushK k) (pushW k was s) n t pa2 sw2 := hX2
  dsimp only [Option.toList, List.cons_append, List.nil_append, List.append_nil]
  refine T.if_ltN (tgt := 264) (pc' := 243) (q_d dL_acts_3 7 rfl) rfl (by decide) (by omega) ?_
  refine T.aload_n (pc' := 244) (q_d dL_acts_3 8 rfl) rfl rfl rfl ?_
  refine T.iconst (pc' := 245) (v := nI 2) (q_d dL_acts_3 9 rfl) rfl (by decide) ?_
  refine T.iconst (pc' := 246) (v := nI 1) (q_d dL_acts_3 10 rfl) rfl (by decide) ?_
  refine T.iload_n (pc' := 247) (q_d dL_acts_3 11 rfl) rfl rfl rfl ?_
  refine T.bipush (pc' := 249) (v := nI 16) (q_d dL_acts_3 12 rfl) rfl (by decide) ?_
  refine T.idiv (pc' := 250) (q_d dL_acts_3 13 rfl) rfl (by decide) (pk_div (by omega) (by omega) (by omega)) ?_
  refine T.iconst (pc' := 251) (v := nI 2) (q_d dL_acts_3 14 rfl) rfl (by decide) ?_
  refine T.irem (pc' := 252) (q_d dL_acts_3 15 rfl) rfl (by decide) (pk_rem (by omega) (by omega) (by omega)) ?_
  refine T.iadd (pc' := 253) (q_d dL_acts_3 16 rfl) rfl (nI_add _ _) ?_
  refine T.callV (pc' := 256) (ci := 5) (q_d dL_acts_3 17 rfl) rfl uX5_set wM_L_64 (c_setY hX2 (u := 2) (v := 1 + z / 16 % 2) (by decide) (by rw [if_pos rfl]; omega)) rfl rfl (by decide) rfl rfl (by decide) (Nat.le_of_ble_eq_true rfl) rfl rfl (fun _ => rfl) ?_
  rintro _ M3 ⟨rfl, pa3, sw3, hX3⟩
  replace hX3 : RX M3 b (up (up s (4 + z % 2) (z / 4 % 4)) (4 + 2) (1 + z / 16 % 2)) (pushK (pushK k)) (pushW (pushK k) (pushW k was s) (up s (4 + z % 2) (z / 4 % 4))) n t pa3 sw3 := hX3
  dsimp only [Option.toList, List.cons_append, List.nil_append, List.append_nil]
  rw [e6]
  refine T.iconst (pc' := 257) (v := nI 1) (q_d dL_acts_3 18 rfl) rfl (by decide) ?_
  refine T.icmp_ltN (tgt := 264) (pc' := 260) (q_d dL_acts_3 19 rfl) rfl (by decide) (by omega) (by omega) (fun h257 => ?_) (fun h257 => ?_)
  · exact absurd h257 (by omega)
  · refine T.iconst (pc' := 261) (v := nI 1) (q_d dL_acts_3 20 rfl) rfl (by decide) ?_
    refine T.goto (tgt := 265) (q_d dL_acts_3 21 rfl) (by decide) ?_
    refine T.zret (q_d dL_acts_3 23 rfl) rfl (by decide) rfl rfl ?_
    exact ⟨rfl, _, _, _, (hI.set (by omega)).set (by decide), (by rw [e0]; exact h3), pa3, sw3, hX3.le (by omega)⟩
theorem a_hunt (hb : b + 127 < 2 ^ 30) (hX : RX M b s k was n t pa sw) (hI : IN s) (h3 : 3 ≤ s 0) {y z : Nat} (hz : z < 2147483648) : T l hdX kX mL_acts (AQ b n t) 0 0 266 [some (.ref 0), some (.int (nI y)), some (.int (nI z)), some (.int (nI (s 0))), none, none, none, none, none] [] M := by
  have w7 := hX.2.2.2.1.1
  have w0 := p2_le w7
  have h1n : 1 ≤ 2 ^ s 0 := Nat.two_pow_pos _
  have hzm := Nat.mod_lt z (show 0 < 2 ^ s 0 by omega)
  refine T.aload_n (pc' := 267) (q_d dL_acts_3 24 rfl) rfl rfl rfl ?_
  refine T.iload_n (pc' := 268) (q_d dL_acts_3 25 rfl) rfl rfl rfl ?_
  refine T.iconst (pc' := 269) (v := nI 1) (q_d dL_acts_3 26 rfl) rfl (by decide) ?_
  refine T.iload_n (pc' := 270) (q_d dL_acts_3 27 rfl) rfl rfl rfl ?_
  refine T.ishl (pc' := 271) (q_d dL_acts_3 28 rfl) rfl (nN_shl _ (by omega)) ?_
  rw [Nat.one_shiftLeft]
  refine T.irem (pc' := 272) (q_d dL_acts_3 29 rfl) rfl (nI_ne0 (by omega) (by omega)) (pk_rem (by omega) (by omega) (by omega)) ?_
  refine T.iload_n (pc' := 273) (q_d dL_acts_3 30 rfl) rfl rfl rfl ?_
  refine T.sipush (pc' := 276) (v := nI 128) (q_d dL_acts_3 31 rfl) rfl (by decide) ?_
  refine T.idiv (pc' := 277) (q_d dL_acts_3 32 rfl) rfl (by decide) (pk_div (by omega) (by omega) (by omega)) ?_
  refine T.callS (pc' := 280) (q_d dL_acts_3 33 rfl) rfl uL_hunts wM_L_67 (c_hunts hb hX hzm (z := z / 128) (by omega)) rfl rfl (by decide) (Nat.le_of_ble_eq_true rfl) rfl rfl (fun _ => rfl) ?_
  rintro _ M2 ⟨rfl, s', k', was', hcy, pa2, sw2, hX2⟩
  dsimp only [Option.toList, List.cons_append, List.nil_append, List.append_nil]
  refine T.zret (q_d dL_acts_3 34 rfl) rfl (by decide) rfl rfl ?_
  exact ⟨rfl, s', k', was', hI.Cy hcy, (by rw [hcy 0 (by decide) (by decide) (by decide) (by decide)]; exact h3), pa2, sw2, hX2⟩
theorem c_acts (hb : b + 127 < 2 ^ 30) (hX : RX M b s k was n t pa sw) (hI : IN s) (h3 : 3 ≤ s 0) {y : Nat} (hy : y < 2147483648) : Ct l hdX kX mL_acts [.ref 0, .int (nI y)] M (AQ b n t) := by
  refine Ct.of [some (.ref 0), some (.int (nI y)), none, none, none, none, none, none, none] (by decide +kernel) (fun h => absurd h (by decide)) (Nat.le_of_ble_eq_true rfl) rfl ?_
  have hz : y / 8 < 2147483648 := by omega
  refine T.iload_n (pc' := 1) (q_d dL_acts_0 0 rfl) rfl rfl rfl ?_
  refine T.bipush (pc' := 3) (v := nI 8) (q_d dL_acts_0 1 rfl) rfl (by decide) ?_
  refine T.idiv (pc' := 4) (q_d dL_acts_0 2 rfl) rfl (by decide) (pk_div (by omega) (by omega) (by omega)) ?_
  refine T.istore_n (pc' := 5) (q_d dL_acts_0 3 rfl) rfl rfl (by decide) rfl rfl ?_
  refine T.aload_n (pc' := 6) (q_d dL_acts_0 4 rfl) rfl rfl rfl ?_
  refine T.iconst (pc' := 7) (v := nI 0) (q_d dL_acts_0 5 rfl) rfl (by decide) ?_
  refine T.callV (pc' := 10) (ci := 5) (q_d dL_acts_0 6 rfl) rfl uX5_count wM_L_38 (c_cnt hX (by omega) (u := 0) (x := s 0) (by decide) rfl) rfl rfl (by decide) rfl rfl (by decide) (Nat.le_of_ble_eq_true rfl) rfl rfl (fun _ => rfl) ?_
  rintro _ M2 ⟨rfl, pa2, sw2, hX2⟩
  replace hX2 : RX M2 b s k was n t pa2 sw2 := hX2
  dsimp only [Option.toList, List.cons_append, List.nil_append, List.append_nil]
  refine T.istore_n (pc' := 11) (q_d dL_acts_0 7 rfl) rfl rfl (by decide) rfl rfl ?_
  refine T.iload_n (pc' := 12) (q_d dL_acts_0 8 rfl) rfl rfl rfl ?_
  refine T.bipush (pc' := 14) (v := nI 8) (q_d dL_acts_0 9 rfl) rfl (by decide) ?_
  refine T.irem (pc' := 15) (q_d dL_acts_0 10 rfl) rfl (by decide) (pk_rem (by omega) (by omega) (by omega)) ?_
  rcases (by omega : y % 8 = 0 ∨ y % 8 = 1 ∨ y % 8 = 2 ∨ y % 8 = 3 ∨ y % 8 = 4 ∨ 4 < y % 8) with e | e | e | e | e | e
  · rw [e]
    refine T.tableIn (tgt := 48) (q_d dL_acts_0 11 rfl) (by decide +kernel) (by decide +kernel) (off := 33) (by decide +kernel) (by decide) ?_
    exact a_place hb hX2 hI h3 hz
  · rw [e]
    refine T.tableIn (tgt := 76) (q_d dL_acts_0 11 rfl) (by decide +kernel) (by decide +kernel) (off := 61) (by decide +kernel) (by decide) ?_
    exact a_road hb hX2 hI h3 hz
  · rw [e]
    refine T.tableIn (tgt := 76) (q_d dL_acts_0 11 rfl) (by decide +kernel) (by decide +kernel) (off := 61) (by decide +kernel) (by decide) ?_
    exact a_road hb hX2 hI h3 hz
  · rw [e]
    refine T.tableIn (tgt := 145) (q_d dL_acts_0 11 rfl) (by decide +kernel) (by decide +kernel) (off := 130) (by decide +kernel) (by decide) ?_
    exact a_shut hb hX2 hI h3 hz
  · rw [e]
    refine T.tableIn (tgt := 228) (q_d dL_acts_0 11 rfl) (by decide +kernel) (by decide +kernel) (off := 213) (by decide +kernel) (by decide) ?_
    exact a_set hb hX2 hI h3 hz
  · refine T.tableOut (tgt := 266) (q_d dL_acts_0 11 rfl) (sw_out (by omega) e (by decide)) (by decide) ?_
    exact a_hunt hb hX2 hI h3 hz
end Acts
