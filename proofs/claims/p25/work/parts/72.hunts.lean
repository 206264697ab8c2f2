/-! a hunt of the law: the hare is in the belief, and is caught in as many rounds as the belief needs -/
theorem cmB_le {s nd bs : Nat → Nat} {L : Nat} {st : (Nat → Bool) × Nat} : ∀ k, (cmB s nd bs L k st).2 ≤ st.2 + k
  | 0 => Nat.le_refl _
  | k + 1 => by
    have ih := cmB_le (s := s) (nd := nd) (bs := bs) (L := L) (st := st) k
    rw [cmB]
    split
    · show (cmB s nd bs L k st).2 + 1 ≤ _
      omega
    · omega
theorem cmL_le {s nd bs : Nat → Nat} (h7 : s 0 ≤ 7) : ∀ L (st : (Nat → Bool) × Nat), (cmL s nd bs L st).2 ≤ st.2 + L * 127
  | 0, st => by rw [cmL]; omega
  | L + 1, st => by
    rw [cmL]
    have h1 := cmL_le (nd := nd) (bs := bs) h7 L (cmB s nd bs (L + 1) (2 ^ s 0 - 1) st)
    have h2 := cmB_le (s := s) (nd := nd) (bs := bs) (L := L + 1) (st := st) (2 ^ s 0 - 1)
    have h3 := p2_le h7
    omega
theorem coming_le {s nd bs : Nat → Nat} (h7 : s 0 ≤ 7) {y : Nat} (h : nd y ≤ 127) : comingN s nd bs y ≤ 16129 := by
  have h1 := cmL_le (nd := nd) (bs := bs) h7 (nd y) (fun x => decide (x = y), 0)
  unfold comingN
  have : (fun x => decide (x = y), 0).2 = 0 := rfl
  have h2 : nd y * 127 ≤ 127 * 127 := Nat.mul_le_mul_right 127 h
  omega
theorem dif_out {a p : Nat} (ha : a < 128) (h : a.testBit p = false) : dif a (1 <<< p) = a := by
  refine bit_ext fun i => ?_
  constructor
  · intro q
    exact ((dif_bit (Nat.lt_of_lt_of_le (lt_bit (n := 7) (dif_lt ha) q) (by decide))).mp q).1
  · intro q
    refine (dif_bit (Nat.lt_of_lt_of_le (lt_bit (n := 7) ha q) (by decide))).mpr ⟨q, ?_⟩
    cases e : (1 <<< p).testBit i with
    | false => rfl
    | true =>
      rw [one_bit.mp e, h] at q
      exact absurd q (by decide)
theorem sh8 : ∀ r, r < 8 → 0 < 8 <<< r ∧ 8 <<< r ≤ 1024 := by decide
theorem sI_lt0 {a : Nat} (ha : a < 4294967296) (h : ¬ nI a < 0) : a < 2147483648 := (nN_in ha).resolve_right h
def HQ (b : Nat) (s : Nat → Nat) (n : Nat) (t : Nat → Nat) : Option Value → qM → Prop := fun v M' => v = some (.int (nI 1)) ∧ ∃ s' k' was', Cy s s' ∧ Ac (b + 127) (s', k', was', n, t) M'
section Hunts
variable {l : Launch} {M : qM} {b : Nat} {s : Nat → Nat} {k : Nat} {was : Nat → Nat → Nat} {n : Nat} {t pa : Nat → Nat} {sw : Bool}
theorem hunts_end {u z N p j : Nat} (hb : b + 127 < 2 ^ 30) {M1 : qM} {s1 : Nat → Nat} {k1 : Nat} {was1 : Nat → Nat → Nat} {pa1 : Nat → Nat} {sw1 : Bool} {x9 x10 x11 : Option Value} (hX1 : RX M1 (b + j) s1 k1 was1 n t pa1 sw1) (hc : Cy s s1) (h2 : s1 2 = j) (hp : p < 7) (hbit : (s1 1).testBit p = true) (hj : j < N) (hN : N ≤ 127) :
    T l hdX kX mL_hunts (HQ b s n t) 0 0 126 [some (.ref 0), some (.int (nI u)), some (.int (nI z)), some (.int (nI N)), some (.int (nI p)), some (.int (nI j)), some (.int (nI 1)), some (.int (nI 1)), some (.int (nI (j + 1))), x9, x10, x11, none, none, none] [] M1 := by
  have w0 := p2_le hX1.2.2.2.1.1
  have w1 := hX1.2.2.2.1.2.1
  have g1 := and1_01 (s1 1 >>> p)
  have hb1 := (bit_iff _ _).mpr hbit
  refine T.iload (pc' := 128) (q_d dL_hunts_1 29 rfl) rfl rfl ?_
  refine T.iload_n (pc' := 129) (q_d dL_hunts_1 30 rfl) rfl rfl rfl ?_
  refine T.icmp_geN (tgt := 325) (pc' := 132) (q_d dL_hunts_1 31 rfl) rfl (by decide) (by omega) (by omega) (fun h129 => ?_) (fun h129 => ?_)
  · refine T.iload (pc' := 327) (q_d dL_hunts_4 12 rfl) rfl rfl ?_
    refine T.if_eqN (tgt := 374) (pc' := 330) (q_d dL_hunts_4 13 rfl) rfl (by decide) (by omega) (fun h327 => ?_) (fun h327 => ?_)
    · exact absurd h327 (by decide)
    · refine T.iload (pc' := 332) (q_d dL_hunts_4 14 rfl) rfl rfl ?_
      refine T.if_eqN (tgt := 374) (pc' := 335) (q_d dL_hunts_4 15 rfl) rfl (by decide) (by omega) (fun h332 => ?_) (fun h332 => ?_)
      · exact absurd h332 (by decide)
      · refine T.iload (pc' := 337) (q_d dL_hunts_4 16 rfl) rfl rfl ?_
        refine T.iload_n (pc' := 338) (q_d dL_hunts_4 17 rfl) rfl rfl rfl ?_
        refine T.icmp_geN (tgt := 374) (pc' := 341) (q_d dL_hunts_4 18 rfl) rfl (by decide) (by omega) (by omega) (fun h338 => ?_) (fun h338 => ?_)
        · exact absurd h338 (by omega)
        · refine T.aload_n (pc' := 342) (q_d dL_hunts_4 19 rfl) rfl rfl rfl ?_
          refine T.iconst (pc' := 343) (v := nI 4) (q_d dL_hunts_4 20 rfl) rfl (by decide) ?_
          refine T.callV (pc' := 346) (ci := 5) (q_d dL_hunts_4 21 rfl) rfl uX5_count wM_L_38 (c_cnt hX1 (by omega) (u := 4) (x := s1 2) (by decide) rfl) rfl rfl (by decide) rfl rfl (by decide) (Nat.le_of_ble_eq_true rfl) rfl rfl (fun _ => rfl) ?_
          rintro _ M2 ⟨rfl, pa2, sw2, hX2⟩
          replace hX2 : RX M2 (b + j) s1 k1 was1 n t pa2 sw2 := hX2
          dsimp only [Option.toList, List.cons_append, List.nil_append, List.append_nil]
          refine T.iload (pc' := 348) (q_d dL_hunts_4 22 rfl) rfl rfl ?_
          refine T.icmp_neN (tgt := 374) (pc' := 351) (q_d dL_hunts_4 23 rfl) rfl (by decide) (by omega) (by omega) (fun h348 => ?_) (fun h348 => ?_)
          · exact absurd h2 h348
          · refine T.iload (pc' := 353) (q_d dL_hunts_4 24 rfl) rfl rfl ?_
            refine T.if_eqN (tgt := 370) (pc' := 356) (q_d dL_hunts_4 25 rfl) rfl (by decide) (by omega) (fun h353 => ?_) (fun h353 => ?_)
            · refine T.iconst (pc' := 371) (v := nI 1) (q_d dL_hunts_4 35 rfl) rfl (by decide) ?_
              refine T.goto (tgt := 375) (q_d dL_hunts_4 36 rfl) (by decide) ?_
              refine T.zret (q_d dL_hunts_4 38 rfl) rfl (by decide) rfl rfl ?_
              first
              | exact ⟨rfl, s1, k1, was1, hc, pa3, sw3, hX3.le (by omega)⟩
              | exact ⟨rfl, s1, k1, was1, hc, pa2, sw2, hX2.le (by omega)⟩
            · refine T.aload_n (pc' := 357) (q_d dL_hunts_4 26 rfl) rfl rfl rfl ?_
              refine T.iconst (pc' := 358) (v := nI 3) (q_d dL_hunts_4 27 rfl) rfl (by decide) ?_
              refine T.callV (pc' := 361) (ci := 5) (q_d dL_hunts_4 28 rfl) rfl uX5_count wM_L_38 (c_cnt hX2 (by omega) (u := 3) (x := s1 1) (by decide) rfl) rfl rfl (by decide) rfl rfl (by decide) (Nat.le_of_ble_eq_true rfl) rfl rfl (fun _ => rfl) ?_
              rintro _ M3 ⟨rfl, pa3, sw3, hX3⟩
              replace hX3 : RX M3 (b + j) s1 k1 was1 n t pa3 sw3 := hX3
              dsimp only [Option.toList, List.cons_append, List.nil_append, List.append_nil]
              refine T.iload (pc' := 363) (q_d dL_hunts_4 29 rfl) rfl rfl ?_
              refine T.ishr (pc' := 364) (q_d dL_hunts_4 30 rfl) rfl (nN_shr (by omega) (by omega)) ?_
              refine T.iconst (pc' := 365) (v := nI 1) (q_d dL_hunts_4 31 rfl) rfl (by decide) ?_
              refine T.iand (pc' := 366) (q_d dL_hunts_4 32 rfl) rfl (nN_and _ _) ?_
              refine T.iconst (pc' := 367) (v := nI 1) (q_d dL_hunts_4 33 rfl) rfl (by decide) ?_
              refine T.icmp_neN (tgt := 374) (pc' := 370) (q_d dL_hunts_4 34 rfl) rfl (by decide) (by omega) (by omega) (fun h367 => ?_) (fun h367 => ?_)
              · exact absurd hb1 h367
              · refine T.iconst (pc' := 371) (v := nI 1) (q_d dL_hunts_4 35 rfl) rfl (by decide) ?_
                refine T.goto (tgt := 375) (q_d dL_hunts_4 36 rfl) (by decide) ?_
                refine T.zret (q_d dL_hunts_4 38 rfl) rfl (by decide) rfl rfl ?_
                first
                | exact ⟨rfl, s1, k1, was1, hc, pa3, sw3, hX3.le (by omega)⟩
                | exact ⟨rfl, s1, k1, was1, hc, pa2, sw2, hX2.le (by omega)⟩
  · refine T.iload (pc' := 134) (q_d dL_hunts_1 32 rfl) rfl rfl ?_
    refine T.if_eqN (tgt := 325) (pc' := 137) (q_d dL_hunts_1 33 rfl) rfl (by decide) (by omega) (fun h134 => ?_) (fun h134 => ?_)
    · exact absurd h134 (by decide)
    · refine T.iload (pc' := 139) (q_d dL_hunts_1 34 rfl) rfl rfl ?_
      refine T.if_neN (tgt := 325) (pc' := 142) (q_d dL_hunts_1 35 rfl) rfl (by decide) (by omega) (fun h139 => ?_) (fun h139 => ?_)
      · refine T.iload (pc' := 327) (q_d dL_hunts_4 12 rfl) rfl rfl ?_
        refine T.if_eqN (tgt := 374) (pc' := 330) (q_d dL_hunts_4 13 rfl) rfl (by decide) (by omega) (fun h327 => ?_) (fun h327 => ?_)
        · exact absurd h327 (by decide)
        · refine T.iload (pc' := 332) (q_d dL_hunts_4 14 rfl) rfl rfl ?_
          refine T.if_eqN (tgt := 374) (pc' := 335) (q_d dL_hunts_4 15 rfl) rfl (by decide) (by omega) (fun h332 => ?_) (fun h332 => ?_)
          · exact absurd h332 (by decide)
          · refine T.iload (pc' := 337) (q_d dL_hunts_4 16 rfl) rfl rfl ?_
            refine T.iload_n (pc' := 338) (q_d dL_hunts_4 17 rfl) rfl rfl rfl ?_
            refine T.icmp_geN (tgt := 374) (pc' := 341) (q_d dL_hunts_4 18 rfl) rfl (by decide) (by omega) (by omega) (fun h338 => ?_) (fun h338 => ?_)
            · exact absurd h338 (by omega)
            · refine T.aload_n (pc' := 342) (q_d dL_hunts_4 19 rfl) rfl rfl rfl ?_
              refine T.iconst (pc' := 343) (v := nI 4) (q_d dL_hunts_4 20 rfl) rfl (by decide) ?_
              refine T.callV (pc' := 346) (ci := 5) (q_d dL_hunts_4 21 rfl) rfl uX5_count wM_L_38 (c_cnt hX1 (by omega) (u := 4) (x := s1 2) (by decide) rfl) rfl rfl (by decide) rfl rfl (by decide) (Nat.le_of_ble_eq_true rfl) rfl rfl (fun _ => rfl) ?_
              rintro _ M2 ⟨rfl, pa2, sw2, hX2⟩
              replace hX2 : RX M2 (b + j) s1 k1 was1 n t pa2 sw2 := hX2
              dsimp only [Option.toList, List.cons_append, List.nil_append, List.append_nil]
              refine T.iload (pc' := 348) (q_d dL_hunts_4 22 rfl) rfl rfl ?_
              refine T.icmp_neN (tgt := 374) (pc' := 351) (q_d dL_hunts_4 23 rfl) rfl (by decide) (by omega) (by omega) (fun h348 => ?_) (fun h348 => ?_)
              · exact absurd h2 h348
              · refine T.iload (pc' := 353) (q_d dL_hunts_4 24 rfl) rfl rfl ?_
                refine T.if_eqN (tgt := 370) (pc' := 356) (q_d dL_hunts_4 25 rfl) rfl (by decide) (by omega) (fun h353 => ?_) (fun h353 => ?_)
                · refine T.iconst (pc' := 371) (v := nI 1) (q_d dL_hunts_4 35 rfl) rfl (by decide) ?_
                  refine T.goto (tgt := 375) (q_d dL_hunts_4 36 rfl) (by decide) ?_
                  refine T.zret (q_d dL_hunts_4 38 rfl) rfl (by decide) rfl rfl ?_
                  first
                  | exact ⟨rfl, s1, k1, was1, hc, pa3, sw3, hX3.le (by omega)⟩
                  | exact ⟨rfl, s1, k1, was1, hc, pa2, sw2, hX2.le (by omega)⟩
                · refine T.aload_n (pc' := 357) (q_d dL_hunts_4 26 rfl) rfl rfl rfl ?_
                  refine T.iconst (pc' := 358) (v := nI 3) (q_d dL_hunts_4 27 rfl) rfl (by decide) ?_
                  refine T.callV (pc' := 361) (ci := 5) (q_d dL_hunts_4 28 rfl) rfl uX5_count wM_L_38 (c_cnt hX2 (by omega) (u := 3) (x := s1 1) (by decide) rfl) rfl rfl (by decide) rfl rfl (by decide) (Nat.le_of_ble_eq_true rfl) rfl rfl (fun _ => rfl) ?_
                  rintro _ M3 ⟨rfl, pa3, sw3, hX3⟩
                  replace hX3 : RX M3 (b + j) s1 k1 was1 n t pa3 sw3 := hX3
                  dsimp only [Option.toList, List.cons_append, List.nil_append, List.append_nil]
                  refine T.iload (pc' := 363) (q_d dL_hunts_4 29 rfl) rfl rfl ?_
                  refine T.ishr (pc' := 364) (q_d dL_hunts_4 30 rfl) rfl (nN_shr (by omega) (by omega)) ?_
                  refine T.iconst (pc' := 365) (v := nI 1) (q_d dL_hunts_4 31 rfl) rfl (by decide) ?_
                  refine T.iand (pc' := 366) (q_d dL_hunts_4 32 rfl) rfl (nN_and _ _) ?_
                  refine T.iconst (pc' := 367) (v := nI 1) (q_d dL_hunts_4 33 rfl) rfl (by decide) ?_
                  refine T.icmp_neN (tgt := 374) (pc' := 370) (q_d dL_hunts_4 34 rfl) rfl (by decide) (by omega) (by omega) (fun h367 => ?_) (fun h367 => ?_)
                  · exact absurd hb1 h367
                  · refine T.iconst (pc' := 371) (v := nI 1) (q_d dL_hunts_4 35 rfl) rfl (by decide) ?_
                    refine T.goto (tgt := 375) (q_d dL_hunts_4 36 rfl) (by decide) ?_
                    refine T.zret (q_d dL_hunts_4 38 rfl) rfl (by decide) rfl rfl ?_
                    first
                    | exact ⟨rfl, s1, k1, was1, hc, pa3, sw3, hX3.le (by omega)⟩
                    | exact ⟨rfl, s1, k1, was1, hc, pa2, sw2, hX2.le (by omega)⟩
      · exact absurd h139 (by decide)
theorem hunts_loop {u z N : Nat} (hb : b + 127 < 2 ^ 30) (hz : z < 2147483648) (hN : N ≤ 127) (h7 : s 0 ≤ 7) : ∀ d j p (M1 : qM) (s1 : Nat → Nat) (k1 : Nat) (was1 : Nat → Nat → Nat) (pa1 : Nat → Nat) (sw1 : Bool), j + d = N → RX M1 (b + j) s1 k1 was1 n t pa1 sw1 → Cy s s1 → s1 2 = j → p < s 0 → (s1 1).testBit p = true → (solN s 0 3 127).1 (s1 1) ≤ d →
    T l hdX kX mL_hunts (HQ b s n t) 0 0 126 [some (.ref 0), some (.int (nI u)), some (.int (nI z)), some (.int (nI N)), some (.int (nI p)), some (.int (nI j)), some (.int (nI 0)), some (.int (nI 1)), some (.int (nI j)), none, none, none, none, none, none] [] M1 := by
  intro d
  induction d with
  | zero =>
    intro j p M1 s1 k1 was1 pa1 sw1 hjd hX1 hc h2 hp hbit hle
    have hpos : 0 < s1 1 := Nat.pos_of_ne_zero (fun e => by rw [e, Nat.zero_testBit] at hbit; exact absurd hbit (by decide))
    have := sol_pos (s := s) (g0 := 0) (g1 := 3) hpos 127
    exact absurd hle (by omega)
  | succ d ih =>
    intro j p M1 s1 k1 was1 pa1 sw1 hjd hX1 hc h2 hp hbit hle
    have hw := hX1.2.2.2.1
    have h71 := hw.1
    have e0 : s1 0 = s 0 := hc 0 (by decide) (by decide) (by decide) (by decide)
    have w0 := p2_le h71
    have w1 := hw.2.1
    have w6 := hw.2.2.2.2.2.1
    have hpos : 0 < s1 1 := Nat.pos_of_ne_zero (fun e => by rw [e, Nat.zero_testBit] at hbit; exact absurd hbit (by decide))
    have hnp := sol_pos (s := s) (g0 := 0) (g1 := 3) hpos 127
    have esol : solN s1 0 3 127 = solN s 0 3 127 := hc.lsol h7 127
    have hne : (solN s1 0 3 127).1 (s1 1) ≠ 1000 := by rw [esol]; omega
    obtain ⟨-, q2, q3, q4⟩ := sol_best (s := s1) h71 127 (s1 1) (by decide) hpos hne
    have nd : (solN s1 0 3 127).1 (s1 1) = (solN s 0 3 127).1 (s1 1) := by rw [esol]
    obtain ⟨ck, eck⟩ : ∃ ck, (solN s1 0 3 127).2 (s1 1) = ck := ⟨_, rfl⟩
    rw [eck] at q2 q3 q4
    have g1 := and1_01 (s1 1 >>> p)
    have hb1 := (bit_iff _ _).mpr hbit
    have g2 := and1_01 (ck >>> p)
    have hp2 : 1 <<< p < 2 ^ s1 0 := by rw [Nat.one_shiftLeft, e0]; exact Nat.pow_lt_pow_right (by decide) hp
    have hcl := thn_lt (s := s1) (b := 1 <<< p) (c := ck) (g := 4) h71
    have hs8 := sh8 (j % 8) (Nat.mod_lt _ (by decide))
    have hcan : ck.testBit p = false → thn s1 (1 <<< p) ck 4 ≠ 0 := fun h => by rw [thn_one hw (by omega) h]; exact goes_ne
    have hnc : ¬ (ck >>> p &&& 1 = 1) → ck.testBit p = false := fun h => by
      cases e : ck.testBit p with
      | false => rfl
      | true => exact absurd ((bit_iff _ _).mpr e) h
    have hzd : z / (8 <<< (j % 8)) < 2147483648 := Nat.lt_of_le_of_lt (Nat.div_le_self _ _) hz
    have tail : ∀ (M5 : qM) (pa5 : Nat → Nat) (sw5 : Bool) (y11 : Nat), RX M5 (b + j) s1 k1 was1 n t pa5 sw5 → T l hdX kX mL_hunts (HQ b s n t) 0 0 213 [some (.ref 0), some (.int (nI u)), some (.int (nI z)), some (.int (nI N)), some (.int (nI p)), some (.int (nI j)), some (.int (nI 0)), some (.int (nI 1)), some (.int (nI j)), some (.int (nI (s1 1))), some (.int (nI ck)), some (.int (nI y11)), none, none, none] [] M5 := by
      intro M5 pa5 sw5 y11 hX5
      by_cases hck : ck >>> p &&& 1 = 1
      · refine T.iload (pc' := 215) (q_d dL_hunts_2 34 rfl) rfl rfl ?_
        refine T.iload (pc' := 217) (q_d dL_hunts_2 35 rfl) rfl rfl ?_
        refine T.ishr (pc' := 218) (q_d dL_hunts_2 36 rfl) rfl (nN_shr (by omega) (by omega)) ?_
        refine T.iconst (pc' := 219) (v := nI 1) (q_d dL_hunts_2 37 rfl) rfl (by decide) ?_
        refine T.iand (pc' := 220) (q_d dL_hunts_2 38 rfl) rfl (nN_and _ _) ?_
        refine T.iconst (pc' := 221) (v := nI 1) (q_d dL_hunts_2 39 rfl) rfl (by decide) ?_
        refine T.icmp_neN (tgt := 228) (pc' := 224) (q_d dL_hunts_3 0 rfl) rfl (by decide) (by omega) (by omega) (fun h221 => ?_) (fun h221 => ?_)
        · exact absurd hck h221
        · refine T.iconst (pc' := 225) (v := nI 1) (q_d dL_hunts_3 1 rfl) rfl (by decide) ?_
          refine T.goto (tgt := 229) (q_d dL_hunts_3 2 rfl) (by decide) ?_
          refine T.istore (pc' := 231) (q_d dL_hunts_3 4 rfl) rfl (by decide) rfl rfl ?_
          refine T.iload (pc' := 233) (q_d dL_hunts_3 5 rfl) rfl rfl ?_
          refine T.if_eqN (tgt := 319) (pc' := 236) (q_d dL_hunts_3 6 rfl) rfl (by decide) (by omega) (fun h233 => ?_) (fun h233 => ?_)
          · exact absurd h233 (by decide)
          · refine T.iload (pc' := 238) (q_d dL_hunts_3 7 rfl) rfl rfl ?_
            refine T.if_neN (tgt := 319) (pc' := 241) (q_d dL_hunts_3 8 rfl) rfl (by decide) (by omega) (fun h238 => ?_) (fun h238 => ?_)
            · refine T.iinc (pc' := 322) (q_d dL_hunts_4 10 rfl) rfl rfl (nN_p _ 1) (by decide) rfl rfl ?_
              refine T.goto (tgt := 126) (q_d dL_hunts_4 11 rfl) (by decide) ?_
              exact hunts_end hb hX5 hc h2 (by omega) hbit (by omega) hN
            · exact absurd h238 (by decide)
      · have hck0 := hnc hck
        refine T.iload (pc' := 215) (q_d dL_hunts_2 34 rfl) rfl rfl ?_
        refine T.iload (pc' := 217) (q_d dL_hunts_2 35 rfl) rfl rfl ?_
        refine T.ishr (pc' := 218) (q_d dL_hunts_2 36 rfl) rfl (nN_shr (by omega) (by omega)) ?_
        refine T.iconst (pc' := 219) (v := nI 1) (q_d dL_hunts_2 37 rfl) rfl (by decide) ?_
        refine T.iand (pc' := 220) (q_d dL_hunts_2 38 rfl) rfl (nN_and _ _) ?_
        refine T.iconst (pc' := 221) (v := nI 1) (q_d dL_hunts_2 39 rfl) rfl (by decide) ?_
        refine T.icmp_neN (tgt := 228) (pc' := 224) (q_d dL_hunts_3 0 rfl) rfl (by decide) (by omega) (by omega) (fun h221 => ?_) (fun h221 => ?_)
        · refine T.iconst (pc' := 229) (v := nI 0) (q_d dL_hunts_3 3 rfl) rfl (by decide) ?_
          refine T.istore (pc' := 231) (q_d dL_hunts_3 4 rfl) rfl (by decide) rfl rfl ?_
          refine T.iload (pc' := 233) (q_d dL_hunts_3 5 rfl) rfl rfl ?_
          refine T.if_eqN (tgt := 319) (pc' := 236) (q_d dL_hunts_3 6 rfl) rfl (by decide) (by omega) (fun h233 => ?_) (fun h233 => ?_)
          · exact absurd h233 (by decide)
          · refine T.iload (pc' := 238) (q_d dL_hunts_3 7 rfl) rfl rfl ?_
            refine T.if_neN (tgt := 319) (pc' := 241) (q_d dL_hunts_3 8 rfl) rfl (by decide) (by omega) (fun h238 => ?_) (fun h238 => ?_)
            · exact absurd h238 (by decide)
            · refine T.aload_n (pc' := 242) (q_d dL_hunts_3 9 rfl) rfl rfl rfl ?_
              refine T.iconst (pc' := 243) (v := nI 1) (q_d dL_hunts_3 10 rfl) rfl (by decide) ?_
              refine T.iload (pc' := 245) (q_d dL_hunts_3 11 rfl) rfl rfl ?_
              refine T.ishl (pc' := 246) (q_d dL_hunts_3 12 rfl) rfl (nN_shl _ (by omega)) ?_
              refine T.iload (pc' := 248) (q_d dL_hunts_3 13 rfl) rfl rfl ?_
              refine T.iconst (pc' := 249) (v := nI 4294967295) (q_d dL_hunts_3 14 rfl) rfl (by decide) ?_
              refine T.callV (pc' := 252) (ci := 5) (q_d dL_hunts_3 15 rfl) rfl uX5_behind wM_L_9 (c_behA hX5 hp2 q2) rfl rfl (by decide) rfl rfl (by decide) (Nat.le_of_ble_eq_true rfl) rfl rfl (fun _ => rfl) ?_
              rintro _ M6 ⟨rfl, pa6, sw6, hX6⟩
              replace hX6 : RX M6 (b + j) s1 k1 was1 n t pa6 sw6 := hX6
              have hcp := ones_pos _ (show thn s1 (1 <<< p) ck 4 < 128 by omega) (hcan hck0)
              have hco := ones_le (thn s1 (1 <<< p) ck 4)
              dsimp only [Option.toList, List.cons_append, List.nil_append, List.append_nil]
              refine T.istore (pc' := 254) (q_d dL_hunts_3 16 rfl) rfl (by decide) rfl rfl ?_
              refine T.iload (pc' := 256) (q_d dL_hunts_3 17 rfl) rfl rfl ?_
              refine T.iload_n (pc' := 257) (q_d dL_hunts_3 18 rfl) rfl rfl rfl ?_
              refine T.bipush (pc' := 259) (v := nI 8) (q_d dL_hunts_3 19 rfl) rfl (by decide) ?_
              refine T.iload (pc' := 261) (q_d dL_hunts_3 20 rfl) rfl rfl ?_
              refine T.bipush (pc' := 263) (v := nI 8) (q_d dL_hunts_3 21 rfl) rfl (by decide) ?_
              refine T.irem (pc' := 264) (q_d dL_hunts_3 22 rfl) rfl (by decide) (pk_rem (by omega) (by omega) (by omega)) ?_
              refine T.ishl (pc' := 265) (q_d dL_hunts_3 23 rfl) rfl (nN_shl _ (by omega)) ?_
              refine T.idiv (pc' := 266) (q_d dL_hunts_3 24 rfl) rfl (nI_ne0 (by omega) (by omega)) (pk_div (by omega) (by omega) (by omega)) ?_
              refine T.iload (pc' := 268) (q_d dL_hunts_3 25 rfl) rfl rfl ?_
              refine T.callS (pc' := 271) (q_d dL_hunts_3 26 rfl) rfl uL_bits wM_L_24 (c_bits (x := thn s1 (1 <<< p) ck 4) (by omega)) rfl rfl (by decide) (Nat.le_of_ble_eq_true rfl) rfl rfl (fun _ => rfl) ?_
              rintro _ _ ⟨rfl, rfl⟩
              dsimp only [Option.toList, List.cons_append, List.nil_append, List.append_nil]
              refine T.irem (pc' := 272) (q_d dL_hunts_3 27 rfl) rfl (nI_ne0 (by omega) (by omega)) (pk_rem (by omega) (by omega) (by omega)) ?_
              refine T.callS (pc' := 275) (q_d dL_hunts_3 28 rfl) rfl uL_nth wM_L_29 (c_nth (u := thn s1 (1 <<< p) ck 4) (by omega) (Nat.mod_lt _ hcp)) rfl rfl (by decide) (Nat.le_of_ble_eq_true rfl) rfl rfl (fun _ => rfl) ?_
              rintro _ _ ⟨rfl, q, rfl, hq7, hqb⟩
              have hqg : (goes s1 p ck).testBit q = true := by rw [← thn_one hw (by omega) hck0]; exact hqb
              have hq0 : q < s1 0 := ((thn_bit h71).mp hqb).1
              have hh4 := hears_lt hw (p := p) (q := q) (by omega)
              have hnew : (thn s1 (s1 1) ck (hears s1 p q)).testBit q = true := (thn_bit h71).mpr ⟨hq0, p, by omega, hbit, hck0, hqg, Or.inr rfl⟩
              have hnl := thn_lt (s := s1) (b := s1 1) (c := ck) (g := hears s1 p q) h71
              have hnz : thn s1 (s1 1) ck (hears s1 p q) ≠ 0 := fun e => by rw [e, Nat.zero_testBit] at hnew; exact absurd hnew (by decide)
              have hno := ones_pos _ (show thn s1 (s1 1) ck (hears s1 p q) < 128 by omega) hnz
              have hno7 := ones_le (thn s1 (s1 1) ck (hears s1 p q))
              dsimp only [Option.toList, List.cons_append, List.nil_append, List.append_nil]
              refine T.istore (pc' := 277) (q_d dL_hunts_3 29 rfl) rfl (by decide) rfl rfl ?_
              refine T.aload_n (pc' := 278) (q_d dL_hunts_3 30 rfl) rfl rfl rfl ?_
              refine T.iload (pc' := 280) (q_d dL_hunts_3 31 rfl) rfl rfl ?_
              refine T.iload (pc' := 282) (q_d dL_hunts_3 32 rfl) rfl rfl ?_
              refine T.iload (pc' := 284) (q_d dL_hunts_3 33 rfl) rfl rfl ?_
              refine T.callS (pc' := 287) (q_d dL_hunts_3 34 rfl) rfl uL_signal wM_L_41 (c_signal hX6 (f := p) (g := q) (c := ck) (by omega) hq0 q2 (by rw [dif_out (by omega) hck0]; exact hqg)) rfl rfl (by decide) (Nat.le_of_ble_eq_true rfl) rfl rfl (fun _ => rfl) ?_
              rintro _ M7 ⟨rfl, pa7, sw7, hX7⟩
              replace hX7 : RX M7 (b + j) s1 k1 was1 n t pa7 sw7 := hX7
              dsimp only [Option.toList, List.cons_append, List.nil_append, List.append_nil]
              refine T.istore (pc' := 289) (q_d dL_hunts_3 35 rfl) rfl (by decide) rfl rfl ?_
              refine T.iload (pc' := 291) (q_d dL_hunts_3 36 rfl) rfl rfl ?_
              refine T.if_ltN (tgt := 309) (pc' := 294) (q_d dL_hunts_3 37 rfl) rfl (by decide) (by omega) ?_
              refine T.aload_n (pc' := 295) (q_d dL_hunts_3 38 rfl) rfl rfl rfl ?_
              refine T.iload (pc' := 297) (q_d dL_hunts_3 39 rfl) rfl rfl ?_
              refine T.iload (pc' := 299) (q_d dL_hunts_4 0 rfl) rfl rfl ?_
              refine T.callV (pc' := 302) (ci := 5) (q_d dL_hunts_4 1 rfl) rfl uX5_check wM_L_45 (c_chk hX7 (u := ck) (v := hears s1 p q) q2 (by omega) q3 ⟨by omega, Or.inr hnz⟩) rfl rfl (by decide) rfl rfl (by decide) (Nat.le_of_ble_eq_true rfl) rfl rfl (fun _ => rfl) ?_
              rintro _ M8 ⟨rfl, pa8, sw8, hX8⟩
              replace hX8 : RX M8 (b + j + 1) (sRound s1 ck (hears s1 p q)) (pushK k1) (pushW k1 was1 s1) n t pa8 sw8 := hX8
              dsimp only [Option.toList, List.cons_append, List.nil_append, List.append_nil]
              refine T.if_leN (tgt := 309) (pc' := 305) (q_d dL_hunts_4 2 rfl) rfl (by decide) (by omega) (fun h302 => ?_) (fun h302 => ?_)
              · exact absurd h302 (by omega)
              · refine T.iconst (pc' := 306) (v := nI 1) (q_d dL_hunts_4 3 rfl) rfl (by decide) ?_
                refine T.goto (tgt := 310) (q_d dL_hunts_4 4 rfl) (by decide) ?_
                refine T.istore (pc' := 312) (q_d dL_hunts_4 6 rfl) rfl (by decide) rfl rfl ?_
                refine T.iload (pc' := 314) (q_d dL_hunts_4 7 rfl) rfl rfl ?_
                refine T.istore (pc' := 316) (q_d dL_hunts_4 8 rfl) rfl (by decide) rfl rfl ?_
                refine T.iinc (pc' := 319) (q_d dL_hunts_4 9 rfl) rfl rfl (nN_p _ 1) (by decide) rfl rfl ?_
                refine T.iinc (pc' := 322) (q_d dL_hunts_4 10 rfl) rfl rfl (nN_p _ 1) (by decide) rfl rfl ?_
                refine T.goto (tgt := 126) (q_d dL_hunts_4 11 rfl) (by decide) ?_
                refine T.drop (loc' := [some (.ref 0), some (.int (nI u)), some (.int (nI z)), some (.int (nI N)), some (.int (nI q)), some (.int (nI (j + 1))), some (.int (nI 0)), some (.int (nI 1)), some (.int (nI (j + 1))), none, none, none, none, none, none]) ⟨rfl, rfl, rfl, rfl, rfl, rfl, rfl, rfl, rfl, trivial⟩ ?_
                refine ih (j + 1) q M8 (sRound s1 ck (hears s1 p q)) _ _ pa8 sw8 (by omega) hX8 (hc.ltrans (Cy.lround s1 ck (hears s1 p q))) (by rw [← h2]; rfl) (by omega) hnew ?_
                show (solN s 0 3 127).1 (thn s1 (s1 1) ck (hears s1 p q)) ≤ d
                have h9 := q4 (hears s1 p q) (by omega)
                rw [nd, esol] at h9
                omega
        · exact absurd h221 hck
    refine T.iload (pc' := 128) (q_d dL_hunts_1 29 rfl) rfl rfl ?_
    refine T.iload_n (pc' := 129) (q_d dL_hunts_1 30 rfl) rfl rfl rfl ?_
    refine T.icmp_geN (tgt := 325) (pc' := 132) (q_d dL_hunts_1 31 rfl) rfl (by decide) (by omega) (by omega) (fun h129 => ?_) (fun h129 => ?_)
    · exact absurd h129 (by omega)
    · refine T.iload (pc' := 134) (q_d dL_hunts_1 32 rfl) rfl rfl ?_
      refine T.if_eqN (tgt := 325) (pc' := 137) (q_d dL_hunts_1 33 rfl) rfl (by decide) (by omega) (fun h134 => ?_) (fun h134 => ?_)
      · exact absurd h134 (by decide)
      · refine T.iload (pc' := 139) (q_d dL_hunts_1 34 rfl) rfl rfl ?_
        refine T.if_neN (tgt := 325) (pc' := 142) (q_d dL_hunts_1 35 rfl) rfl (by decide) (by omega) (fun h139 => ?_) (fun h139 => ?_)
        · exact absurd h139 (by decide)
        · refine T.aload_n (pc' := 143) (q_d dL_hunts_1 36 rfl) rfl rfl rfl ?_
          refine T.iconst (pc' := 144) (v := nI 3) (q_d dL_hunts_1 37 rfl) rfl (by decide) ?_
          refine T.callV (pc' := 147) (ci := 5) (q_d dL_hunts_1 38 rfl) rfl uX5_count wM_L_38 (c_cnt hX1 (by omega) (u := 3) (x := s1 1) (by decide) rfl) rfl rfl (by decide) rfl rfl (by decide) (Nat.le_of_ble_eq_true rfl) rfl rfl (fun _ => rfl) ?_
          rintro _ M2 ⟨rfl, pa2, sw2, hX2⟩
          replace hX2 : RX M2 (b + j) s1 k1 was1 n t pa2 sw2 := hX2
          dsimp only [Option.toList, List.cons_append, List.nil_append, List.append_nil]
          refine T.istore (pc' := 149) (q_d dL_hunts_1 39 rfl) rfl (by decide) rfl rfl ?_
          refine T.aload_n (pc' := 150) (q_d dL_hunts_2 0 rfl) rfl rfl rfl ?_
          refine T.iload (pc' := 152) (q_d dL_hunts_2 1 rfl) rfl rfl ?_
          refine T.iconst (pc' := 153) (v := nI 1) (q_d dL_hunts_2 2 rfl) rfl (by decide) ?_
          refine T.callV (pc' := 156) (ci := 5) (q_d dL_hunts_2 3 rfl) rfl uX5_sure wM_L_15 (c_sure1 hX2 w1 hne eck) rfl rfl (by decide) rfl rfl (by decide) (Nat.le_of_ble_eq_true rfl) rfl rfl (fun _ => rfl) ?_
          rintro _ M3 ⟨rfl, pa3, sw3, hX3⟩
          replace hX3 : RX M3 (b + j) s1 k1 was1 n t pa3 sw3 := hX3
          dsimp only [Option.toList, List.cons_append, List.nil_append, List.append_nil]
          refine T.istore (pc' := 158) (q_d dL_hunts_2 4 rfl) rfl (by decide) rfl rfl ?_
          refine T.aload_n (pc' := 159) (q_d dL_hunts_2 5 rfl) rfl rfl rfl ?_
          refine T.iload (pc' := 161) (q_d dL_hunts_2 6 rfl) rfl rfl ?_
          refine T.iconst (pc' := 162) (v := nI 0) (q_d dL_hunts_2 7 rfl) rfl (by decide) ?_
          refine T.callV (pc' := 165) (ci := 5) (q_d dL_hunts_2 8 rfl) rfl uX5_sure wM_L_15 (c_sure0 hX3 w1 nd (by omega)) rfl rfl (by decide) rfl rfl (by decide) (Nat.le_of_ble_eq_true rfl) rfl rfl (fun _ => rfl) ?_
          rintro _ M4 ⟨rfl, pa4, sw4, hX4⟩
          replace hX4 : RX M4 (b + j) s1 k1 was1 n t pa4 sw4 := hX4
          dsimp only [Option.toList, List.cons_append, List.nil_append, List.append_nil]
          refine T.istore (pc' := 167) (q_d dL_hunts_2 9 rfl) rfl (by decide) rfl rfl ?_
          refine T.iload (pc' := 169) (q_d dL_hunts_2 10 rfl) rfl rfl ?_
          refine T.if_leN (tgt := 210) (pc' := 172) (q_d dL_hunts_2 11 rfl) rfl (by decide) (by omega) (fun h169 => ?_) (fun h169 => ?_)
          · exact absurd h169 (by omega)
          · refine T.iload (pc' := 174) (q_d dL_hunts_2 12 rfl) rfl rfl ?_
            refine T.iload_n (pc' := 175) (q_d dL_hunts_2 13 rfl) rfl rfl rfl ?_
            refine T.iload (pc' := 177) (q_d dL_hunts_2 14 rfl) rfl rfl ?_
            refine T.isub (pc' := 178) (q_d dL_hunts_2 15 rfl) rfl (nN_sub (by omega)) ?_
            refine T.icmp_gtN (tgt := 210) (pc' := 181) (q_d dL_hunts_2 16 rfl) rfl (by decide) (by omega) (by omega) (fun h178 => ?_) (fun h178 => ?_)
            · exact absurd h178 (by omega)
            · refine T.iload (pc' := 183) (q_d dL_hunts_2 17 rfl) rfl rfl ?_
              refine T.callS (pc' := 186) (q_d dL_hunts_2 18 rfl) rfl uL_bits wM_L_24 (c_bits (x := ck) (by omega)) rfl rfl (by decide) (Nat.le_of_ble_eq_true rfl) rfl rfl (fun _ => rfl) ?_
              rintro _ _ ⟨rfl, rfl⟩
              dsimp only [Option.toList, List.cons_append, List.nil_append, List.append_nil]
              refine T.aload_n (pc' := 187) (q_d dL_hunts_2 19 rfl) rfl rfl rfl ?_
              refine T.bipush (pc' := 189) (v := nI 22) (q_d dL_hunts_2 20 rfl) rfl (by decide) ?_
              refine T.callV (pc' := 192) (ci := 5) (q_d dL_hunts_2 21 rfl) rfl uX5_count wM_L_38 (c_cnt hX4 (by omega) (u := 22) (x := s1 6) (by decide) rfl) rfl rfl (by decide) rfl rfl (by decide) (Nat.le_of_ble_eq_true rfl) rfl rfl (fun _ => rfl) ?_
              rintro _ M5 ⟨rfl, pa5, sw5, hX5⟩
              replace hX5 : RX M5 (b + j) s1 k1 was1 n t pa5 sw5 := hX5
              dsimp only [Option.toList, List.cons_append, List.nil_append, List.append_nil]
              refine T.icmp_gtN (tgt := 210) (pc' := 195) (q_d dL_hunts_2 22 rfl) rfl (by decide) (by omega) (by omega) (fun h192 => ?_) (fun h192 => ?_)
              · exact absurd h192 (by omega)
              · refine T.iload (pc' := 197) (q_d dL_hunts_2 23 rfl) rfl rfl ?_
                refine T.iload (pc' := 199) (q_d dL_hunts_2 24 rfl) rfl rfl ?_
                refine T.ishr (pc' := 200) (q_d dL_hunts_2 25 rfl) rfl (nN_shr (by omega) (by omega)) ?_
                refine T.iconst (pc' := 201) (v := nI 1) (q_d dL_hunts_2 26 rfl) rfl (by decide) ?_
                refine T.iand (pc' := 202) (q_d dL_hunts_2 27 rfl) rfl (nN_and _ _) ?_
                refine T.iconst (pc' := 203) (v := nI 1) (q_d dL_hunts_2 28 rfl) rfl (by decide) ?_
                refine T.icmp_neN (tgt := 210) (pc' := 206) (q_d dL_hunts_2 29 rfl) rfl (by decide) (by omega) (by omega) (fun h203 => ?_) (fun h203 => ?_)
                · exact absurd hb1 h203
                · refine T.iconst (pc' := 207) (v := nI 1) (q_d dL_hunts_2 30 rfl) rfl (by decide) ?_
                  refine T.goto (tgt := 211) (q_d dL_hunts_2 31 rfl) (by decide) ?_
                  refine T.istore (pc' := 213) (q_d dL_hunts_2 33 rfl) rfl (by decide) rfl rfl ?_
                  exact tail M5 pa5 sw5 _ hX5
theorem c_hunts (hb : b + 127 < 2 ^ 30) (hX : RX M b s k was n t pa sw) {u z : Nat} (hu : u < 2 ^ s 0) (hz : z < 2147483648) : Ct l hdX kX mL_hunts [.ref 0, .int (nI u), .int (nI z)] M (HQ b s n t) := by
  refine Ct.of [some (.ref 0), some (.int (nI u)), some (.int (nI z)), none, none, none, none, none, none, none, none, none, none, none, none] (by decide +kernel) (fun h => absurd h (by decide)) (Nat.le_of_ble_eq_true rfl) rfl ?_
  have hw := hX.2.2.2.1
  have h7 := hw.1
  have w0 := p2_le h7
  have hsv := sol_vals (s := s) (g0 := 0) (g1 := 3) u
  have hdv := sol_vals (s := s) (g0 := 4) (g1 := 4) u
  have hsd := sol_deaf (s := s) h7 127 u (by decide) hu
  have ho7 := ones_le u
  by_cases hN : (solN s 0 3 127).1 u = 1000
  · have hu0 : u ≠ 0 := fun e => by rw [e, sol_0] at hN; exact absurd hN (by decide)
    have ho := ones_pos u (by omega) hu0
    refine T.aload_n (pc' := 1) (q_d dL_hunts_0 0 rfl) rfl rfl rfl ?_
    refine T.iload_n (pc' := 2) (q_d dL_hunts_0 1 rfl) rfl rfl rfl ?_
    refine T.iconst (pc' := 3) (v := nI 0) (q_d dL_hunts_0 2 rfl) rfl (by decide) ?_
    refine T.callV (pc' := 6) (ci := 5) (q_d dL_hunts_0 3 rfl) rfl uX5_sure wM_L_15 (c_sureN hX hu hN) rfl rfl (by decide) rfl rfl (by decide) (Nat.le_of_ble_eq_true rfl) rfl rfl (fun _ => rfl) ?_
    rintro _ M2 ⟨rfl, pa2, sw2, hX2⟩
    replace hX2 : RX M2 b s k was n t pa2 sw2 := hX2
    dsimp only [Option.toList, List.cons_append, List.nil_append, List.append_nil]
    refine T.istore_n (pc' := 7) (q_d dL_hunts_0 4 rfl) rfl rfl (by decide) rfl rfl ?_
    refine T.iload_n (pc' := 8) (q_d dL_hunts_0 5 rfl) rfl rfl rfl ?_
    refine T.if_gt (tgt := 52) (pc' := 11) (q_d dL_hunts_0 6 rfl) rfl (by decide)  (fun h8 => ?_) (fun h8 => ?_)
    · exact absurd h8 (by decide)
    · refine T.iload_n (pc' := 12) (q_d dL_hunts_0 7 rfl) rfl rfl rfl ?_
      refine T.ldc (pc' := 14) (v := nI 4293967292) (q_d dL_hunts_0 8 rfl) rfl wN_L_19 ?_
      refine T.icmp_neN (tgt := 42) (pc' := 17) (q_d dL_hunts_0 9 rfl) rfl (by decide) (by omega) (by omega) (fun h14 => ?_) (fun h14 => ?_)
      · exact absurd rfl h14
      · refine T.aload_n (pc' := 18) (q_d dL_hunts_0 10 rfl) rfl rfl rfl ?_
        refine T.iload_n (pc' := 19) (q_d dL_hunts_0 11 rfl) rfl rfl rfl ?_
        refine T.callV (pc' := 22) (ci := 5) (q_d dL_hunts_0 12 rfl) rfl uX5_deaf wM_L_20 (c_deafN hX2 hu (by omega)) rfl rfl (by decide) rfl rfl (by decide) (Nat.le_of_ble_eq_true rfl) rfl rfl (fun _ => rfl) ?_
        rintro _ M3 ⟨rfl, pa3, sw3, hX3⟩
        replace hX3 : RX M3 b s k was n t pa3 sw3 := hX3
        dsimp only [Option.toList, List.cons_append, List.nil_append, List.append_nil]
        refine T.ldc (pc' := 24) (v := nI 4293967292) (q_d dL_hunts_0 13 rfl) rfl wN_L_19 ?_
        refine T.icmp_neN (tgt := 38) (pc' := 27) (q_d dL_hunts_0 14 rfl) rfl (by decide) (by omega) (by omega) (fun h24 => ?_) (fun h24 => ?_)
        · exact absurd rfl h24
        · refine T.iload_n (pc' := 28) (q_d dL_hunts_0 15 rfl) rfl rfl rfl ?_
          refine T.callS (pc' := 31) (q_d dL_hunts_0 16 rfl) rfl uL_bits wM_L_24 (c_bits (x := u) (by omega)) rfl rfl (by decide) (Nat.le_of_ble_eq_true rfl) rfl rfl (fun _ => rfl) ?_
          rintro _ _ ⟨rfl, rfl⟩
          dsimp only [Option.toList, List.cons_append, List.nil_append, List.append_nil]
          refine T.if_leN (tgt := 38) (pc' := 34) (q_d dL_hunts_0 17 rfl) rfl (by decide) (by omega) (fun h31 => ?_) (fun h31 => ?_)
          · exact absurd h31 (by omega)
          · refine T.iconst (pc' := 35) (v := nI 1) (q_d dL_hunts_0 18 rfl) rfl (by decide) ?_
            refine T.goto (tgt := 51) (q_d dL_hunts_0 19 rfl) (by decide) ?_
            refine T.zret (q_d dL_hunts_0 27 rfl) rfl (by decide) rfl rfl ?_
            exact ⟨rfl, s, k, was, Cy.lrefl s, pa3, sw3, hX3.le (by omega)⟩
  · obtain ⟨N, eN⟩ : ∃ N, (solN s 0 3 127).1 u = N := ⟨_, rfl⟩
    rw [eN] at hN hsv hsd
    have hN127 : N ≤ 127 := hsv.resolve_left hN
    by_cases hu0 : u = 0
    · have hN0 : N = 0 := by rw [← eN, hu0]; exact sol_0 127
      subst hN0
      refine T.aload_n (pc' := 1) (q_d dL_hunts_0 0 rfl) rfl rfl rfl ?_
      refine T.iload_n (pc' := 2) (q_d dL_hunts_0 1 rfl) rfl rfl rfl ?_
      refine T.iconst (pc' := 3) (v := nI 0) (q_d dL_hunts_0 2 rfl) rfl (by decide) ?_
      refine T.callV (pc' := 6) (ci := 5) (q_d dL_hunts_0 3 rfl) rfl uX5_sure wM_L_15 (c_sure0 hX hu eN hN) rfl rfl (by decide) rfl rfl (by decide) (Nat.le_of_ble_eq_true rfl) rfl rfl (fun _ => rfl) ?_
      rintro _ M2 ⟨rfl, pa2, sw2, hX2⟩
      replace hX2 : RX M2 b s k was n t pa2 sw2 := hX2
      dsimp only [Option.toList, List.cons_append, List.nil_append, List.append_nil]
      refine T.istore_n (pc' := 7) (q_d dL_hunts_0 4 rfl) rfl rfl (by decide) rfl rfl ?_
      refine T.iload_n (pc' := 8) (q_d dL_hunts_0 5 rfl) rfl rfl rfl ?_
      refine T.if_gtN (tgt := 52) (pc' := 11) (q_d dL_hunts_0 6 rfl) rfl (by decide) (by omega) (fun h8 => ?_) (fun h8 => ?_)
      · exact absurd h8 (by omega)
      · refine T.iload_n (pc' := 12) (q_d dL_hunts_0 7 rfl) rfl rfl rfl ?_
        refine T.ldc (pc' := 14) (v := nI 4293967292) (q_d dL_hunts_0 8 rfl) rfl wN_L_19 ?_
        refine T.icmp_neN (tgt := 42) (pc' := 17) (q_d dL_hunts_0 9 rfl) rfl (by decide) (by omega) (by omega) (fun h14 => ?_) (fun h14 => ?_)
        · refine T.iload_n (pc' := 43) (q_d dL_hunts_0 22 rfl) rfl rfl rfl ?_
          refine T.if_neN (tgt := 50) (pc' := 46) (q_d dL_hunts_0 23 rfl) rfl (by decide) (by omega) (fun h43 => ?_) (fun h43 => ?_)
          · exact absurd hu0 h43
          · refine T.iconst (pc' := 47) (v := nI 1) (q_d dL_hunts_0 24 rfl) rfl (by decide) ?_
            refine T.goto (tgt := 51) (q_d dL_hunts_0 25 rfl) (by decide) ?_
            refine T.zret (q_d dL_hunts_0 27 rfl) rfl (by decide) rfl rfl ?_
            exact ⟨rfl, s, k, was, Cy.lrefl s, pa2, sw2, hX2.le (by omega)⟩
        · exact absurd h14 (by decide)
    · have ho := ones_pos u (by omega) hu0
      have hNp : 0 < N := by rw [← eN]; exact sol_pos (by omega) 127
      have hzm := Nat.mod_lt z ho
      refine T.aload_n (pc' := 1) (q_d dL_hunts_0 0 rfl) rfl rfl rfl ?_
      refine T.iload_n (pc' := 2) (q_d dL_hunts_0 1 rfl) rfl rfl rfl ?_
      refine T.iconst (pc' := 3) (v := nI 0) (q_d dL_hunts_0 2 rfl) rfl (by decide) ?_
      refine T.callV (pc' := 6) (ci := 5) (q_d dL_hunts_0 3 rfl) rfl uX5_sure wM_L_15 (c_sure0 hX hu eN hN) rfl rfl (by decide) rfl rfl (by decide) (Nat.le_of_ble_eq_true rfl) rfl rfl (fun _ => rfl) ?_
      rintro _ M2 ⟨rfl, pa2, sw2, hX2⟩
      replace hX2 : RX M2 b s k was n t pa2 sw2 := hX2
      dsimp only [Option.toList, List.cons_append, List.nil_append, List.append_nil]
      refine T.istore_n (pc' := 7) (q_d dL_hunts_0 4 rfl) rfl rfl (by decide) rfl rfl ?_
      refine T.iload_n (pc' := 8) (q_d dL_hunts_0 5 rfl) rfl rfl rfl ?_
      refine T.if_gtN (tgt := 52) (pc' := 11) (q_d dL_hunts_0 6 rfl) rfl (by decide) (by omega) (fun h8 => ?_) (fun h8 => ?_)
      · refine T.iload_n (pc' := 53) (q_d dL_hunts_0 28 rfl) rfl rfl rfl ?_
        refine T.iload_n (pc' := 54) (q_d dL_hunts_0 29 rfl) rfl rfl rfl ?_
        refine T.iload_n (pc' := 55) (q_d dL_hunts_0 30 rfl) rfl rfl rfl ?_
        refine T.callS (pc' := 58) (q_d dL_hunts_0 31 rfl) rfl uL_bits wM_L_24 (c_bits (x := u) (by omega)) rfl rfl (by decide) (Nat.le_of_ble_eq_true rfl) rfl rfl (fun _ => rfl) ?_
        rintro _ _ ⟨rfl, rfl⟩
        dsimp only [Option.toList, List.cons_append, List.nil_append, List.append_nil]
        refine T.irem (pc' := 59) (q_d dL_hunts_0 32 rfl) rfl (nI_ne0 (by omega) (by omega)) (pk_rem (by omega) (by omega) (by omega)) ?_
        refine T.callS (pc' := 62) (q_d dL_hunts_0 33 rfl) rfl uL_nth wM_L_29 (c_nth (u := u) (by omega) hzm) rfl rfl (by decide) (Nat.le_of_ble_eq_true rfl) rfl rfl (fun _ => rfl) ?_
        rintro _ _ ⟨rfl, p, rfl, hp7, hpb⟩
        dsimp only [Option.toList, List.cons_append, List.nil_append, List.append_nil]
        refine T.istore (pc' := 64) (q_d dL_hunts_0 34 rfl) rfl (by decide) rfl rfl ?_
        refine T.iconst (pc' := 65) (v := nI 0) (q_d dL_hunts_0 35 rfl) rfl (by decide) ?_
        refine T.istore (pc' := 67) (q_d dL_hunts_0 36 rfl) rfl (by decide) rfl rfl ?_
        refine T.iconst (pc' := 68) (v := nI 0) (q_d dL_hunts_0 37 rfl) rfl (by decide) ?_
        refine T.istore (pc' := 70) (q_d dL_hunts_0 38 rfl) rfl (by decide) rfl rfl ?_
        refine T.aload_n (pc' := 71) (q_d dL_hunts_0 39 rfl) rfl rfl rfl ?_
        refine T.iload_n (pc' := 72) (q_d dL_hunts_1 0 rfl) rfl rfl rfl ?_
        refine T.callV (pc' := 75) (ci := 5) (q_d dL_hunts_1 1 rfl) rfl uX5_believe wM_L_32 (c_bel hX2 hu) rfl rfl (by decide) rfl rfl (by decide) (Nat.le_of_ble_eq_true rfl) rfl rfl (fun _ => rfl) ?_
        rintro _ M3 ⟨rfl, pa3, sw3, hX3⟩
        obtain ⟨s1, hX3, hcy, e0, e1, e2⟩ : ∃ s1, RX M3 b s1 (pushK k) (pushW k was s) n t pa3 sw3 ∧ Cy s s1 ∧ s1 0 = s 0 ∧ s1 1 = u ∧ s1 2 = 0 := ⟨sBelieve s u, hX3, Cy.lbelieve s u, rfl, rfl, rfl⟩
        have hu1 : u < 2 ^ s1 0 := by rw [e0]; exact hu
        have esol : solN s1 0 3 127 = solN s 0 3 127 := hcy.lsol h7 127
        have edea : solN s1 4 4 127 = solN s 4 4 127 := hcy.lsol h7 127
        have hne : (solN s1 0 3 127).1 u ≠ 1000 := by rw [esol, eN]; exact hN
        have hm1 := coming_pos (s := s1) (nd := (solN s1 0 3 127).1) (bs := (solN s1 0 3 127).2) (y := u) (by omega) hu1 (by rw [esol, eN]; exact hNp)
        have hm2 := coming_le (s := s1) (nd := (solN s1 0 3 127).1) (bs := (solN s1 0 3 127).2) (y := u) hX3.2.2.2.1.1 (by rw [esol, eN]; exact hN127)
        obtain ⟨dv, edv⟩ : ∃ dv, qDeaf s1 u = dv := ⟨_, rfl⟩
        have hdq : dv ≠ 0 ∧ (dv = 4293967292 ∨ (N ≤ dv ∧ dv ≤ 127)) := by
          rw [← edv]
          unfold qDeaf
          rw [if_pos hu1, edea]
          split
          · exact ⟨by decide, Or.inl rfl⟩
          · omega
        dsimp only [Option.toList, List.cons_append, List.nil_append, List.append_nil]
        refine T.iload_n (pc' := 76) (q_d dL_hunts_1 2 rfl) rfl rfl rfl ?_
        refine T.callS (pc' := 79) (q_d dL_hunts_1 3 rfl) rfl uL_bits wM_L_24 (c_bits (x := u) (by omega)) rfl rfl (by decide) (Nat.le_of_ble_eq_true rfl) rfl rfl (fun _ => rfl) ?_
        rintro _ _ ⟨rfl, rfl⟩
        dsimp only [Option.toList, List.cons_append, List.nil_append, List.append_nil]
        refine T.icmp_neN (tgt := 120) (pc' := 82) (q_d dL_hunts_1 4 rfl) rfl (by decide) (by omega) (by omega) (fun h79 => ?_) (fun h79 => ?_)
        · exact absurd rfl h79
        · refine T.aload_n (pc' := 83) (q_d dL_hunts_1 5 rfl) rfl rfl rfl ?_
          refine T.iload_n (pc' := 84) (q_d dL_hunts_1 6 rfl) rfl rfl rfl ?_
          refine T.callV (pc' := 87) (ci := 5) (q_d dL_hunts_1 7 rfl) rfl uX5_memory wM_L_35 (c_mem hX3 hu1 hne) rfl rfl (by decide) rfl rfl (by decide) (Nat.le_of_ble_eq_true rfl) rfl rfl (fun _ => rfl) ?_
          rintro _ M4 ⟨rfl, pa4, sw4, hX4⟩
          replace hX4 : RX M4 b s1 (pushK k) (pushW k was s) n t pa4 sw4 := hX4
          dsimp only [Option.toList, List.cons_append, List.nil_append, List.append_nil]
          refine T.iconst (pc' := 88) (v := nI 1) (q_d dL_hunts_1 8 rfl) rfl (by decide) ?_
          refine T.icmp_ltN (tgt := 120) (pc' := 91) (q_d dL_hunts_1 9 rfl) rfl (by decide) (by omega) (by omega) (fun h88 => ?_) (fun h88 => ?_)
          · exact absurd h88 (by omega)
          · refine T.aload_n (pc' := 92) (q_d dL_hunts_1 10 rfl) rfl rfl rfl ?_
            refine T.iload_n (pc' := 93) (q_d dL_hunts_1 11 rfl) rfl rfl rfl ?_
            refine T.callV (pc' := 96) (ci := 5) (q_d dL_hunts_1 12 rfl) rfl uX5_deaf wM_L_20 ((c_deaf hX4 (u := u) (by omega)).mono (fun _ _ q => OX.to (r' := (dv, (s1, pushK k, pushW k was s, n, t))) (by rw [edv]) q)) rfl rfl (by decide) rfl rfl (by decide) (Nat.le_of_ble_eq_true rfl) rfl rfl (fun _ => rfl) ?_
            rintro _ M5 ⟨rfl, pa5, sw5, hX5⟩
            replace hX5 : RX M5 b s1 (pushK k) (pushW k was s) n t pa5 sw5 := hX5
            dsimp only [Option.toList, List.cons_append, List.nil_append, List.append_nil]
            refine T.if_eqN (tgt := 120) (pc' := 99) (q_d dL_hunts_1 13 rfl) rfl (by decide) (by omega) (fun h96 => ?_) (fun h96 => ?_)
            · exact absurd h96 (by omega)
            · refine T.aload_n (pc' := 100) (q_d dL_hunts_1 14 rfl) rfl rfl rfl ?_
              refine T.iload_n (pc' := 101) (q_d dL_hunts_1 15 rfl) rfl rfl rfl ?_
              refine T.callV (pc' := 104) (ci := 5) (q_d dL_hunts_1 16 rfl) rfl uX5_deaf wM_L_20 ((c_deaf hX5 (u := u) (by omega)).mono (fun _ _ q => OX.to (r' := (dv, (s1, pushK k, pushW k was s, n, t))) (by rw [edv]) q)) rfl rfl (by decide) rfl rfl (by decide) (Nat.le_of_ble_eq_true rfl) rfl rfl (fun _ => rfl) ?_
              rintro _ M6 ⟨rfl, pa6, sw6, hX6⟩
              replace hX6 : RX M6 b s1 (pushK k) (pushW k was s) n t pa6 sw6 := hX6
              dsimp only [Option.toList, List.cons_append, List.nil_append, List.append_nil]
              refine T.if_lt (tgt := 116) (pc' := 107) (q_d dL_hunts_1 17 rfl) rfl (by decide)  (fun h104 => ?_) (fun h104 => ?_)
              · refine T.iconst (pc' := 117) (v := nI 1) (q_d dL_hunts_1 23 rfl) rfl (by decide) ?_
                refine T.goto (tgt := 121) (q_d dL_hunts_1 24 rfl) (by decide) ?_
                refine T.istore (pc' := 123) (q_d dL_hunts_1 26 rfl) rfl (by decide) rfl rfl ?_
                refine T.iconst (pc' := 124) (v := nI 0) (q_d dL_hunts_1 27 rfl) rfl (by decide) ?_
                refine T.istore (pc' := 126) (q_d dL_hunts_1 28 rfl) rfl (by decide) rfl rfl ?_
                have hpl : p < s 0 := lt_bit hu hpb
                first
                | exact hunts_loop hb hz hN127 h7 N 0 p M7 s1 _ _ pa7 sw7 (Nat.zero_add _) hX7 hcy e2 hpl (by rw [e1]; exact hpb) (by rw [e1, eN]; exact Nat.le_refl _)
                | exact hunts_loop hb hz hN127 h7 N 0 p M6 s1 _ _ pa6 sw6 (Nat.zero_add _) hX6 hcy e2 hpl (by rw [e1]; exact hpb) (by rw [e1, eN]; exact Nat.le_refl _)
              · have hdp := sI_lt0 (show dv < 4294967296 by omega) h104
                refine T.aload_n (pc' := 108) (q_d dL_hunts_1 18 rfl) rfl rfl rfl ?_
                refine T.iload_n (pc' := 109) (q_d dL_hunts_1 19 rfl) rfl rfl rfl ?_
                refine T.callV (pc' := 112) (ci := 5) (q_d dL_hunts_1 20 rfl) rfl uX5_deaf wM_L_20 ((c_deaf hX6 (u := u) (by omega)).mono (fun _ _ q => OX.to (r' := (dv, (s1, pushK k, pushW k was s, n, t))) (by rw [edv]) q)) rfl rfl (by decide) rfl rfl (by decide) (Nat.le_of_ble_eq_true rfl) rfl rfl (fun _ => rfl) ?_
                rintro _ M7 ⟨rfl, pa7, sw7, hX7⟩
                replace hX7 : RX M7 b s1 (pushK k) (pushW k was s) n t pa7 sw7 := hX7
                dsimp only [Option.toList, List.cons_append, List.nil_append, List.append_nil]
                refine T.iload_n (pc' := 113) (q_d dL_hunts_1 21 rfl) rfl rfl rfl ?_
                refine T.icmp_ltN (tgt := 120) (pc' := 116) (q_d dL_hunts_1 22 rfl) rfl (by decide) (by omega) (by omega) (fun h113 => ?_) (fun h113 => ?_)
                · exact absurd h113 (by omega)
                · refine T.iconst (pc' := 117) (v := nI 1) (q_d dL_hunts_1 23 rfl) rfl (by decide) ?_
                  refine T.goto (tgt := 121) (q_d dL_hunts_1 24 rfl) (by decide) ?_
                  refine T.istore (pc' := 123) (q_d dL_hunts_1 26 rfl) rfl (by decide) rfl rfl ?_
                  refine T.iconst (pc' := 124) (v := nI 0) (q_d dL_hunts_1 27 rfl) rfl (by decide) ?_
                  refine T.istore (pc' := 126) (q_d dL_hunts_1 28 rfl) rfl (by decide) rfl rfl ?_
                  have hpl : p < s 0 := lt_bit hu hpb
                  first
                  | exact hunts_loop hb hz hN127 h7 N 0 p M7 s1 _ _ pa7 sw7 (Nat.zero_add _) hX7 hcy e2 hpl (by rw [e1]; exact hpb) (by rw [e1, eN]; exact Nat.le_refl _)
                  | exact hunts_loop hb hz hN127 h7 N 0 p M6 s1 _ _ pa6 sw6 (Nat.zero_add _) hX6 hcy e2 hpl (by rw [e1]; exact hpb) (by rw [e1, eN]; exact Nat.le_refl _)
      · exact absurd h8 (by omega)
end Hunts
