/-! the law's small methods, and the class's calls as the law takes them -/
section Small
variable {l : Launch} {M : qM} {b : Nat} {s : Nat → Nat} {k : Nat} {was : Nat → Nat → Nat} {n : Nat} {t pa : Nat → Nat} {sw : Bool}
theorem c_bits {x : Nat} (hx : x < 128) : Ct l hdX kX mL_bits [.int (nI x)] M (RI M (ones x)) := by
  refine Ct.of [some (.int (nI x)), none, none] (by decide +kernel) (fun h => absurd h (by decide)) (Nat.le_of_ble_eq_true rfl) rfl ?_
  have loop : ∀ d y m, d ≤ 7 → y < 2 ^ d → m + ones y = ones x → T l hdX kX mL_bits (RI M (ones x)) 0 0 4 [some (.int (nI x)), some (.int (nI m)), some (.int (nI y))] [] M := by
    intro d
    induction d with
    | zero =>
      intro y m hd hy hm
      have e : y = 0 := by omega
      subst e
      rw [ones_zero, Nat.add_zero] at hm
      refine T.iload_n (pc' := 5) (q_d dL_bits_0 4 rfl) rfl rfl rfl ?_
      refine T.if_leN (tgt := 21) (pc' := 8) (q_d dL_bits_0 5 rfl) rfl (by decide) (by decide) (fun h5 => ?_) (fun h5 => ?_)
      · refine T.iload_n (pc' := 22) (q_d dL_bits_0 17 rfl) rfl rfl rfl ?_
        refine T.iret (q_d dL_bits_0 18 rfl) rfl rfl rfl ?_
        exact ⟨rfl, by rw [hm]⟩
      · exact absurd h5 (by omega)
    | succ d ih =>
      intro y m hd hy hm
      have hy7 : y < 128 := Nat.lt_of_lt_of_le hy (Nat.pow_le_pow_right (by decide) hd)
      have hh := ones_half y hy7
      rw [Nat.pow_succ] at hy
      refine T.iload_n (pc' := 5) (q_d dL_bits_0 4 rfl) rfl rfl rfl ?_
      refine T.if_leN (tgt := 21) (pc' := 8) (q_d dL_bits_0 5 rfl) rfl (by decide) (by omega) (fun h5 => ?_) (fun h5 => ?_)
      · subst h5
        refine T.iload_n (pc' := 22) (q_d dL_bits_0 17 rfl) rfl rfl rfl ?_
        refine T.iret (q_d dL_bits_0 18 rfl) rfl rfl rfl ?_
        exact ⟨rfl, by rw [ones_zero, Nat.add_zero] at hm; rw [hm]⟩
      · refine T.iload_n (pc' := 9) (q_d dL_bits_0 6 rfl) rfl rfl rfl ?_
        refine T.iload_n (pc' := 10) (q_d dL_bits_0 7 rfl) rfl rfl rfl ?_
        refine T.iconst (pc' := 11) (v := nI 2) (q_d dL_bits_0 8 rfl) rfl (by decide) ?_
        refine T.irem (pc' := 12) (q_d dL_bits_0 9 rfl) rfl (by decide) (pk_rem (by omega) (by omega) (by omega)) ?_
        refine T.iadd (pc' := 13) (q_d dL_bits_0 10 rfl) rfl (nI_add _ _) ?_
        refine T.istore_n (pc' := 14) (q_d dL_bits_0 11 rfl) rfl rfl (by decide) rfl rfl ?_
        refine T.iload_n (pc' := 15) (q_d dL_bits_0 12 rfl) rfl rfl rfl ?_
        refine T.iconst (pc' := 16) (v := nI 2) (q_d dL_bits_0 13 rfl) rfl (by decide) ?_
        refine T.idiv (pc' := 17) (q_d dL_bits_0 14 rfl) rfl (by decide) (pk_div (by omega) (by omega) (by omega)) ?_
        refine T.istore_n (pc' := 18) (q_d dL_bits_0 15 rfl) rfl rfl (by decide) rfl rfl ?_
        refine T.goto (tgt := 4) (q_d dL_bits_0 16 rfl) (by decide) ?_
        exact ih (y / 2) (m + y % 2) (by omega) (by omega) (by omega)
  refine T.iconst (pc' := 1) (v := nI 0) (q_d dL_bits_0 0 rfl) rfl (by decide) ?_
  refine T.istore_n (pc' := 2) (q_d dL_bits_0 1 rfl) rfl rfl (by decide) rfl rfl ?_
  refine T.iload_n (pc' := 3) (q_d dL_bits_0 2 rfl) rfl rfl rfl ?_
  refine T.istore_n (pc' := 4) (q_d dL_bits_0 3 rfl) rfl rfl (by decide) rfl rfl ?_
  exact loop 7 x 0 (by decide) (by omega) (Nat.zero_add _)
theorem c_nth {u m : Nat} (hu : u < 128) (hm : m < ones u) : Ct l hdX kX mL_nth [.int (nI u), .int (nI m)] M (fun v M' => M = M' ∧ ∃ p, v = some (.int (nI p)) ∧ p < 7 ∧ u.testBit p = true) := by
  refine Ct.of [some (.int (nI u)), some (.int (nI m)), none, none] (by decide +kernel) (fun h => absurd h (by decide)) (Nat.le_of_ble_eq_true rfl) rfl ?_
  have ho := ones_le u
  have loop : ∀ d p y, p + d = 7 → y + sumTo (fun k => u >>> k &&& 1) p = m → T l hdX kX mL_nth (fun v M' => M = M' ∧ ∃ p, v = some (.int (nI p)) ∧ p < 7 ∧ u.testBit p = true) 0 0 4 [some (.int (nI u)), some (.int (nI m)), some (.int (nI y)), some (.int (nI p))] [] M := by
    intro d
    induction d with
    | zero =>
      intro p y hp hy
      have e : p = 7 := by omega
      subst e
      have : sumTo (fun k => u >>> k &&& 1) 7 = ones u := rfl
      exact absurd hm (by omega)
    | succ d ih =>
      intro p y hp hy
      have hn : sumTo (fun k => u >>> k &&& 1) (p + 1) = sumTo (fun k => u >>> k &&& 1) p + (u >>> p &&& 1) := rfl
      have g1 := and1_01 (u >>> p)
      refine T.iload_n (pc' := 5) (q_d dL_nth_0 4 rfl) rfl rfl rfl ?_
      refine T.bipush (pc' := 7) (v := nI 7) (q_d dL_nth_0 5 rfl) rfl (by decide) ?_
      refine T.icmp_geN (tgt := 34) (pc' := 10) (q_d dL_nth_0 6 rfl) rfl (by decide) (by omega) (by omega) (fun h7 => ?_) (fun h7 => ?_)
      · exact absurd h7 (by omega)
      · refine T.iload_n (pc' := 11) (q_d dL_nth_0 7 rfl) rfl rfl rfl ?_
        refine T.iload_n (pc' := 12) (q_d dL_nth_0 8 rfl) rfl rfl rfl ?_
        refine T.ishr (pc' := 13) (q_d dL_nth_0 9 rfl) rfl (nN_shr (by omega) (by omega)) ?_
        refine T.iconst (pc' := 14) (v := nI 1) (q_d dL_nth_0 10 rfl) rfl (by decide) ?_
        refine T.iand (pc' := 15) (q_d dL_nth_0 11 rfl) rfl (nN_and _ _) ?_
        refine T.iconst (pc' := 16) (v := nI 1) (q_d dL_nth_0 12 rfl) rfl (by decide) ?_
        refine T.icmp_neN (tgt := 28) (pc' := 19) (q_d dL_nth_0 13 rfl) rfl (by decide) (by omega) (by omega) (fun h16 => ?_) (fun h16 => ?_)
        · refine T.iinc (pc' := 31) (q_d dL_nth_0 19 rfl) rfl rfl (nN_p _ 1) (by decide) rfl rfl ?_
          refine T.goto (tgt := 4) (q_d dL_nth_0 20 rfl) (by decide) ?_
          first
          | exact ih (p + 1) y (by omega) (by rw [hn]; omega)
          | exact ih (p + 1) (y - 1) (by omega) (by rw [hn]; omega)
        · refine T.iload_n (pc' := 20) (q_d dL_nth_0 14 rfl) rfl rfl rfl ?_
          refine T.if_neN (tgt := 25) (pc' := 23) (q_d dL_nth_0 15 rfl) rfl (by decide) (by omega) (fun h20 => ?_) (fun h20 => ?_)
          · refine T.iinc (pc' := 28) (q_d dL_nth_0 18 rfl) rfl rfl (nN_m1 (by omega)) (by decide) rfl rfl ?_
            refine T.iinc (pc' := 31) (q_d dL_nth_0 19 rfl) rfl rfl (nN_p _ 1) (by decide) rfl rfl ?_
            refine T.goto (tgt := 4) (q_d dL_nth_0 20 rfl) (by decide) ?_
            first
            | exact ih (p + 1) y (by omega) (by rw [hn]; omega)
            | exact ih (p + 1) (y - 1) (by omega) (by rw [hn]; omega)
          · refine T.iload_n (pc' := 24) (q_d dL_nth_0 16 rfl) rfl rfl rfl ?_
            refine T.iret (q_d dL_nth_0 17 rfl) rfl rfl rfl ?_
            exact ⟨rfl, p, rfl, by omega, (bit_iff u p).mp h16⟩
  refine T.iload_n (pc' := 1) (q_d dL_nth_0 0 rfl) rfl rfl rfl ?_
  refine T.istore_n (pc' := 2) (q_d dL_nth_0 1 rfl) rfl rfl (by decide) rfl rfl ?_
  refine T.iconst (pc' := 3) (v := nI 0) (q_d dL_nth_0 2 rfl) rfl (by decide) ?_
  refine T.istore_n (pc' := 4) (q_d dL_nth_0 3 rfl) rfl rfl (by decide) rfl rfl ?_
  exact loop 7 0 m (by decide) (Nat.add_zero _)
theorem OX.to {r r' : Nat × St} {v : Option Value} {M' : qM} (h : r = r') (q : OX b r v M') : OX b r' v M' := h ▸ q
theorem c_behG (hX : RX M b s k was n t pa sw) {u v w : Nat} (hu : u < 2 ^ s 0) (hv : v < 2 ^ s 0) (hw : w ≤ 3) : Ct l hdX kX mX5_behind [.ref 0, .int (nI u), .int (nI v), .int (nI w)] M (OX b (thn s u v w, (s, k, was, n, t))) := by
  have w0 := p2_le hX.2.2.2.1.1
  refine (c_behind hX (u := u) (v := v) (w := w) (by omega) (by omega) (by omega)).mono (fun x M' q => OX.to ?_ q)
  unfold qBehind
  rw [if_pos ⟨⟨hu, hv⟩, Or.inr hw⟩, if_neg (by omega)]
theorem c_behA (hX : RX M b s k was n t pa sw) {u v : Nat} (hu : u < 2 ^ s 0) (hv : v < 2 ^ s 0) : Ct l hdX kX mX5_behind [.ref 0, .int (nI u), .int (nI v), .int (nI 4294967295)] M (OX b (thn s u v 4, (s, k, was, n, t))) := by
  have w0 := p2_le hX.2.2.2.1.1
  refine (c_behind hX (u := u) (v := v) (w := 4294967295) (by omega) (by omega) (by omega)).mono (fun x M' q => OX.to ?_ q)
  unfold qBehind
  rw [if_pos ⟨⟨hu, hv⟩, Or.inl rfl⟩, if_pos rfl]
theorem c_sure0 (hX : RX M b s k was n t pa sw) {u x : Nat} (hu : u < 2 ^ s 0) (h : (solN s 0 3 127).1 u = x) (hx : x ≠ 1000) : Ct l hdX kX mX5_sure [.ref 0, .int (nI u), .int (nI 0)] M (OX b (x, (s, k, was, n, t))) := by
  have w0 := p2_le hX.2.2.2.1.1
  refine (c_sure hX (u := u) (v := 0) (by omega) (by omega)).mono (fun x M' q => OX.to ?_ q)
  unfold qSure
  rw [if_pos ⟨hu, by decide⟩, if_neg (by omega), if_pos rfl, h]
theorem c_sureN (hX : RX M b s k was n t pa sw) {u : Nat} (hu : u < 2 ^ s 0) (h : (solN s 0 3 127).1 u = 1000) : Ct l hdX kX mX5_sure [.ref 0, .int (nI u), .int (nI 0)] M (OX b (4293967292, (s, k, was, n, t))) := by
  have w0 := p2_le hX.2.2.2.1.1
  refine (c_sure hX (u := u) (v := 0) (by omega) (by omega)).mono (fun x M' q => OX.to ?_ q)
  unfold qSure
  rw [if_pos ⟨hu, by decide⟩, if_pos h]
theorem c_sure1 (hX : RX M b s k was n t pa sw) {u x : Nat} (hu : u < 2 ^ s 0) (h : (solN s 0 3 127).1 u ≠ 1000) (hx : (solN s 0 3 127).2 u = x) : Ct l hdX kX mX5_sure [.ref 0, .int (nI u), .int (nI 1)] M (OX b (x, (s, k, was, n, t))) := by
  have w0 := p2_le hX.2.2.2.1.1
  refine (c_sure hX (u := u) (v := 1) (by omega) (by omega)).mono (fun x M' q => OX.to ?_ q)
  unfold qSure
  rw [if_pos ⟨hu, by decide⟩, if_neg h, if_neg (by decide), hx]
theorem c_deafN (hX : RX M b s k was n t pa sw) {u : Nat} (hu : u < 2 ^ s 0) (h : (solN s 4 4 127).1 u = 1000) : Ct l hdX kX mX5_deaf [.ref 0, .int (nI u)] M (OX b (4293967292, (s, k, was, n, t))) := by
  have w0 := p2_le hX.2.2.2.1.1
  refine (c_deaf hX (u := u) (by omega)).mono (fun x M' q => OX.to ?_ q)
  unfold qDeaf
  rw [if_pos hu, if_pos h]
theorem c_deafY (hX : RX M b s k was n t pa sw) {u x : Nat} (hu : u < 2 ^ s 0) (h : (solN s 4 4 127).1 u = x) (hx : x ≠ 1000) : Ct l hdX kX mX5_deaf [.ref 0, .int (nI u)] M (OX b (x, (s, k, was, n, t))) := by
  have w0 := p2_le hX.2.2.2.1.1
  refine (c_deaf hX (u := u) (by omega)).mono (fun x M' q => OX.to ?_ q)
  unfold qDeaf
  rw [if_pos hu, if_neg (by omega), h]
theorem c_mem (hX : RX M b s k was n t pa sw) {u : Nat} (hu : u < 2 ^ s 0) (h : (solN s 0 3 127).1 u ≠ 1000) : Ct l hdX kX mX5_memory [.ref 0, .int (nI u)] M (OX b (comingN s (solN s 0 3 127).1 (solN s 0 3 127).2 u, (s, k, was, n, t))) := by
  have w0 := p2_le hX.2.2.2.1.1
  refine (c_memory hX (u := u) (by omega)).mono (fun x M' q => OX.to ?_ q)
  unfold qMemory
  rw [if_pos hu, if_neg h]
theorem c_bel (hX : RX M b s k was n t pa sw) {u : Nat} (hu : u < 2 ^ s 0) : Ct l hdX kX mX5_believe [.ref 0, .int (nI u)] M (OX b (ones u, act s k was n t (sBelieve s u))) := by
  have w0 := p2_le hX.2.2.2.1.1
  refine (c_believe hX (u := u) (by omega)).mono (fun x M' q => OX.to ?_ q)
  unfold oBelieve
  rw [if_pos hu]
theorem c_chk (hX : RX M b s k was n t pa sw) {u v : Nat} (hu : u < 2 ^ s 0) (hv : v ≤ 3) (ho : ones u ≤ s 6) (hc : canR s u v) : Ct l hdX kX mX5_check [.ref 0, .int (nI u), .int (nI v)] M (OX (b + 1) (ones (thn s (s 1) u v), act s k was n t (sRound s u v))) := by
  have w0 := p2_le hX.2.2.2.1.1
  refine (c_check hX (u := u) (v := v) (by omega) (by omega)).mono (fun x M' q => OX.to ?_ q)
  unfold oCheck
  rw [if_pos ⟨hu, hv, ho⟩, if_pos hc]
theorem c_cnt (hX : RX M b s k was n t pa sw) (hb : b < 2 ^ 30) {u x : Nat} (hu : u ≤ 22) (h : qCount s k n u = x) : Ct l hdX kX mX5_count [.ref 0, .int (nI u)] M (OX b (x, (s, k, was, n, t))) :=
  (c_count hX hb (u := u) (by omega)).mono (fun _ M' q => OX.to (by rw [h]) q)
theorem c_pla (hX : RX M b s k was n t pa sw) {u v x : Nat} (hu : u < 7) (hv : v ≤ 3) (h : qPlaceOf s u v = x) : Ct l hdX kX mX5_placeOf [.ref 0, .int (nI u), .int (nI v)] M (OX b (x, (s, k, was, n, t))) :=
  (c_placeOf hX (u := u) (v := v) (by omega) (by omega)).mono (fun _ M' q => OX.to (by rw [h]) q)
theorem c_blf (hX : RX M b s k was n t pa sw) {u x : Nat} (hu : u ≤ 4) (h : qBeliefs s u = x) : Ct l hdX kX mX5_beliefs [.ref 0, .int (nI u)] M (OX b (x, (s, k, was, n, t))) :=
  (c_beliefs hX (u := u) (by omega)).mono (fun _ M' q => OX.to (by rw [h]) q)
/-- the signal that is heard of a move -/
theorem c_signal (hX : RX M b s k was n t pa sw) {f g c : Nat} (hf : f < s 0) (hg : g < s 0) (hc : c < 2 ^ s 0) (hgo : (goes s f (dif c (1 <<< f))).testBit g = true) : Ct l hdX kX mL_signal [.ref 0, .int (nI f), .int (nI g), .int (nI c)] M (OX b (hears s f g, (s, k, was, n, t))) := by
  refine Ct.of [some (.ref 0), some (.int (nI f)), some (.int (nI g)), some (.int (nI c)), none] (by decide +kernel) (fun h => absurd h (by decide)) (Nat.le_of_ble_eq_true rfl) rfl ?_
  have hw := hX.2.2.2.1
  have h7 := hw.1
  have w0 := p2_le h7
  have hh := hears_lt hw (p := f) (q := g) (by omega)
  have hf2 : 1 <<< f < 2 ^ s 0 := by rw [Nat.one_shiftLeft]; exact Nat.pow_lt_pow_right (by decide) hf
  have hd2 : dif c (1 <<< f) < 2 ^ s 0 := dif_lt hc
  have hbit : ∀ w, w ≤ 3 → (thn s (1 <<< f) (dif c (1 <<< f)) w >>> g &&& 1 = 1 ↔ hears s f g = w) := by
    intro w hw3
    rw [bit_iff, thn_bit h7]
    constructor
    · rintro ⟨-, p, -, h2, -, -, h5⟩
      rw [one_bit.mp h2] at h5
      exact h5.resolve_left (by omega)
    · intro h
      refine ⟨hg, f, hf, one_bit.mpr rfl, ?_, hgo, Or.inr h⟩
      cases e : (dif c (1 <<< f)).testBit f with
      | false => rfl
      | true =>
        have := ((dif_bit (by omega)).mp e).2
        rw [one_bit.mpr rfl] at this
        exact absurd this (by decide)
  have loop : ∀ d w (M1 : qM) (pa1 : Nat → Nat) (sw1 : Bool), w + d = hears s f g → RX M1 b s k was n t pa1 sw1 → T l hdX kX mL_signal (OX b (hears s f g, (s, k, was, n, t))) 0 0 3 [some (.ref 0), some (.int (nI f)), some (.int (nI g)), some (.int (nI c)), some (.int (nI w))] [] M1 := by
    intro d
    induction d with
    | zero =>
      intro w M1 pa1 sw1 hwd hX1
      have e : w = hears s f g := by omega
      have ht := thn_lt (s := s) (b := 1 <<< f) (c := dif c (1 <<< f)) (g := w) h7
      have hb1 := (hbit w (by omega)).mpr e.symm
      refine T.iload (pc' := 5) (q_d dL_signal_0 2 rfl) rfl rfl ?_
      refine T.iconst (pc' := 6) (v := nI 4) (q_d dL_signal_0 3 rfl) rfl (by decide) ?_
      refine T.icmp_geN (tgt := 42) (pc' := 9) (q_d dL_signal_0 4 rfl) rfl (by decide) (by omega) (by omega) (fun h6 => ?_) (fun h6 => ?_)
      · exact absurd h6 (by omega)
      · refine T.aload_n (pc' := 10) (q_d dL_signal_0 5 rfl) rfl rfl rfl ?_
        refine T.iconst (pc' := 11) (v := nI 1) (q_d dL_signal_0 6 rfl) rfl (by decide) ?_
        refine T.iload_n (pc' := 12) (q_d dL_signal_0 7 rfl) rfl rfl rfl ?_
        refine T.ishl (pc' := 13) (q_d dL_signal_0 8 rfl) rfl (nN_shl _ (by omega)) ?_
        refine T.iload_n (pc' := 14) (q_d dL_signal_0 9 rfl) rfl rfl rfl ?_
        refine T.iconst (pc' := 15) (v := nI 1) (q_d dL_signal_0 10 rfl) rfl (by decide) ?_
        refine T.iload_n (pc' := 16) (q_d dL_signal_0 11 rfl) rfl rfl rfl ?_
        refine T.ishl (pc' := 17) (q_d dL_signal_0 12 rfl) rfl (nN_shl _ (by omega)) ?_
        refine T.iconst (pc' := 18) (v := nI 4294967295) (q_d dL_signal_0 13 rfl) rfl (by decide) ?_
        refine T.ixor (pc' := 19) (q_d dL_signal_0 14 rfl) rfl (nN_xor _ _) ?_
        refine T.iand (pc' := 20) (q_d dL_signal_0 15 rfl) rfl (nN_and _ _) ?_
        refine T.iload (pc' := 22) (q_d dL_signal_0 16 rfl) rfl rfl ?_
        refine T.callV (pc' := 25) (ci := 5) (q_d dL_signal_0 17 rfl) rfl uX5_behind wM_L_9 (c_behG hX1 hf2 hd2 (show w ≤ 3 by omega)) rfl rfl (by decide) rfl rfl (by decide) (Nat.le_of_ble_eq_true rfl) rfl rfl (fun _ => rfl) ?_
        rintro _ M2 ⟨rfl, pa2, sw2, hX2⟩
        dsimp only [Option.toList, List.cons_append, List.nil_append, List.append_nil]
        refine T.iload_n (pc' := 26) (q_d dL_signal_0 18 rfl) rfl rfl rfl ?_
        refine T.ishr (pc' := 27) (q_d dL_signal_0 19 rfl) rfl (nN_shr (by omega) (by omega)) ?_
        refine T.iconst (pc' := 28) (v := nI 1) (q_d dL_signal_0 20 rfl) rfl (by decide) ?_
        refine T.iand (pc' := 29) (q_d dL_signal_0 21 rfl) rfl (nN_and _ _) ?_
        refine T.iconst (pc' := 30) (v := nI 1) (q_d dL_signal_0 22 rfl) rfl (by decide) ?_
        refine T.icmp_neN (tgt := 36) (pc' := 33) (q_d dL_signal_0 23 rfl) rfl (by decide) (by omega) (by omega) (fun h30 => ?_) (fun h30 => ?_)
        · exact absurd hb1 h30
        · refine T.iload (pc' := 35) (q_d dL_signal_0 24 rfl) rfl rfl ?_
          refine T.iret (q_d dL_signal_0 25 rfl) rfl rfl rfl ?_
          exact ⟨by rw [e], pa2, sw2, hX2⟩
    | succ d ih =>
      intro w M1 pa1 sw1 hwd hX1
      have ht := thn_lt (s := s) (b := 1 <<< f) (c := dif c (1 <<< f)) (g := w) h7
      have hb1 : ¬ (thn s (1 <<< f) (dif c (1 <<< f)) w >>> g &&& 1 = 1) := fun q => by have := (hbit w (by omega)).mp q; omega
      have g1 := and1_01 (thn s (1 <<< f) (dif c (1 <<< f)) w >>> g)
      refine T.iload (pc' := 5) (q_d dL_signal_0 2 rfl) rfl rfl ?_
      refine T.iconst (pc' := 6) (v := nI 4) (q_d dL_signal_0 3 rfl) rfl (by decide) ?_
      refine T.icmp_geN (tgt := 42) (pc' := 9) (q_d dL_signal_0 4 rfl) rfl (by decide) (by omega) (by omega) (fun h6 => ?_) (fun h6 => ?_)
      · exact absurd h6 (by omega)
      · refine T.aload_n (pc' := 10) (q_d dL_signal_0 5 rfl) rfl rfl rfl ?_
        refine T.iconst (pc' := 11) (v := nI 1) (q_d dL_signal_0 6 rfl) rfl (by decide) ?_
        refine T.iload_n (pc' := 12) (q_d dL_signal_0 7 rfl) rfl rfl rfl ?_
        refine T.ishl (pc' := 13) (q_d dL_signal_0 8 rfl) rfl (nN_shl _ (by omega)) ?_
        refine T.iload_n (pc' := 14) (q_d dL_signal_0 9 rfl) rfl rfl rfl ?_
        refine T.iconst (pc' := 15) (v := nI 1) (q_d dL_signal_0 10 rfl) rfl (by decide) ?_
        refine T.iload_n (pc' := 16) (q_d dL_signal_0 11 rfl) rfl rfl rfl ?_
        refine T.ishl (pc' := 17) (q_d dL_signal_0 12 rfl) rfl (nN_shl _ (by omega)) ?_
        refine T.iconst (pc' := 18) (v := nI 4294967295) (q_d dL_signal_0 13 rfl) rfl (by decide) ?_
        refine T.ixor (pc' := 19) (q_d dL_signal_0 14 rfl) rfl (nN_xor _ _) ?_
        refine T.iand (pc' := 20) (q_d dL_signal_0 15 rfl) rfl (nN_and _ _) ?_
        refine T.iload (pc' := 22) (q_d dL_signal_0 16 rfl) rfl rfl ?_
        refine T.callV (pc' := 25) (ci := 5) (q_d dL_signal_0 17 rfl) rfl uX5_behind wM_L_9 (c_behG hX1 hf2 hd2 (show w ≤ 3 by omega)) rfl rfl (by decide) rfl rfl (by decide) (Nat.le_of_ble_eq_true rfl) rfl rfl (fun _ => rfl) ?_
        rintro _ M2 ⟨rfl, pa2, sw2, hX2⟩
        dsimp only [Option.toList, List.cons_append, List.nil_append, List.append_nil]
        refine T.iload_n (pc' := 26) (q_d dL_signal_0 18 rfl) rfl rfl rfl ?_
        refine T.ishr (pc' := 27) (q_d dL_signal_0 19 rfl) rfl (nN_shr (by omega) (by omega)) ?_
        refine T.iconst (pc' := 28) (v := nI 1) (q_d dL_signal_0 20 rfl) rfl (by decide) ?_
        refine T.iand (pc' := 29) (q_d dL_signal_0 21 rfl) rfl (nN_and _ _) ?_
        refine T.iconst (pc' := 30) (v := nI 1) (q_d dL_signal_0 22 rfl) rfl (by decide) ?_
        refine T.icmp_neN (tgt := 36) (pc' := 33) (q_d dL_signal_0 23 rfl) rfl (by decide) (by omega) (by omega) (fun h30 => ?_) (fun h30 => ?_)
        · refine T.iinc (pc' := 39) (q_d dL_signal_0 26 rfl) rfl rfl (nN_p _ 1) (by decide) rfl rfl ?_
          refine T.goto (tgt := 3) (q_d dL_signal_0 27 rfl) (by decide) ?_
          exact ih (w + 1) M2 pa2 sw2 (by omega) hX2
        · exact absurd h30 hb1
  refine T.iconst (pc' := 1) (v := nI 0) (q_d dL_signal_0 0 rfl) rfl (by decide) ?_
  refine T.istore (pc' := 3) (q_d dL_signal_0 1 rfl) rfl (by decide) rfl rfl ?_
  exact loop (hears s f g) 0 M pa sw (Nat.zero_add _) hX
end Small
