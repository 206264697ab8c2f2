/-! the reference: ways -/
theorem lI_wrap {z : Int} (h1 : MAXL < z) (h2 : z ≤ 2 * MAXL) : (lI z).toInt < 0 := by
  unfold lI MAXL at *
  rw [Int64.toInt_ofInt]
  have e : ((Int64.size : Nat) : Int) = 18446744073709551616 := rfl
  unfold Int.bmod
  rw [e]
  simp only []
  split <;> omega
theorem lt0 {z : Int} (h : inL z) : lg_cmp (lI z) (lI 0) < 0 ↔ z = -1 := by
  rw [lg_cmp_lt, Int64.lt_iff_toInt_lt, lI_toInt (by have := h.1; omega) h.2, lI_toInt (by decide) (by decide)]
  have := h.1
  omega
theorem ge0 {z : Int} (h : inL z) : 0 ≤ lg_cmp (lI z) (lI 0) ↔ z ≠ -1 := by
  rw [lg_cmp_ge, Int64.le_iff_toInt_le, lI_toInt (by have := h.1; omega) h.2, lI_toInt (by decide) (by decide)]
  have := h.1
  omega
theorem ge0s {a x : Int} (ha : inL a) (hx : inL x) (h1 : a ≠ -1) (h2 : x ≠ -1) : 0 ≤ lg_cmp (lI (a + x)) (lI 0) ↔ ¬ MAXL - x < a := by
  rw [lg_cmp_ge, Int64.le_iff_toInt_le, lI_toInt (z := 0) (by decide) (by decide)]
  unfold inL at *
  by_cases q : MAXL - x < a
  · have := lI_wrap (z := a + x) (by omega) (by omega)
    omega
  · rw [lI_toInt (by omega) (by unfold MAXL at *; omega)]
    omega
theorem i2l01 {a : Nat} (h : a < 2) : (nI a).toInt64 = lI (a : Int) := by
  rcases (by omega : a = 0 ∨ a = 1) with rfl | rfl <;> decide
theorem wkT_w {s : Nat → Nat} {w : Nat} {old : Nat → Int} : ∀ p, wkT s w old w p = 0
  | 0 => rfl
  | p + 1 => by rw [wkT, if_neg (fun q => q.2 rfl), wkT_w p]
def sumI (f : Nat → Int) : Nat → Int
  | 0 => 0
  | k + 1 => sumI f k + f k
theorem wkT_b {s : Nat → Nat} {w t : Nat} {old : Nat → Int} {B : Int} (hB : 0 ≤ B) (hB7 : 7 * B ≤ MAXL) (ho : ∀ q, 0 ≤ old q ∧ old q ≤ B) : ∀ p, p ≤ 7 → 0 ≤ wkT s w old t p ∧ wkT s w old t p ≤ p * B
  | 0, _ => by unfold wkT; omega
  | p + 1, hp => by
    have h := wkT_b (s := s) (w := w) (t := t) hB hB7 ho p (by omega)
    have h2 := ho p
    have h3 : (p : Int) * B ≤ 6 * B := Int.mul_le_mul_of_nonneg_right (by omega) hB
    have h4 : ((p + 1 : Nat) : Int) * B = p * B + B := by rw [Int.natCast_add, Int.add_mul]; simp
    rw [h4]
    unfold wkT
    split
    · unfold sumS
      rw [if_neg (by omega)]
      omega
    · omega
theorem wkN_b {s : Nat → Nat} {w : Nat} (h7 : s 0 ≤ 7) : ∀ k, k ≤ 16 → ∀ q, 0 ≤ wkN s w k q ∧ wkN s w k q ≤ 7 ^ k
  | 0, _, q => by unfold wkN; split <;> decide
  | k + 1, hk, q => by
    have h := wkN_b (w := w) h7 k (by omega)
    have hB : (0 : Int) ≤ 7 ^ k := Int.pow_nonneg (by decide)
    have hle : (7 : Int) ^ k ≤ 7 ^ 15 := by
      have := Nat.pow_le_pow_right (show 0 < 7 by decide) (show k ≤ 15 by omega)
      exact_mod_cast this
    have h15 : (7 : Int) * 7 ^ 15 ≤ MAXL := by decide
    have h2 := wkT_b (s := s) (w := w) (t := q) hB (by omega) h (s 0) h7
    have h3 : (s 0 : Int) * 7 ^ k ≤ 7 * 7 ^ k := Int.mul_le_mul_of_nonneg_right (by omega) hB
    rw [Int.pow_succ]
    show 0 ≤ wkT s w (wkN s w k) q (s 0) ∧ wkT s w (wkN s w k) q (s 0) ≤ _
    omega
theorem wkN_out {b : Nat} {s : Nat → Nat} (hw : WF b s) {w q : Nat} (hq : s 0 ≤ q) : ∀ k, wkN s w k q = 0
  | 0 => by
    have hb : s 1 >>> q &&& 1 ≠ 1 := fun h => absurd (lt_bit hw.2.1 ((bit_iff _ _).mp h)) (by omega)
    unfold wkN
    rw [if_neg (fun z => hb z.1)]
  | k + 1 => by
    have h : ∀ p, p ≤ s 0 → wkT s w (wkN s w k) q p = 0 := by
      intro p
      induction p with
      | zero => intro _; rfl
      | succ p ih =>
        intro hp
        have hb : goes s p 0 >>> q &&& 1 ≠ 1 := fun h => absurd (lt_bit (goes_lt hw (p := p) (c := 0) (by omega)) ((bit_iff _ _).mp h)) (by omega)
        rw [wkT, if_neg (fun z => hb z.1)]
        exact ih (by omega)
    exact h (s 0) (Nat.le_refl _)
theorem totS_sum {f : Nat → Int} {B : Int} (hB : 0 ≤ B) (hB7 : 7 * B ≤ MAXL) (ho : ∀ q, 0 ≤ f q ∧ f q ≤ B) : ∀ n, n ≤ 7 → totS f n = sumI f n ∧ 0 ≤ sumI f n ∧ sumI f n ≤ n * B
  | 0, _ => by unfold totS sumI; omega
  | n + 1, hn => by
    have h := totS_sum hB hB7 ho n (by omega)
    have h2 := ho n
    have h3 : (n : Int) * B ≤ 6 * B := Int.mul_le_mul_of_nonneg_right (by omega) hB
    have h4 : ((n + 1 : Nat) : Int) * B = n * B + B := by rw [Int.natCast_add, Int.add_mul]; simp
    rw [h4, totS, sumI, h.1]
    unfold sumS
    rw [if_neg (by omega)]
    omega
theorem sumI_out {f : Nat → Int} {n : Nat} (h : ∀ q, n ≤ q → f q = 0) : ∀ m, n ≤ m → sumI f m = sumI f n
  | 0, hm => by rw [show n = 0 by omega]
  | m + 1, hm => by
    by_cases e : n = m + 1
    · rw [e]
    · rw [sumI, h m (by omega), sumI_out h m (by omega), Int.add_zero]
theorem tot_all {b : Nat} {s : Nat → Nat} (hw : WF b s) {w k : Nat} (hk : k ≤ 15) : totS (wkN s w k) (s 0) = sumI (wkN s w k) 7 := by
  have hb := wkN_b (s := s) (w := w) hw.1 k (by omega)
  have hB : (0 : Int) ≤ 7 ^ k := Int.pow_nonneg (by decide)
  have hle : (7 : Int) ^ k ≤ 7 ^ 15 := by
    have := Nat.pow_le_pow_right (show 0 < 7 by decide) hk
    exact_mod_cast this
  have h15 : (7 : Int) * 7 ^ 15 ≤ MAXL := by decide
  rw [(totS_sum hB (by omega) hb (s 0) hw.1).1]
  exact (sumI_out (fun q hq => wkN_out hw hq k) 7 hw.1).symm
theorem sumS_0 {a : Int} (h : inL a) : sumS a 0 = a := by
  unfold sumS inL MAXL at *
  split <;> omega
section CM8
variable {l : Launch} {M M' : qM} {b b' : Nat} {s s' : Nat → Nat} {k : Nat} {was : Nat → Nat → Nat} {n : Nat} {t : Nat → Nat}
theorem RM.lg {M' : qM} (q : RM M b s k was n t) (h1 : M'.1 = M.1) (h2 : M'.2.2 = M.2.2) : RM M' b s k was n t :=
  q.sc ⟨h2, by rw [h1], by rw [h1], by rw [h1], by rw [h1], by rw [h1]⟩
theorem m_counts (hX : RM M b s k was n t) {kk w : Nat} (hw9 : w < 4294967296) (hk : kk ≤ 40) : Ct l hdM kM mX6_counts [.ref 0, .int (nI kk), .int (nI w)] M (fun v M' => v = none ∧ M'.1 = M.1 ∧ M'.2.2 = M.2.2 ∧ ∀ q, q < 7 → M'.2.1 9 q = wkN s w kk q) := by
  refine Ct.of [some (.ref 0), some (.int (nI kk)), some (.int (nI w)), none, none, none, none, none] (by decide +kernel) (fun h => absurd h (by decide)) (Nat.le_of_ble_eq_true rfl) rfl ?_
  have w7 := hX.2.2.1.1
  have w0 := p2_le w7
  have w1 := hX.2.2.1.2.1
  have loopR : ∀ d r (M' : qM), r + d = kk → M'.1 = M.1 → M'.2.2 = M.2.2 → (∀ q, q < 7 → M'.2.1 9 q = wkN s w r q) →
      T l hdM kM mX6_counts (fun v M' => v = none ∧ M'.1 = M.1 ∧ M'.2.2 = M.2.2 ∧ ∀ q, q < 7 → M'.2.1 9 q = wkN s w kk q) 0 0 52 [some (.ref 0), some (.int (nI kk)), some (.int (nI w)), some (.int (nI r)), none, none, none, none] [] M' := by
    intro d
    induction d with
    | zero =>
      intro r M' hr h1 h2 hq
      have e : r = kk := by omega
      subst e
      refine T.iload_n (pc' := 53) (q_d dX6_counts_0 33 rfl) rfl rfl rfl ?_
      refine T.iload_n (pc' := 54) (q_d dX6_counts_0 34 rfl) rfl rfl rfl ?_
      refine T.icmp_geN (tgt := 246) (pc' := 57) (q_d dX6_counts_0 35 rfl) rfl (by decide) (by omega) (by omega) (fun h54 => ?_) (fun h54 => ?_)
      · refine T.vret (q_d dX6_counts_3 15 rfl) rfl rfl rfl ?_
        exact ⟨rfl, h1, h2, hq⟩
      · exact absurd h54 (by omega)
    | succ d ih =>
      intro r M' hr h1 h2 hq
      have loopC : ∀ e i (M2 : qM), i + e = 7 → M2.1 = M.1 → M2.2.2 = M.2.2 → (∀ q, q < 7 → M2.2.1 10 q = wkN s w (r + 1) q) → (∀ q, q < i → M2.2.1 9 q = wkN s w (r + 1) q) →
          T l hdM kM mX6_counts (fun v M' => v = none ∧ M'.1 = M.1 ∧ M'.2.2 = M.2.2 ∧ ∀ q, q < 7 → M'.2.1 9 q = wkN s w kk q) 0 0 213 [some (.ref 0), some (.int (nI kk)), some (.int (nI w)), some (.int (nI r)), some (.int (nI i)), none, none, none] [] M2 := by
        intro e
        induction e with
        | zero =>
          intro i M2 hi j1 j2 jm jq
          refine T.iload (pc' := 215) (q_d dX6_counts_3 0 rfl) rfl rfl ?_
          refine T.bipush (pc' := 217) (v := nI 7) (q_d dX6_counts_3 1 rfl) rfl (by decide) ?_
          refine T.icmp_geN (tgt := 240) (pc' := 220) (q_d dX6_counts_3 2 rfl) rfl (by decide) (by omega) (by omega) (fun h217 => ?_) (fun h217 => ?_)
          · refine T.iinc (pc' := 243) (q_d dX6_counts_3 13 rfl) rfl rfl (nN_p _ 1) (by decide) rfl rfl ?_
            refine T.goto (tgt := 52) (q_d dX6_counts_3 14 rfl) (by decide) ?_
            refine T.drop (loc' := [some (.ref 0), some (.int (nI kk)), some (.int (nI w)), some (.int (nI (r + 1))), none, none, none, none]) ⟨rfl, rfl, rfl, rfl, trivial⟩ ?_
            exact ih (r + 1) M2 (by omega) j1 j2 (fun q hq9 => jq q (by omega))
          · exact absurd h217 (by omega)
        | succ e ih2 =>
          intro i M2 hi j1 j2 jm jq
          refine T.iload (pc' := 215) (q_d dX6_counts_3 0 rfl) rfl rfl ?_
          refine T.bipush (pc' := 217) (v := nI 7) (q_d dX6_counts_3 1 rfl) rfl (by decide) ?_
          refine T.icmp_geN (tgt := 240) (pc' := 220) (q_d dX6_counts_3 2 rfl) rfl (by decide) (by omega) (by omega) (fun h217 => ?_) (fun h217 => ?_)
          · exact absurd h217 (by omega)
          · refine T.aload_n (pc' := 221) (q_d dX6_counts_3 3 rfl) rfl rfl rfl ?_
            refine T.getR (pc' := 224) (ci := 6) (k0 := 13) (q_d dX6_counts_3 4 rfl) rfl rfl (by decide) rfl inX6 (by decide) rfl wF_X6_36 (rP (show M2.2.2 = pM by rw [j2]; exact hX.1) rfl) ?_
            refine T.iload (pc' := 226) (q_d dX6_counts_3 5 rfl) rfl rfl ?_
            refine T.aload_n (pc' := 227) (q_d dX6_counts_3 6 rfl) rfl rfl rfl ?_
            refine T.getR (pc' := 230) (ci := 6) (k0 := 14) (q_d dX6_counts_3 7 rfl) rfl rfl (by decide) rfl inX6 (by decide) rfl wF_X6_40 (rP (show M2.2.2 = pM by rw [j2]; exact hX.1) rfl) ?_
            refine T.iload (pc' := 232) (q_d dX6_counts_3 8 rfl) rfl rfl ?_
            refine T.lald (pc' := 233) (q_d dX6_counts_3 9 rfl) rfl rfl (by decide) rfl (by omega) (by decide) (jm i (by omega)) ?_
            refine T.last (pc' := 234) (q_d dX6_counts_3 10 rfl) rfl rfl (by decide) rfl (by omega) (by decide) ?_
            refine T.iinc (pc' := 237) (q_d dX6_counts_3 11 rfl) rfl rfl (nN_p _ 1) (by decide) rfl rfl ?_
            refine T.goto (tgt := 213) (q_d dX6_counts_3 12 rfl) (by decide) ?_
            refine ih2 (i + 1) _ (by omega) j1 j2 (fun q h9 => ?_) (fun q h9 => ?_)
            · rw [qJ_ne (Or.inl (by decide))]; exact jm q h9
            · by_cases e : q = i
              · subst e; exact qJ_eq
              · rw [qJ_ne (Or.inr e)]; exact jq q (by omega)
      have loopT : ∀ e tt (M2 : qM), tt + e = 7 → M2.1 = M.1 → M2.2.2 = M.2.2 → (∀ q, q < 7 → M2.2.1 9 q = wkN s w r q) → (∀ q, q < tt → M2.2.1 10 q = wkN s w (r + 1) q) →
          T l hdM kM mX6_counts (fun v M' => v = none ∧ M'.1 = M.1 ∧ M'.2.2 = M.2.2 ∧ ∀ q, q < 7 → M'.2.1 9 q = wkN s w kk q) 0 0 60 [some (.ref 0), some (.int (nI kk)), some (.int (nI w)), some (.int (nI r)), some (.int (nI tt)), none, none, none] [] M2 := by
        intro e
        induction e with
        | zero =>
          intro tt M2 ht j1 j2 jm jq
          refine T.iload (pc' := 62) (q_d dX6_counts_0 38 rfl) rfl rfl ?_
          refine T.bipush (pc' := 64) (v := nI 7) (q_d dX6_counts_0 39 rfl) rfl (by decide) ?_
          refine T.icmp_geN (tgt := 210) (pc' := 67) (q_d dX6_counts_1 0 rfl) rfl (by decide) (by omega) (by omega) (fun h64 => ?_) (fun h64 => ?_)
          · refine T.iconst (pc' := 211) (v := nI 0) (q_d dX6_counts_2 38 rfl) rfl (by decide) ?_
            refine T.istore (pc' := 213) (q_d dX6_counts_2 39 rfl) rfl (by decide) rfl rfl ?_
            refine T.drop (loc' := [some (.ref 0), some (.int (nI kk)), some (.int (nI w)), some (.int (nI r)), some (.int (nI 0)), none, none, none]) ⟨rfl, rfl, rfl, rfl, rfl, trivial⟩ ?_
            exact loopC 7 0 M2 (by decide) j1 j2 (fun q h9 => jq q (by omega)) (fun q h => absurd h (Nat.not_lt_zero _))
          · exact absurd h64 (by omega)
        | succ e ihT =>
          intro tt M2 ht j1 j2 jm jq
          have loopP : ∀ f p (M3 : qM), p + f = s 0 → M3.1 = M.1 → M3.2.2 = M.2.2 → (∀ q, q < 7 → M3.2.1 9 q = wkN s w r q) → (∀ q, q < tt → M3.2.1 10 q = wkN s w (r + 1) q) → M3.2.1 10 tt = wkT s w (wkN s w r) tt p →
              T l hdM kM mX6_counts (fun v M' => v = none ∧ M'.1 = M.1 ∧ M'.2.2 = M.2.2 ∧ ∀ q, q < 7 → M'.2.1 9 q = wkN s w kk q) 0 0 78 [some (.ref 0), some (.int (nI kk)), some (.int (nI w)), some (.int (nI r)), some (.int (nI tt)), some (.int (nI p)), none, none] [] M3 := by
            intro f
            have out : ∀ p (M3 : qM), M3.1 = M.1 → M3.2.2 = M.2.2 → (∀ q, q < 7 → M3.2.1 9 q = wkN s w r q) → (∀ q, q < tt → M3.2.1 10 q = wkN s w (r + 1) q) → M3.2.1 10 tt = wkT s w (wkN s w r) tt (s 0) → T l hdM kM mX6_counts (fun v M' => v = none ∧ M'.1 = M.1 ∧ M'.2.2 = M.2.2 ∧ ∀ q, q < 7 → M'.2.1 9 q = wkN s w kk q) 0 0 60 [some (.ref 0), some (.int (nI kk)), some (.int (nI w)), some (.int (nI r)), some (.int (nI (tt + 1))), some (.int (nI p)), none, none] [] M3 := by
              intro p M3 m1 m2 mm mq mt
              refine T.drop (loc' := [some (.ref 0), some (.int (nI kk)), some (.int (nI w)), some (.int (nI r)), some (.int (nI (tt + 1))), none, none, none]) ⟨rfl, rfl, rfl, rfl, rfl, trivial⟩ ?_
              refine ihT (tt + 1) M3 (by omega) m1 m2 mm (fun q h9 => ?_)
              by_cases e : q = tt
              · subst e; exact mt
              · exact mq q (by omega)
            induction f with
            | zero =>
              intro p M3 hp m1 m2 mm mq mt
              have hX3 := hX.lg m1 m2
              have ep : p = s 0 := by omega
              refine T.iload (pc' := 80) (q_d dX6_counts_1 8 rfl) rfl rfl ?_
              refine T.aload_n (pc' := 81) (q_d dX6_counts_1 9 rfl) rfl rfl rfl ?_
              refine T.getR (pc' := 84) (ci := 6) (k0 := 0) (q_d dX6_counts_1 10 rfl) rfl rfl (by decide) rfl inX6 (by decide) rfl wF_X6_7 (rP hX3.1 rfl) ?_
              refine T.iconst (pc' := 85) (v := nI 0) (q_d dX6_counts_1 11 rfl) rfl (by decide) ?_
              refine T.iald (pc' := 86) (q_d dX6_counts_1 12 rfl) rfl rfl (by decide) rfl (by omega) (by decide) (hX3.2.1 0 (by decide)) ?_
              refine T.icmp_geN (tgt := 204) (pc' := 89) (q_d dX6_counts_1 13 rfl) rfl (by decide) (by omega) (by omega) (fun h86 => ?_) (fun h86 => ?_)
              · refine T.iinc (pc' := 207) (q_d dX6_counts_2 36 rfl) rfl rfl (nN_p _ 1) (by decide) rfl rfl ?_
                refine T.goto (tgt := 60) (q_d dX6_counts_2 37 rfl) (by decide) ?_
                exact out p M3 m1 m2 mm mq (by rw [mt, ep])
              · exact absurd h86 (by omega)
            | succ f ihP =>
              intro p M3 hp m1 m2 mm mq mt
              have hX3 := hX.lg m1 m2
              have gl := goes_lt hX.2.2.1 (p := p) (c := 0) (by omega)
              have gb := and1_lt (goes s p 0 >>> tt)
              have hA : inL (wkT s w (wkN s w r) tt p) := wkT_in (fun q _ => wkN_in r q) p (by omega)
              have hO : inL (wkN s w r p) := wkN_in r p
              have h0 : inL 0 := by unfold inL MAXL; omega
              have nxt : ∀ x v1, inL x → (v1 = (if wkT s w (wkN s w r) tt p = -1 ∨ x = -1 then -1 else wkT s w (wkN s w r) tt p + x)) → tt ≠ w → sumS (wkT s w (wkN s w r) tt p) x = wkT s w (wkN s w r) tt (p + 1) →
                  T l hdM kM mX6_counts (fun v M' => v = none ∧ M'.1 = M.1 ∧ M'.2.2 = M.2.2 ∧ ∀ q, q < 7 → M'.2.1 9 q = wkN s w kk q) 0 0 166 [some (.ref 0), some (.int (nI kk)), some (.int (nI w)), some (.int (nI r)), some (.int (nI tt)), some (.int (nI p)), some (.long (lI x)), none] [] (qJ M3 10 tt v1) := by
                intro x v1 hx hv hne hs
                have hge : 0 ≤ lg_cmp (lI v1) (lI 0) ↔ ¬ (wkT s w (wkN s w r) tt p = -1 ∨ x = -1 ∨ MAXL - x < wkT s w (wkN s w r) tt p) := by
                  rw [hv]
                  by_cases q : wkT s w (wkN s w r) tt p = -1 ∨ x = -1
                  · rw [if_pos q, ge0 (by unfold inL MAXL; omega)]
                    constructor
                    · intro z; exact absurd rfl z
                    · intro z; exact absurd (q.elim Or.inl (fun y => Or.inr (Or.inl y))) z
                  · rw [if_neg q, ge0s hA hx (fun z => q (Or.inl z)) (fun z => q (Or.inr z))]
                    constructor
                    · rintro z (y | y | y)
                      · exact q (Or.inl y)
                      · exact q (Or.inr y)
                      · exact z y
                    · intro z y; exact z (Or.inr (Or.inr y))
                have fin : ∀ v2, v2 = sumS (wkT s w (wkN s w r) tt p) x → T l hdM kM mX6_counts (fun v M' => v = none ∧ M'.1 = M.1 ∧ M'.2.2 = M.2.2 ∧ ∀ q, q < 7 → M'.2.1 9 q = wkN s w kk q) 0 0 78 [some (.ref 0), some (.int (nI kk)), some (.int (nI w)), some (.int (nI r)), some (.int (nI tt)), some (.int (nI (p + 1))), none, none] [] (qJ (qJ M3 10 tt v1) 10 tt v2) := by
                  intro v2 h2
                  refine ihP (p + 1) _ (by omega) m1 m2 (fun q h9 => ?_) (fun q h9 => ?_) (by rw [qJ_eq, h2, hs])
                  · rw [qJ_ne (Or.inl (by decide)), qJ_ne (Or.inl (by decide))]; exact mm q h9
                  · rw [qJ_ne (Or.inr (by omega)), qJ_ne (Or.inr (by omega))]; exact mq q h9
                refine T.aload_n (pc' := 167) (q_d dX6_counts_2 17 rfl) rfl rfl rfl ?_
                refine T.getR (pc' := 170) (ci := 6) (k0 := 14) (q_d dX6_counts_2 18 rfl) rfl rfl (by decide) rfl inX6 (by decide) rfl wF_X6_40 (rP (show (qJ M3 10 tt v1).2.2 = pM from hX3.1) rfl) ?_
                refine T.iload (pc' := 172) (q_d dX6_counts_2 19 rfl) rfl rfl ?_
                refine T.aload_n (pc' := 173) (q_d dX6_counts_2 20 rfl) rfl rfl rfl ?_
                refine T.getR (pc' := 176) (ci := 6) (k0 := 14) (q_d dX6_counts_2 21 rfl) rfl rfl (by decide) rfl inX6 (by decide) rfl wF_X6_40 (rP (show (qJ M3 10 tt v1).2.2 = pM from hX3.1) rfl) ?_
                refine T.iload (pc' := 178) (q_d dX6_counts_2 22 rfl) rfl rfl ?_
                refine T.lald (pc' := 179) (q_d dX6_counts_2 23 rfl) rfl rfl (by decide) rfl (by omega) (by decide) qJ_eq ?_
                refine T.lconst (pc' := 180) (v := lI 0) (q_d dX6_counts_2 24 rfl) rfl (by decide) ?_
                refine T.lcmp (pc' := 181) (q_d dX6_counts_2 25 rfl) rfl rfl ?_
                refine T.if_ge (tgt := 190) (pc' := 184) (q_d dX6_counts_2 26 rfl) rfl (by decide)  (fun h181 => ?_) (fun h181 => ?_)
                · refine T.aload_n (pc' := 191) (q_d dX6_counts_2 29 rfl) rfl rfl rfl ?_
                  refine T.getR (pc' := 194) (ci := 6) (k0 := 14) (q_d dX6_counts_2 30 rfl) rfl rfl (by decide) rfl inX6 (by decide) rfl wF_X6_40 (rP (show (qJ M3 10 tt v1).2.2 = pM from hX3.1) rfl) ?_
                  refine T.iload (pc' := 196) (q_d dX6_counts_2 31 rfl) rfl rfl ?_
                  refine T.lald (pc' := 197) (q_d dX6_counts_2 32 rfl) rfl rfl (by decide) rfl (by omega) (by decide) qJ_eq ?_
                  refine T.last (pc' := 198) (q_d dX6_counts_2 33 rfl) rfl rfl (by decide) rfl (by omega) (by decide) ?_
                  refine T.iinc (pc' := 201) (q_d dX6_counts_2 34 rfl) rfl rfl (nN_p _ 1) (by decide) rfl rfl ?_
                  refine T.goto (tgt := 78) (q_d dX6_counts_2 35 rfl) (by decide) ?_
                  refine T.drop (loc' := [some (.ref 0), some (.int (nI kk)), some (.int (nI w)), some (.int (nI r)), some (.int (nI tt)), some (.int (nI (p + 1))), none, none]) ⟨rfl, rfl, rfl, rfl, rfl, rfl, trivial⟩ ?_
                  first
                    | (refine fin (-1) ?_
                       unfold sumS
                       rw [if_pos (Classical.not_not.mp (fun z => h181 (hge.mpr z)))]; done)
                    | (refine fin v1 ?_
                       have z := hge.mp h181
                       unfold sumS
                       rw [hv, if_neg z, if_neg (fun y => z (y.elim Or.inl (fun u => Or.inr (Or.inl u))))]; done)
                · refine T.ldc2 (pc' := 187) (q_d dX6_counts_2 27 rfl) rfl wN_X6_104 ?_
                  refine T.topl (y := lI (-1)) (by decide) ?_
                  refine T.goto (tgt := 197) (q_d dX6_counts_2 28 rfl) (by decide) ?_
                  refine T.last (pc' := 198) (q_d dX6_counts_2 33 rfl) rfl rfl (by decide) rfl (by omega) (by decide) ?_
                  refine T.iinc (pc' := 201) (q_d dX6_counts_2 34 rfl) rfl rfl (nN_p _ 1) (by decide) rfl rfl ?_
                  refine T.goto (tgt := 78) (q_d dX6_counts_2 35 rfl) (by decide) ?_
                  refine T.drop (loc' := [some (.ref 0), some (.int (nI kk)), some (.int (nI w)), some (.int (nI r)), some (.int (nI tt)), some (.int (nI (p + 1))), none, none]) ⟨rfl, rfl, rfl, rfl, rfl, rfl, trivial⟩ ?_
                  first
                    | (refine fin (-1) ?_
                       unfold sumS
                       rw [if_pos (Classical.not_not.mp (fun z => h181 (hge.mpr z)))]; done)
                    | (refine fin v1 ?_
                       have z := hge.mp h181
                       unfold sumS
                       rw [hv, if_neg z, if_neg (fun y => z (y.elim Or.inl (fun u => Or.inr (Or.inl u))))]; done)
              refine T.iload (pc' := 80) (q_d dX6_counts_1 8 rfl) rfl rfl ?_
              refine T.aload_n (pc' := 81) (q_d dX6_counts_1 9 rfl) rfl rfl rfl ?_
              refine T.getR (pc' := 84) (ci := 6) (k0 := 0) (q_d dX6_counts_1 10 rfl) rfl rfl (by decide) rfl inX6 (by decide) rfl wF_X6_7 (rP (P := pM) (by exact hX3.1) rfl) ?_
              refine T.iconst (pc' := 85) (v := nI 0) (q_d dX6_counts_1 11 rfl) rfl (by decide) ?_
              refine T.iald (pc' := 86) (q_d dX6_counts_1 12 rfl) rfl rfl (by decide) rfl (by omega) (by decide) (hX3.2.1 0 (by decide)) ?_
              refine T.icmp_geN (tgt := 204) (pc' := 89) (q_d dX6_counts_1 13 rfl) rfl (by decide) (by omega) (by omega) (fun h86 => ?_) (fun h86 => ?_)
              · exact absurd h86 (by omega)
              · refine T.iload (pc' := 91) (q_d dX6_counts_1 14 rfl) rfl rfl ?_
                refine T.iload_n (pc' := 92) (q_d dX6_counts_1 15 rfl) rfl rfl rfl ?_
                refine T.icmp_eqN (tgt := 204) (pc' := 95) (q_d dX6_counts_1 16 rfl) rfl (by decide) (by omega) (by omega) (fun h92 => ?_) (fun h92 => ?_)
                · refine T.iinc (pc' := 207) (q_d dX6_counts_2 36 rfl) rfl rfl (nN_p _ 1) (by decide) rfl rfl ?_
                  refine T.goto (tgt := 60) (q_d dX6_counts_2 37 rfl) (by decide) ?_
                  exact out p M3 m1 m2 mm mq (by rw [mt, h92, wkT_w, wkT_w])
                · refine T.aload_n (pc' := 96) (q_d dX6_counts_1 17 rfl) rfl rfl rfl ?_
                  refine T.iload (pc' := 98) (q_d dX6_counts_1 18 rfl) rfl rfl ?_
                  refine T.iconst (pc' := 99) (v := nI 0) (q_d dX6_counts_1 19 rfl) rfl (by decide) ?_
                  refine T.callV (pc' := 102) (ci := 6) (q_d dX6_counts_1 20 rfl) rfl uX6_goes wM_X6_71 (m_goes hX3 (show p < s 0 by omega)) rfl rfl (by decide) rfl rfl (by decide) (Nat.le_of_ble_eq_true rfl) rfl rfl (fun _ => rfl) ?_
                  rintro _ _ ⟨rfl, rfl⟩
                  dsimp only [Option.toList, List.cons_append, List.nil_append, List.append_nil]
                  refine T.iload (pc' := 104) (q_d dX6_counts_1 21 rfl) rfl rfl ?_
                  refine T.ishr (pc' := 105) (q_d dX6_counts_1 22 rfl) rfl (nN_shr (by omega) (by omega)) ?_
                  refine T.iconst (pc' := 106) (v := nI 1) (q_d dX6_counts_1 23 rfl) rfl (by decide) ?_
                  refine T.iand (pc' := 107) (q_d dX6_counts_1 24 rfl) rfl (nN_and _ _) ?_
                  refine T.iconst (pc' := 108) (v := nI 1) (q_d dX6_counts_1 25 rfl) rfl (by decide) ?_
                  refine T.icmp_neN (tgt := 121) (pc' := 111) (q_d dX6_counts_1 26 rfl) rfl (by decide) (by omega) (by omega) (fun h108 => ?_) (fun h108 => ?_)
                  · refine T.lconst (pc' := 122) (v := lI 0) (q_d dX6_counts_1 32 rfl) rfl (by decide) ?_
                    refine T.lstore (pc' := 124) (q_d dX6_counts_1 33 rfl) rfl (by decide) rfl rfl ?_
                    refine T.aload_n (pc' := 125) (q_d dX6_counts_1 34 rfl) rfl rfl rfl ?_
                    refine T.getR (pc' := 128) (ci := 6) (k0 := 14) (q_d dX6_counts_1 35 rfl) rfl rfl (by decide) rfl inX6 (by decide) rfl wF_X6_40 (rP (P := pM) (by exact hX3.1) rfl) ?_
                    refine T.iload (pc' := 130) (q_d dX6_counts_1 36 rfl) rfl rfl ?_
                    refine T.aload_n (pc' := 131) (q_d dX6_counts_1 37 rfl) rfl rfl rfl ?_
                    refine T.getR (pc' := 134) (ci := 6) (k0 := 14) (q_d dX6_counts_1 38 rfl) rfl rfl (by decide) rfl inX6 (by decide) rfl wF_X6_40 (rP (P := pM) (by exact hX3.1) rfl) ?_
                    refine T.iload (pc' := 136) (q_d dX6_counts_1 39 rfl) rfl rfl ?_
                    refine T.lald (pc' := 137) (q_d dX6_counts_2 0 rfl) rfl rfl (by decide) rfl (by omega) (by decide) mt ?_
                    refine T.lconst (pc' := 138) (v := lI 0) (q_d dX6_counts_2 1 rfl) rfl (by decide) ?_
                    refine T.lcmp (pc' := 139) (q_d dX6_counts_2 2 rfl) rfl rfl ?_
                    refine T.if_lt (tgt := 149) (pc' := 142) (q_d dX6_counts_2 3 rfl) rfl (by decide)  (fun h139 => ?_) (fun h139 => ?_)
                    · refine T.ldc2 (pc' := 152) (q_d dX6_counts_2 8 rfl) rfl wN_X6_104 ?_
                      refine T.topl (y := lI (-1)) (by decide) ?_
                      refine T.goto (tgt := 165) (q_d dX6_counts_2 9 rfl) (by decide) ?_
                      refine T.last (pc' := 166) (q_d dX6_counts_2 16 rfl) rfl rfl (by decide) rfl (by omega) (by decide) ?_
                      first
                        | (have hs : sumS (wkT s w (wkN s w r) tt p) (wkN s w r p) = wkT s w (wkN s w r) tt (p + 1) := by rw [wkT, if_pos ⟨h108, h92⟩]
                           first
                             | exact nxt _ _ hO (by rw [if_pos (Or.inl ((lt0 hA).mp h139))]) h92 hs
                             | exact nxt _ _ hO (by rw [if_pos (Or.inr (Classical.not_not.mp (fun z => h146 ((ge0 hO).mpr z))))]) h92 hs
                             | exact nxt _ _ hO (by rw [if_neg (fun z => z.elim (fun y => h139 ((lt0 hA).mpr y)) (fun y => (ge0 hO).mp h146 y))]) h92 hs)
                        | (have hs : sumS (wkT s w (wkN s w r) tt p) 0 = wkT s w (wkN s w r) tt (p + 1) := by rw [wkT, if_neg (fun z => h108 z.1)]; exact sumS_0 hA
                           first
                             | exact nxt _ _ h0 (by rw [if_pos (Or.inl ((lt0 hA).mp h139))]) h92 hs
                             | exact nxt _ _ h0 (by rw [if_pos (Or.inr (Classical.not_not.mp (fun z => h146 ((ge0 h0).mpr z))))]) h92 hs
                             | exact nxt _ _ h0 (by rw [if_neg (fun z => z.elim (fun y => h139 ((lt0 hA).mpr y)) (fun y => (ge0 h0).mp h146 y))]) h92 hs)
                    · refine T.lload (pc' := 144) (q_d dX6_counts_2 4 rfl) rfl rfl ?_
                      refine T.lconst (pc' := 145) (v := lI 0) (q_d dX6_counts_2 5 rfl) rfl (by decide) ?_
                      refine T.lcmp (pc' := 146) (q_d dX6_counts_2 6 rfl) rfl rfl ?_
                      refine T.if_ge (tgt := 155) (pc' := 149) (q_d dX6_counts_2 7 rfl) rfl (by decide)  (fun h146 => ?_) (fun h146 => ?_)
                      · refine T.aload_n (pc' := 156) (q_d dX6_counts_2 10 rfl) rfl rfl rfl ?_
                        refine T.getR (pc' := 159) (ci := 6) (k0 := 14) (q_d dX6_counts_2 11 rfl) rfl rfl (by decide) rfl inX6 (by decide) rfl wF_X6_40 (rP (P := pM) (by exact hX3.1) rfl) ?_
                        refine T.iload (pc' := 161) (q_d dX6_counts_2 12 rfl) rfl rfl ?_
                        refine T.lald (pc' := 162) (q_d dX6_counts_2 13 rfl) rfl rfl (by decide) rfl (by omega) (by decide) mt ?_
                        refine T.lload (pc' := 164) (q_d dX6_counts_2 14 rfl) rfl rfl ?_
                        refine T.ladd (pc' := 165) (q_d dX6_counts_2 15 rfl) rfl (Int64.ofInt_add _ _).symm ?_
                        refine T.last (pc' := 166) (q_d dX6_counts_2 16 rfl) rfl rfl (by decide) rfl (by omega) (by decide) ?_
                        first
                          | (have hs : sumS (wkT s w (wkN s w r) tt p) (wkN s w r p) = wkT s w (wkN s w r) tt (p + 1) := by rw [wkT, if_pos ⟨h108, h92⟩]
                             first
                               | exact nxt _ _ hO (by rw [if_pos (Or.inl ((lt0 hA).mp h139))]) h92 hs
                               | exact nxt _ _ hO (by rw [if_pos (Or.inr (Classical.not_not.mp (fun z => h146 ((ge0 hO).mpr z))))]) h92 hs
                               | exact nxt _ _ hO (by rw [if_neg (fun z => z.elim (fun y => h139 ((lt0 hA).mpr y)) (fun y => (ge0 hO).mp h146 y))]) h92 hs)
                          | (have hs : sumS (wkT s w (wkN s w r) tt p) 0 = wkT s w (wkN s w r) tt (p + 1) := by rw [wkT, if_neg (fun z => h108 z.1)]; exact sumS_0 hA
                             first
                               | exact nxt _ _ h0 (by rw [if_pos (Or.inl ((lt0 hA).mp h139))]) h92 hs
                               | exact nxt _ _ h0 (by rw [if_pos (Or.inr (Classical.not_not.mp (fun z => h146 ((ge0 h0).mpr z))))]) h92 hs
                               | exact nxt _ _ h0 (by rw [if_neg (fun z => z.elim (fun y => h139 ((lt0 hA).mpr y)) (fun y => (ge0 h0).mp h146 y))]) h92 hs)
                      · refine T.ldc2 (pc' := 152) (q_d dX6_counts_2 8 rfl) rfl wN_X6_104 ?_
                        refine T.topl (y := lI (-1)) (by decide) ?_
                        refine T.goto (tgt := 165) (q_d dX6_counts_2 9 rfl) (by decide) ?_
                        refine T.last (pc' := 166) (q_d dX6_counts_2 16 rfl) rfl rfl (by decide) rfl (by omega) (by decide) ?_
                        first
                          | (have hs : sumS (wkT s w (wkN s w r) tt p) (wkN s w r p) = wkT s w (wkN s w r) tt (p + 1) := by rw [wkT, if_pos ⟨h108, h92⟩]
                             first
                               | exact nxt _ _ hO (by rw [if_pos (Or.inl ((lt0 hA).mp h139))]) h92 hs
                               | exact nxt _ _ hO (by rw [if_pos (Or.inr (Classical.not_not.mp (fun z => h146 ((ge0 hO).mpr z))))]) h92 hs
                               | exact nxt _ _ hO (by rw [if_neg (fun z => z.elim (fun y => h139 ((lt0 hA).mpr y)) (fun y => (ge0 hO).mp h146 y))]) h92 hs)
                          | (have hs : sumS (wkT s w (wkN s w r) tt p) 0 = wkT s w (wkN s w r) tt (p + 1) := by rw [wkT, if_neg (fun z => h108 z.1)]; exact sumS_0 hA
                             first
                               | exact nxt _ _ h0 (by rw [if_pos (Or.inl ((lt0 hA).mp h139))]) h92 hs
                               | exact nxt _ _ h0 (by rw [if_pos (Or.inr (Classical.not_not.mp (fun z => h146 ((ge0 h0).mpr z))))]) h92 hs
                               | exact nxt _ _ h0 (by rw [if_neg (fun z => z.elim (fun y => h139 ((lt0 hA).mpr y)) (fun y => (ge0 h0).mp h146 y))]) h92 hs)
                  · refine T.aload_n (pc' := 112) (q_d dX6_counts_1 27 rfl) rfl rfl rfl ?_
                    refine T.getR (pc' := 115) (ci := 6) (k0 := 13) (q_d dX6_counts_1 28 rfl) rfl rfl (by decide) rfl inX6 (by decide) rfl wF_X6_36 (rP (P := pM) (by exact hX3.1) rfl) ?_
                    refine T.iload (pc' := 117) (q_d dX6_counts_1 29 rfl) rfl rfl ?_
                    refine T.lald (pc' := 118) (q_d dX6_counts_1 30 rfl) rfl rfl (by decide) rfl (by omega) (by decide) (mm p (by omega)) ?_
                    refine T.goto (tgt := 122) (q_d dX6_counts_1 31 rfl) (by decide) ?_
                    refine T.lstore (pc' := 124) (q_d dX6_counts_1 33 rfl) rfl (by decide) rfl rfl ?_
                    refine T.aload_n (pc' := 125) (q_d dX6_counts_1 34 rfl) rfl rfl rfl ?_
                    refine T.getR (pc' := 128) (ci := 6) (k0 := 14) (q_d dX6_counts_1 35 rfl) rfl rfl (by decide) rfl inX6 (by decide) rfl wF_X6_40 (rP (P := pM) (by exact hX3.1) rfl) ?_
                    refine T.iload (pc' := 130) (q_d dX6_counts_1 36 rfl) rfl rfl ?_
                    refine T.aload_n (pc' := 131) (q_d dX6_counts_1 37 rfl) rfl rfl rfl ?_
                    refine T.getR (pc' := 134) (ci := 6) (k0 := 14) (q_d dX6_counts_1 38 rfl) rfl rfl (by decide) rfl inX6 (by decide) rfl wF_X6_40 (rP (P := pM) (by exact hX3.1) rfl) ?_
                    refine T.iload (pc' := 136) (q_d dX6_counts_1 39 rfl) rfl rfl ?_
                    refine T.lald (pc' := 137) (q_d dX6_counts_2 0 rfl) rfl rfl (by decide) rfl (by omega) (by decide) mt ?_
                    refine T.lconst (pc' := 138) (v := lI 0) (q_d dX6_counts_2 1 rfl) rfl (by decide) ?_
                    refine T.lcmp (pc' := 139) (q_d dX6_counts_2 2 rfl) rfl rfl ?_
                    refine T.if_lt (tgt := 149) (pc' := 142) (q_d dX6_counts_2 3 rfl) rfl (by decide)  (fun h139 => ?_) (fun h139 => ?_)
                    · refine T.ldc2 (pc' := 152) (q_d dX6_counts_2 8 rfl) rfl wN_X6_104 ?_
                      refine T.topl (y := lI (-1)) (by decide) ?_
                      refine T.goto (tgt := 165) (q_d dX6_counts_2 9 rfl) (by decide) ?_
                      refine T.last (pc' := 166) (q_d dX6_counts_2 16 rfl) rfl rfl (by decide) rfl (by omega) (by decide) ?_
                      first
                        | (have hs : sumS (wkT s w (wkN s w r) tt p) (wkN s w r p) = wkT s w (wkN s w r) tt (p + 1) := by rw [wkT, if_pos ⟨h108, h92⟩]
                           first
                             | exact nxt _ _ hO (by rw [if_pos (Or.inl ((lt0 hA).mp h139))]) h92 hs
                             | exact nxt _ _ hO (by rw [if_pos (Or.inr (Classical.not_not.mp (fun z => h146 ((ge0 hO).mpr z))))]) h92 hs
                             | exact nxt _ _ hO (by rw [if_neg (fun z => z.elim (fun y => h139 ((lt0 hA).mpr y)) (fun y => (ge0 hO).mp h146 y))]) h92 hs)
                        | (have hs : sumS (wkT s w (wkN s w r) tt p) 0 = wkT s w (wkN s w r) tt (p + 1) := by rw [wkT, if_neg (fun z => h108 z.1)]; exact sumS_0 hA
                           first
                             | exact nxt _ _ h0 (by rw [if_pos (Or.inl ((lt0 hA).mp h139))]) h92 hs
                             | exact nxt _ _ h0 (by rw [if_pos (Or.inr (Classical.not_not.mp (fun z => h146 ((ge0 h0).mpr z))))]) h92 hs
                             | exact nxt _ _ h0 (by rw [if_neg (fun z => z.elim (fun y => h139 ((lt0 hA).mpr y)) (fun y => (ge0 h0).mp h146 y))]) h92 hs)
                    · refine T.lload (pc' := 144) (q_d dX6_counts_2 4 rfl) rfl rfl ?_
                      refine T.lconst (pc' := 145) (v := lI 0) (q_d dX6_counts_2 5 rfl) rfl (by decide) ?_
                      refine T.lcmp (pc' := 146) (q_d dX6_counts_2 6 rfl) rfl rfl ?_
                      refine T.if_ge (tgt := 155) (pc' := 149) (q_d dX6_counts_2 7 rfl) rfl (by decide)  (fun h146 => ?_) (fun h146 => ?_)
                      · refine T.aload_n (pc' := 156) (q_d dX6_counts_2 10 rfl) rfl rfl rfl ?_
                        refine T.getR (pc' := 159) (ci := 6) (k0 := 14) (q_d dX6_counts_2 11 rfl) rfl rfl (by decide) rfl inX6 (by decide) rfl wF_X6_40 (rP (P := pM) (by exact hX3.1) rfl) ?_
                        refine T.iload (pc' := 161) (q_d dX6_counts_2 12 rfl) rfl rfl ?_
                        refine T.lald (pc' := 162) (q_d dX6_counts_2 13 rfl) rfl rfl (by decide) rfl (by omega) (by decide) mt ?_
                        refine T.lload (pc' := 164) (q_d dX6_counts_2 14 rfl) rfl rfl ?_
                        refine T.ladd (pc' := 165) (q_d dX6_counts_2 15 rfl) rfl (Int64.ofInt_add _ _).symm ?_
                        refine T.last (pc' := 166) (q_d dX6_counts_2 16 rfl) rfl rfl (by decide) rfl (by omega) (by decide) ?_
                        first
                          | (have hs : sumS (wkT s w (wkN s w r) tt p) (wkN s w r p) = wkT s w (wkN s w r) tt (p + 1) := by rw [wkT, if_pos ⟨h108, h92⟩]
                             first
                               | exact nxt _ _ hO (by rw [if_pos (Or.inl ((lt0 hA).mp h139))]) h92 hs
                               | exact nxt _ _ hO (by rw [if_pos (Or.inr (Classical.not_not.mp (fun z => h146 ((ge0 hO).mpr z))))]) h92 hs
                               | exact nxt _ _ hO (by rw [if_neg (fun z => z.elim (fun y => h139 ((lt0 hA).mpr y)) (fun y => (ge0 hO).mp h146 y))]) h92 hs)
                          | (have hs : sumS (wkT s w (wkN s w r) tt p) 0 = wkT s w (wkN s w r) tt (p + 1) := by rw [wkT, if_neg (fun z => h108 z.1)]; exact sumS_0 hA
                             first
                               | exact nxt _ _ h0 (by rw [if_pos (Or.inl ((lt0 hA).mp h139))]) h92 hs
                               | exact nxt _ _ h0 (by rw [if_pos (Or.inr (Classical.not_not.mp (fun z => h146 ((ge0 h0).mpr z))))]) h92 hs
                               | exact nxt _ _ h0 (by rw [if_neg (fun z => z.elim (fun y => h139 ((lt0 hA).mpr y)) (fun y => (ge0 h0).mp h146 y))]) h92 hs)
                      · refine T.ldc2 (pc' := 152) (q_d dX6_counts_2 8 rfl) rfl wN_X6_104 ?_
                        refine T.topl (y := lI (-1)) (by decide) ?_
                        refine T.goto (tgt := 165) (q_d dX6_counts_2 9 rfl) (by decide) ?_
                        refine T.last (pc' := 166) (q_d dX6_counts_2 16 rfl) rfl rfl (by decide) rfl (by omega) (by decide) ?_
                        first
                          | (have hs : sumS (wkT s w (wkN s w r) tt p) (wkN s w r p) = wkT s w (wkN s w r) tt (p + 1) := by rw [wkT, if_pos ⟨h108, h92⟩]
                             first
                               | exact nxt _ _ hO (by rw [if_pos (Or.inl ((lt0 hA).mp h139))]) h92 hs
                               | exact nxt _ _ hO (by rw [if_pos (Or.inr (Classical.not_not.mp (fun z => h146 ((ge0 hO).mpr z))))]) h92 hs
                               | exact nxt _ _ hO (by rw [if_neg (fun z => z.elim (fun y => h139 ((lt0 hA).mpr y)) (fun y => (ge0 hO).mp h146 y))]) h92 hs)
                          | (have hs : sumS (wkT s w (wkN s w r) tt p) 0 = wkT s w (wkN s w r) tt (p + 1) := by rw [wkT, if_neg (fun z => h108 z.1)]; exact sumS_0 hA
                             first
                               | exact nxt _ _ h0 (by rw [if_pos (Or.inl ((lt0 hA).mp h139))]) h92 hs
                               | exact nxt _ _ h0 (by rw [if_pos (Or.inr (Classical.not_not.mp (fun z => h146 ((ge0 h0).mpr z))))]) h92 hs
                               | exact nxt _ _ h0 (by rw [if_neg (fun z => z.elim (fun y => h139 ((lt0 hA).mpr y)) (fun y => (ge0 h0).mp h146 y))]) h92 hs)
          refine T.iload (pc' := 62) (q_d dX6_counts_0 38 rfl) rfl rfl ?_
          refine T.bipush (pc' := 64) (v := nI 7) (q_d dX6_counts_0 39 rfl) rfl (by decide) ?_
          refine T.icmp_geN (tgt := 210) (pc' := 67) (q_d dX6_counts_1 0 rfl) rfl (by decide) (by omega) (by omega) (fun h64 => ?_) (fun h64 => ?_)
          · exact absurd h64 (by omega)
          · refine T.aload_n (pc' := 68) (q_d dX6_counts_1 1 rfl) rfl rfl rfl ?_
            refine T.getR (pc' := 71) (ci := 6) (k0 := 14) (q_d dX6_counts_1 2 rfl) rfl rfl (by decide) rfl inX6 (by decide) rfl wF_X6_40 (rP (show M2.2.2 = pM by rw [j2]; exact hX.1) rfl) ?_
            refine T.iload (pc' := 73) (q_d dX6_counts_1 3 rfl) rfl rfl ?_
            refine T.lconst (pc' := 74) (v := lI 0) (q_d dX6_counts_1 4 rfl) rfl (by decide) ?_
            refine T.last (pc' := 75) (q_d dX6_counts_1 5 rfl) rfl rfl (by decide) rfl (by omega) (by decide) ?_
            refine T.iconst (pc' := 76) (v := nI 0) (q_d dX6_counts_1 6 rfl) rfl (by decide) ?_
            refine T.istore (pc' := 78) (q_d dX6_counts_1 7 rfl) rfl (by decide) rfl rfl ?_
            refine T.drop (loc' := [some (.ref 0), some (.int (nI kk)), some (.int (nI w)), some (.int (nI r)), some (.int (nI tt)), some (.int (nI 0)), none, none]) ⟨rfl, rfl, rfl, rfl, rfl, rfl, trivial⟩ ?_
            refine loopP (s 0) 0 _ (by omega) j1 j2 (fun q h9 => ?_) (fun q h9 => ?_) qJ_eq
            · rw [qJ_ne (Or.inl (by decide))]; exact jm q h9
            · rw [qJ_ne (Or.inr (by omega))]; exact jq q h9
      refine T.iload_n (pc' := 53) (q_d dX6_counts_0 33 rfl) rfl rfl rfl ?_
      refine T.iload_n (pc' := 54) (q_d dX6_counts_0 34 rfl) rfl rfl rfl ?_
      refine T.icmp_geN (tgt := 246) (pc' := 57) (q_d dX6_counts_0 35 rfl) rfl (by decide) (by omega) (by omega) (fun h54 => ?_) (fun h54 => ?_)
      · exact absurd h54 (by omega)
      · refine T.iconst (pc' := 58) (v := nI 0) (q_d dX6_counts_0 36 rfl) rfl (by decide) ?_
        refine T.istore (pc' := 60) (q_d dX6_counts_0 37 rfl) rfl (by decide) rfl rfl ?_
        exact loopT 7 0 M' (by decide) h1 h2 hq (fun q h => absurd h (Nat.not_lt_zero _))
  have loop0 : ∀ d i (M' : qM), i + d = 7 → M'.1 = M.1 → M'.2.2 = M.2.2 → (∀ q, q < i → M'.2.1 9 q = wkN s w 0 q) →
      T l hdM kM mX6_counts (fun v M' => v = none ∧ M'.1 = M.1 ∧ M'.2.2 = M.2.2 ∧ ∀ q, q < 7 → M'.2.1 9 q = wkN s w kk q) 0 0 2 [some (.ref 0), some (.int (nI kk)), some (.int (nI w)), some (.int (nI i)), none, none, none, none] [] M' := by
    intro d
    induction d with
    | zero =>
      intro i M' hi h1 h2 hq
      refine T.iload_n (pc' := 3) (q_d dX6_counts_0 2 rfl) rfl rfl rfl ?_
      refine T.bipush (pc' := 5) (v := nI 7) (q_d dX6_counts_0 3 rfl) rfl (by decide) ?_
      refine T.icmp_geN (tgt := 50) (pc' := 8) (q_d dX6_counts_0 4 rfl) rfl (by decide) (by omega) (by omega) (fun h5 => ?_) (fun h5 => ?_)
      · refine T.iconst (pc' := 51) (v := nI 0) (q_d dX6_counts_0 31 rfl) rfl (by decide) ?_
        refine T.istore_n (pc' := 52) (q_d dX6_counts_0 32 rfl) rfl rfl (by decide) rfl rfl ?_
        exact loopR kk 0 M' (by omega) h1 h2 (fun q h9 => hq q (by omega))
      · exact absurd h5 (by omega)
    | succ d ih =>
      intro i M' hi h1 h2 hq
      have hX' := hX.lg h1 h2
      have g9 := and1_01 (s 1 >>> i)
      refine T.iload_n (pc' := 3) (q_d dX6_counts_0 2 rfl) rfl rfl rfl ?_
      refine T.bipush (pc' := 5) (v := nI 7) (q_d dX6_counts_0 3 rfl) rfl (by decide) ?_
      refine T.icmp_geN (tgt := 50) (pc' := 8) (q_d dX6_counts_0 4 rfl) rfl (by decide) (by omega) (by omega) (fun h5 => ?_) (fun h5 => ?_)
      · exact absurd h5 (by omega)
      · refine T.aload_n (pc' := 9) (q_d dX6_counts_0 5 rfl) rfl rfl rfl ?_
        refine T.getR (pc' := 12) (ci := 6) (k0 := 13) (q_d dX6_counts_0 6 rfl) rfl rfl (by decide) rfl inX6 (by decide) rfl wF_X6_36 (rP hX'.1 rfl) ?_
        refine T.iload_n (pc' := 13) (q_d dX6_counts_0 7 rfl) rfl rfl rfl ?_
        refine T.iload_n (pc' := 14) (q_d dX6_counts_0 8 rfl) rfl rfl rfl ?_
        refine T.iload_n (pc' := 15) (q_d dX6_counts_0 9 rfl) rfl rfl rfl ?_
        refine T.icmp_eqN (tgt := 42) (pc' := 18) (q_d dX6_counts_0 10 rfl) rfl (by decide) (by omega) (by omega) (fun h15 => ?_) (fun h15 => ?_)
        · refine T.lconst (pc' := 43) (v := lI 0) (q_d dX6_counts_0 27 rfl) rfl (by decide) ?_
          refine T.last (pc' := 44) (q_d dX6_counts_0 28 rfl) rfl rfl (by decide) rfl (by omega) (by decide) ?_
          refine T.iinc (pc' := 47) (q_d dX6_counts_0 29 rfl) rfl rfl (nN_p _ 1) (by decide) rfl rfl ?_
          refine T.goto (tgt := 2) (q_d dX6_counts_0 30 rfl) (by decide) ?_
          refine ih (i + 1) _ (by omega) h1 h2 (fun q h9 => ?_)
          by_cases e : q = i
          · subst e
            rw [qJ_eq, wkN]
            first
              | (rw [if_neg (fun z => z.2 h15)]; done)
              | (have hb : s 1 >>> q &&& 1 ≠ 1 := fun h => absurd (lt_bit w1 ((bit_iff _ _).mp h)) (by omega)
                 rw [if_neg (fun z => hb z.1)]; done)
              | (rcases g9 with g | g
                 · rw [g, if_neg (fun z => absurd z.1 (by decide))]; rfl
                 · rw [g, if_pos ⟨rfl, h15⟩]; rfl)
          · rw [qJ_ne (Or.inr e)]; exact hq q (by omega)
        · refine T.iload_n (pc' := 19) (q_d dX6_counts_0 11 rfl) rfl rfl rfl ?_
          refine T.aload_n (pc' := 20) (q_d dX6_counts_0 12 rfl) rfl rfl rfl ?_
          refine T.getR (pc' := 23) (ci := 6) (k0 := 0) (q_d dX6_counts_0 13 rfl) rfl rfl (by decide) rfl inX6 (by decide) rfl wF_X6_7 (rP hX'.1 rfl) ?_
          refine T.iconst (pc' := 24) (v := nI 0) (q_d dX6_counts_0 14 rfl) rfl (by decide) ?_
          refine T.iald (pc' := 25) (q_d dX6_counts_0 15 rfl) rfl rfl (by decide) rfl (by omega) (by decide) (hX'.2.1 0 (by decide)) ?_
          refine T.icmp_geN (tgt := 42) (pc' := 28) (q_d dX6_counts_0 16 rfl) rfl (by decide) (by omega) (by omega) (fun h25 => ?_) (fun h25 => ?_)
          · refine T.lconst (pc' := 43) (v := lI 0) (q_d dX6_counts_0 27 rfl) rfl (by decide) ?_
            refine T.last (pc' := 44) (q_d dX6_counts_0 28 rfl) rfl rfl (by decide) rfl (by omega) (by decide) ?_
            refine T.iinc (pc' := 47) (q_d dX6_counts_0 29 rfl) rfl rfl (nN_p _ 1) (by decide) rfl rfl ?_
            refine T.goto (tgt := 2) (q_d dX6_counts_0 30 rfl) (by decide) ?_
            refine ih (i + 1) _ (by omega) h1 h2 (fun q h9 => ?_)
            by_cases e : q = i
            · subst e
              rw [qJ_eq, wkN]
              first
                | (rw [if_neg (fun z => z.2 h15)]; done)
                | (have hb : s 1 >>> q &&& 1 ≠ 1 := fun h => absurd (lt_bit w1 ((bit_iff _ _).mp h)) (by omega)
                   rw [if_neg (fun z => hb z.1)]; done)
                | (rcases g9 with g | g
                   · rw [g, if_neg (fun z => absurd z.1 (by decide))]; rfl
                   · rw [g, if_pos ⟨rfl, h15⟩]; rfl)
            · rw [qJ_ne (Or.inr e)]; exact hq q (by omega)
          · refine T.aload_n (pc' := 29) (q_d dX6_counts_0 17 rfl) rfl rfl rfl ?_
            refine T.getR (pc' := 32) (ci := 6) (k0 := 0) (q_d dX6_counts_0 18 rfl) rfl rfl (by decide) rfl inX6 (by decide) rfl wF_X6_7 (rP hX'.1 rfl) ?_
            refine T.iconst (pc' := 33) (v := nI 1) (q_d dX6_counts_0 19 rfl) rfl (by decide) ?_
            refine T.iald (pc' := 34) (q_d dX6_counts_0 20 rfl) rfl rfl (by decide) rfl (by omega) (by decide) (hX'.2.1 1 (by decide)) ?_
            refine T.iload_n (pc' := 35) (q_d dX6_counts_0 21 rfl) rfl rfl rfl ?_
            refine T.ishr (pc' := 36) (q_d dX6_counts_0 22 rfl) rfl (nN_shr (by omega) (by omega)) ?_
            refine T.iconst (pc' := 37) (v := nI 1) (q_d dX6_counts_0 23 rfl) rfl (by decide) ?_
            refine T.iand (pc' := 38) (q_d dX6_counts_0 24 rfl) rfl (nN_and _ _) ?_
            refine T.i2l (pc' := 39) (q_d dX6_counts_0 25 rfl) rfl (i2l01 (by omega)) ?_
            refine T.goto (tgt := 43) (q_d dX6_counts_0 26 rfl) (by decide) ?_
            refine T.last (pc' := 44) (q_d dX6_counts_0 28 rfl) rfl rfl (by decide) rfl (by omega) (by decide) ?_
            refine T.iinc (pc' := 47) (q_d dX6_counts_0 29 rfl) rfl rfl (nN_p _ 1) (by decide) rfl rfl ?_
            refine T.goto (tgt := 2) (q_d dX6_counts_0 30 rfl) (by decide) ?_
            refine ih (i + 1) _ (by omega) h1 h2 (fun q h9 => ?_)
            by_cases e : q = i
            · subst e
              rw [qJ_eq, wkN]
              first
                | (rw [if_neg (fun z => z.2 h15)]; done)
                | (have hb : s 1 >>> q &&& 1 ≠ 1 := fun h => absurd (lt_bit w1 ((bit_iff _ _).mp h)) (by omega)
                   rw [if_neg (fun z => hb z.1)]; done)
                | (rcases g9 with g | g
                   · rw [g, if_neg (fun z => absurd z.1 (by decide))]; rfl
                   · rw [g, if_pos ⟨rfl, h15⟩]; rfl)
            · rw [qJ_ne (Or.inr e)]; exact hq q (by omega)
  refine T.iconst (pc' := 1) (v := nI 0) (q_d dX6_counts_0 0 rfl) rfl (by decide) ?_
  refine T.istore_n (pc' := 2) (q_d dX6_counts_0 1 rfl) rfl rfl (by decide) rfl rfl ?_
  exact loop0 7 0 M (by decide) rfl rfl (fun q h => absurd h (Nat.not_lt_zero _))
end CM8
