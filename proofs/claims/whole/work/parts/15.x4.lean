/-! BlindHunts$Walks -/
def MAXL : Int := 9223372036854775807
def inL (z : Int) : Prop := -1 ≤ z ∧ z ≤ MAXL
theorem lI_toInt {z : Int} (h1 : -9223372036854775808 ≤ z) (h2 : z ≤ 9223372036854775807) : (lI z).toInt = z := Int64.toInt_ofInt_of_le h1 (by omega)
theorem lI_inj {a b : Int} (ha : inL a) (hb : inL b) : lI a = lI b ↔ a = b := by
  have h1 := lI_toInt (z := a) (by have := ha.1; omega) ha.2
  have h2 := lI_toInt (z := b) (by have := hb.1; omega) hb.2
  constructor
  · intro h
    rw [← h1, ← h2, h]
  · intro h; rw [h]
theorem lc_eq {x y : Int64} : lg_cmp x y = 0 ↔ x = y := lg_cmp_eq x y
theorem lc_le {x y : Int64} : lg_cmp x y ≤ 0 ↔ x ≤ y := lg_cmp_le x y
def sumS (a b : Int) : Int := if a = -1 ∨ b = -1 ∨ MAXL - b < a then -1 else a + b
theorem sumS_in {a b : Int} (ha : inL a) (hb : inL b) : inL (sumS a b) := by
  unfold sumS inL MAXL at *
  split <;> omega
/-- the ways to t by one move more, from the places below p -/
def wkT (s : Nat → Nat) (w : Nat) (old : Nat → Int) (t : Nat) : Nat → Int
  | 0 => 0
  | p + 1 => if goes s p 0 >>> t &&& 1 = 1 ∧ t ≠ w then sumS (wkT s w old t p) (old p) else wkT s w old t p
def wkN (s : Nat → Nat) (w : Nat) : Nat → Nat → Int
  | 0, q => if s 1 >>> q &&& 1 = 1 ∧ q ≠ w then 1 else 0
  | k + 1, q => wkT s w (wkN s w k) q (s 0)
theorem wkT_in {s : Nat → Nat} {w t : Nat} {old : Nat → Int} (ho : ∀ q, q < s 0 → inL (old q)) : ∀ p, p ≤ s 0 → inL (wkT s w old t p)
  | 0, _ => by unfold wkT inL MAXL; omega
  | p + 1, h => by
    unfold wkT
    split
    · exact sumS_in (wkT_in ho p (by omega)) (ho p (by omega))
    · exact wkT_in ho p (by omega)
theorem wkN_in {s : Nat → Nat} {w : Nat} : ∀ k q, inL (wkN s w k q)
  | 0, q => by unfold wkN inL MAXL; split <;> omega
  | k + 1, q => wkT_in (fun q _ => wkN_in k q) (s 0) (Nat.le_refl _)
def RLg (M : qM) (z : Int) : Option Value → qM → Prop := fun v M' => M = M' ∧ v = some (.long (lI z))
def eL (sw : Bool) : Nat := if sw then 37 else 36
def eB (sw : Bool) : Nat := if sw then 36 else 37
theorem eL_hd (sw : Bool) : hdX (eL sw) = .inr (3, 7) := by cases sw <;> rfl
theorem eB_hd (sw : Bool) : hdX (eB sw) = .inr (3, 7) := by cases sw <;> rfl
theorem eL_lt (sw : Bool) : eL sw < 71 := by cases sw <;> decide
theorem eB_lt (sw : Bool) : eB sw < 71 := by cases sw <;> decide
theorem eL_ne (sw : Bool) : eL sw ≠ eB sw := by cases sw <;> decide
theorem pX_e0 {pa : Nat → Nat} {sw : Bool} : pX pa sw 35 0 = some (eL sw) := by cases sw <;> rfl
theorem pX_e1 {pa : Nat → Nat} {sw : Bool} : pX pa sw 35 1 = some (eB sw) := by cases sw <;> rfl
theorem pX_sw {M : qM} {pa : Nat → Nat} {sw : Bool} (h : M.2.2 = pX pa sw) : (qR (qR M 35 0 (some (eB sw))) 35 1 (some (eL sw))).2.2 = pX pa (!sw) := by
  funext a k
  simp only [qR, h]
  by_cases ha : a = 35
  · subst ha
    by_cases h1 : k = 1
    · subst h1; cases sw <;> rfl
    · by_cases h0 : k = 0
      · subst h0; cases sw <;> rfl
      · rw [if_neg (fun q => h1 q.2), if_neg (fun q => h0 q.2)]
        obtain ⟨j, rfl⟩ : ∃ j, k = j + 2 := ⟨k - 2, by omega⟩
        cases sw <;> rfl
  · rw [if_neg (fun q => ha q.1), if_neg (fun q => ha q.1)]
    unfold pX
    split <;> first | rfl | exact absurd rfl ha
theorem qJ_eq {M : qM} {a k : Nat} {x : Int} : (qJ M a k x).2.1 a k = x := by simp [qJ]
theorem qJ_ne {M : qM} {a k b j : Nat} {x : Int} (h : b ≠ a ∨ j ≠ k) : (qJ M a k x).2.1 b j = M.2.1 b j := by
  simp only [qJ]
  rw [if_neg]
  rintro ⟨h1, h2⟩
  rcases h with h | h
  · exact h h1
  · exact h h2
theorem eL_not (sw : Bool) : eL (!sw) = eB sw := by cases sw <;> rfl
theorem eB_not (sw : Bool) : eB (!sw) = eL sw := by cases sw <;> rfl
def totS (wk : Nat → Int) : Nat → Int
  | 0 => 0
  | k + 1 => sumS (totS wk k) (wk k)
theorem totS_in {wk : Nat → Int} {n : Nat} (h : ∀ q, q < n → inL (wk q)) : ∀ k, k ≤ n → inL (totS wk k)
  | 0, _ => by unfold totS inL MAXL; omega
  | k + 1, hk => sumS_in (totS_in h k (by omega)) (h k (by omega))
section CX4
variable {l : Launch} {M : qM} {b : Nat} {s : Nat → Nat} {pa : Nat → Nat} {sw : Bool}
theorem c_sum {x y : Int} (hx : inL x) (hy : inL y) : Ct l hdX kX mX4_sum [.long (lI x), .long (lI y)] M (RLg M (sumS x y)) := by
  refine Ct.of [some (.long (lI x)), none, some (.long (lI y)), none] (by decide +kernel) (fun h => absurd h (by decide)) (Nat.le_of_ble_eq_true rfl) rfl ?_
  have m1 : inL (-1) := by unfold inL MAXL; omega
  have hsub : lI 9223372036854775807 - lI y = lI (MAXL - y) := (Int64.ofInt_sub _ _).symm
  have hadd : lI x + lI y = lI (x + y) := (Int64.ofInt_add _ _).symm
  have hmy : -9223372036854775808 ≤ MAXL - y ∧ MAXL - y ≤ 9223372036854775808 := by unfold inL MAXL at *; omega
  refine T.lload_n (pc' := 1) (q_d dX4_sum_0 0 rfl) rfl rfl rfl ?_
  refine T.ldc2 (pc' := 4) (q_d dX4_sum_0 1 rfl) rfl wN_X4_39 ?_
  refine T.topl (y := lI (-1)) (by decide) ?_
  refine T.lcmp (pc' := 5) (q_d dX4_sum_0 2 rfl) rfl rfl ?_
  refine T.if_eq (tgt := 26) (pc' := 8) (q_d dX4_sum_0 3 rfl) rfl (by decide)  (fun h5 => ?_) (fun h5 => ?_)
  · refine T.ldc2 (pc' := 29) (q_d dX4_sum_0 14 rfl) rfl wN_X4_39 ?_
    refine T.topl (y := lI (-1)) (by decide) ?_
    refine T.lret (q_d dX4_sum_0 15 rfl) rfl rfl rfl ?_
    refine ⟨rfl, ?_⟩
    unfold sumS
    rw [if_pos]
    first
      | exact Or.inl ((lI_inj hx m1).mp (lc_eq.mp h5))
      | exact Or.inr (Or.inl ((lI_inj hy m1).mp (lc_eq.mp h13)))
      | (have hy1 : y ≠ -1 := fun e => h13 (lc_eq.mpr ((lI_inj hy m1).mpr e))
         refine Or.inr (Or.inr ?_)
         have h9 : ¬ (lI x ≤ lI (MAXL - y)) := fun q => h23 (lc_le.mpr q)
         rw [Int64.le_iff_toInt_le, lI_toInt (by have := hx.1; omega) hx.2, lI_toInt hmy.1 (by unfold inL MAXL at *; omega)] at h9
         omega)
  · refine T.lload_n (pc' := 9) (q_d dX4_sum_0 4 rfl) rfl rfl rfl ?_
    refine T.ldc2 (pc' := 12) (q_d dX4_sum_0 5 rfl) rfl wN_X4_39 ?_
    refine T.topl (y := lI (-1)) (by decide) ?_
    refine T.lcmp (pc' := 13) (q_d dX4_sum_0 6 rfl) rfl rfl ?_
    refine T.if_eq (tgt := 26) (pc' := 16) (q_d dX4_sum_0 7 rfl) rfl (by decide)  (fun h13 => ?_) (fun h13 => ?_)
    · refine T.ldc2 (pc' := 29) (q_d dX4_sum_0 14 rfl) rfl wN_X4_39 ?_
      refine T.topl (y := lI (-1)) (by decide) ?_
      refine T.lret (q_d dX4_sum_0 15 rfl) rfl rfl rfl ?_
      refine ⟨rfl, ?_⟩
      unfold sumS
      rw [if_pos]
      first
        | exact Or.inl ((lI_inj hx m1).mp (lc_eq.mp h5))
        | exact Or.inr (Or.inl ((lI_inj hy m1).mp (lc_eq.mp h13)))
        | (have hy1 : y ≠ -1 := fun e => h13 (lc_eq.mpr ((lI_inj hy m1).mpr e))
           refine Or.inr (Or.inr ?_)
           have h9 : ¬ (lI x ≤ lI (MAXL - y)) := fun q => h23 (lc_le.mpr q)
           rw [Int64.le_iff_toInt_le, lI_toInt (by have := hx.1; omega) hx.2, lI_toInt hmy.1 (by unfold inL MAXL at *; omega)] at h9
           omega)
    · refine T.lload_n (pc' := 17) (q_d dX4_sum_0 8 rfl) rfl rfl rfl ?_
      refine T.ldc2 (pc' := 20) (q_d dX4_sum_0 9 rfl) rfl wN_X4_41 ?_
      refine T.topl (y := lI (9223372036854775807)) (by decide) ?_
      refine T.lload_n (pc' := 21) (q_d dX4_sum_0 10 rfl) rfl rfl rfl ?_
      refine T.lsub (pc' := 22) (q_d dX4_sum_0 11 rfl) rfl hsub ?_
      refine T.lcmp (pc' := 23) (q_d dX4_sum_0 12 rfl) rfl rfl ?_
      refine T.if_le (tgt := 30) (pc' := 26) (q_d dX4_sum_0 13 rfl) rfl (by decide)  (fun h23 => ?_) (fun h23 => ?_)
      · refine T.lload_n (pc' := 31) (q_d dX4_sum_0 16 rfl) rfl rfl rfl ?_
        refine T.lload_n (pc' := 32) (q_d dX4_sum_0 17 rfl) rfl rfl rfl ?_
        refine T.ladd (pc' := 33) (q_d dX4_sum_0 18 rfl) rfl hadd ?_
        refine T.lret (q_d dX4_sum_0 19 rfl) rfl rfl rfl ?_
        refine ⟨rfl, ?_⟩
        unfold sumS
        have hy1 : y ≠ -1 := fun e => h13 (lc_eq.mpr ((lI_inj hy m1).mpr e))
        have h9 := lc_le.mp h23
        rw [Int64.le_iff_toInt_le, lI_toInt (by have := hx.1; omega) hx.2, lI_toInt hmy.1 (by unfold inL MAXL at *; omega)] at h9
        rw [if_neg]
        rintro (e | e | e)
        · exact h5 (lc_eq.mpr ((lI_inj hx m1).mpr e))
        · exact hy1 e
        · omega
      · refine T.ldc2 (pc' := 29) (q_d dX4_sum_0 14 rfl) rfl wN_X4_39 ?_
        refine T.topl (y := lI (-1)) (by decide) ?_
        refine T.lret (q_d dX4_sum_0 15 rfl) rfl rfl rfl ?_
        refine ⟨rfl, ?_⟩
        unfold sumS
        rw [if_pos]
        first
          | exact Or.inl ((lI_inj hx m1).mp (lc_eq.mp h5))
          | exact Or.inr (Or.inl ((lI_inj hy m1).mp (lc_eq.mp h13)))
          | (have hy1 : y ≠ -1 := fun e => h13 (lc_eq.mpr ((lI_inj hy m1).mpr e))
             refine Or.inr (Or.inr ?_)
             have h9 : ¬ (lI x ≤ lI (MAXL - y)) := fun q => h23 (lc_le.mpr q)
             rw [Int64.le_iff_toInt_le, lI_toInt (by have := hx.1; omega) hx.2, lI_toInt hmy.1 (by unfold inL MAXL at *; omega)] at h9
             omega)
theorem c_step (hP : M.2.2 = pX pa sw) (hs : RS M 1 s) (hw : WF b s) {w : Nat} (hw9 : w < 4294967296) {old : Nat → Int} (ho : ∀ q, q < s 0 → M.2.1 (eL sw) q = old q) (hi : ∀ q, q < s 0 → inL (old q)) :
    Ct l hdX kX mX4_step [.ref 35, .ref 1, .int (nI w)] M (fun v M' => v = none ∧ M'.1 = M.1 ∧ M'.2.2 = pX pa (!sw) ∧ ∀ q, q < s 0 → M'.2.1 (eL (!sw)) q = wkT s w old q (s 0)) := by
  refine Ct.of [some (.ref 35), some (.ref 1), some (.int (nI w)), none, none, none, none] (by decide +kernel) (fun h => absurd h (by decide)) (Nat.le_of_ble_eq_true rfl) rfl ?_
  have w7 := hw.1
  have w0 := p2_le hw.1
  have ho1 : SO 1 := Or.inl rfl
  have loop2 : ∀ d p (M' : qM), p + d = s 0 → M'.1 = M.1 → M'.2.2 = pX pa (!sw) → (∀ q, q < s 0 → M'.2.1 (eB (!sw)) q = old q) → (∀ q, q < s 0 → M'.2.1 (eL (!sw)) q = wkT s w old q p) →
      T l hdX kX mX4_step (fun v M' => v = none ∧ M'.1 = M.1 ∧ M'.2.2 = pX pa (!sw) ∧ ∀ q, q < s 0 → M'.2.1 (eL (!sw)) q = wkT s w old q (s 0)) 0 0 47 [some (.ref 35), some (.ref 1), some (.int (nI w)), some (.ref (eL sw)), some (.int (nI p)), none, none] [] M' := by
    intro d
    induction d with
    | zero =>
      intro p M' hp h1 hP' hold hnew
      have h0 : M'.1 1 0 = s 0 := by rw [h1]; exact hs.1
      have e : p = s 0 := by omega
      subst e
      refine T.iload (pc' := 49) (q_d dX4_step_0 25 rfl) rfl rfl ?_
      refine T.aload_n (pc' := 50) (q_d dX4_step_0 26 rfl) rfl rfl rfl ?_
      refine T.getI (pc' := 53) (ci := 3) (k0 := 0) (q_d dX4_step_0 27 rfl) rfl rfl (by decide) rfl inX3 (by decide) rfl wF_X4_18 h0 ?_
      refine T.icmp_geN (tgt := 129) (pc' := 56) (q_d dX4_step_0 28 rfl) rfl (by decide) (by omega) (by omega) (fun h53 => ?_) (fun h53 => ?_)
      · refine T.vret (q_d dX4_step_1 26 rfl) rfl rfl rfl ?_
        exact ⟨rfl, h1, hP', hnew⟩
      · exact absurd h53 (by omega)
    | succ d ih =>
      intro p M' hp h1 hP' hold hnew
      have h0 : M'.1 1 0 = s 0 := by rw [h1]; exact hs.1
      have hs' : RS M' 1 s := hs.mono (fun a _ _ => by rw [h1])
      have wg := goes_lt hw (show p < s 0 by omega) (c := 0)
      have loop3 : ∀ e t (M2 : qM), t + e = s 0 → M2.1 = M.1 → M2.2.2 = pX pa (!sw) → (∀ q, q < s 0 → M2.2.1 (eB (!sw)) q = old q) → (∀ q, q < s 0 → M2.2.1 (eL (!sw)) q = if q < t then wkT s w old q (p + 1) else wkT s w old q p) →
          T l hdX kX mX4_step (fun v M' => v = none ∧ M'.1 = M.1 ∧ M'.2.2 = pX pa (!sw) ∧ ∀ q, q < s 0 → M'.2.1 (eL (!sw)) q = wkT s w old q (s 0)) 0 0 67 [some (.ref 35), some (.ref 1), some (.int (nI w)), some (.ref (eL sw)), some (.int (nI p)), some (.int (nI (goes s p 0))), some (.int (nI t))] [] M2 := by
        intro e
        induction e with
        | zero =>
          intro t M2 ht j1 j2 j3 j4
          have h0 : M2.1 1 0 = s 0 := by rw [j1]; exact hs.1
          refine T.iload (pc' := 69) (q_d dX4_step_0 35 rfl) rfl rfl ?_
          refine T.aload_n (pc' := 70) (q_d dX4_step_0 36 rfl) rfl rfl rfl ?_
          refine T.getI (pc' := 73) (ci := 3) (k0 := 0) (q_d dX4_step_0 37 rfl) rfl rfl (by decide) rfl inX3 (by decide) rfl wF_X4_18 h0 ?_
          refine T.icmp_geN (tgt := 123) (pc' := 76) (q_d dX4_step_0 38 rfl) rfl (by decide) (by omega) (by omega) (fun h73 => ?_) (fun h73 => ?_)
          · refine T.iinc (pc' := 126) (q_d dX4_step_1 24 rfl) rfl rfl (nN_p _ 1) (by decide) rfl rfl ?_
            refine T.goto (tgt := 47) (q_d dX4_step_1 25 rfl) (by decide) ?_
            refine T.drop (loc' := [some (.ref 35), some (.ref 1), some (.int (nI w)), some (.ref (eL sw)), some (.int (nI (p + 1))), none, none]) ⟨rfl, rfl, rfl, rfl, rfl, trivial⟩ ?_
            exact ih (p + 1) M2 (by omega) j1 j2 j3 (fun q hq => by rw [j4 q hq, if_pos (by omega)])
          · exact absurd h73 (by omega)
        | succ e ih3 =>
          intro t M2 ht j1 j2 j3 j4
          have h0 : M2.1 1 0 = s 0 := by rw [j1]; exact hs.1
          have g9 := and1_lt (goes s p 0 >>> t)
          have e4 := j4 t (by omega)
          rw [if_neg (Nat.lt_irrefl _)] at e4
          have hnext : (¬ (goes s p 0 >>> t &&& 1 = 1 ∧ t ≠ w)) → T l hdX kX mX4_step (fun v M' => v = none ∧ M'.1 = M.1 ∧ M'.2.2 = pX pa (!sw) ∧ ∀ q, q < s 0 → M'.2.1 (eL (!sw)) q = wkT s w old q (s 0)) 0 0 67 [some (.ref 35), some (.ref 1), some (.int (nI w)), some (.ref (eL sw)), some (.int (nI p)), some (.int (nI (goes s p 0))), some (.int (nI (t + 1)))] [] M2 := by
            intro hn
            refine ih3 (t + 1) M2 (by omega) j1 j2 j3 (fun q hq => ?_)
            rw [j4 q hq]
            by_cases e5 : q = t
            · subst e5
              rw [if_neg (Nat.lt_irrefl _), if_pos (Nat.lt_succ_self _), wkT, if_neg hn]
            · by_cases e6 : q < t
              · rw [if_pos e6, if_pos (by omega)]
              · rw [if_neg e6, if_neg (by omega)]
          refine T.iload (pc' := 69) (q_d dX4_step_0 35 rfl) rfl rfl ?_
          refine T.aload_n (pc' := 70) (q_d dX4_step_0 36 rfl) rfl rfl rfl ?_
          refine T.getI (pc' := 73) (ci := 3) (k0 := 0) (q_d dX4_step_0 37 rfl) rfl rfl (by decide) rfl inX3 (by decide) rfl wF_X4_18 h0 ?_
          refine T.icmp_geN (tgt := 123) (pc' := 76) (q_d dX4_step_0 38 rfl) rfl (by decide) (by omega) (by omega) (fun h73 => ?_) (fun h73 => ?_)
          · exact absurd h73 (by omega)
          · refine T.iload (pc' := 78) (q_d dX4_step_0 39 rfl) rfl rfl ?_
            refine T.iload (pc' := 80) (q_d dX4_step_1 0 rfl) rfl rfl ?_
            refine T.ishr (pc' := 81) (q_d dX4_step_1 1 rfl) rfl (nN_shr (by omega) (by omega)) ?_
            refine T.iconst (pc' := 82) (v := nI 1) (q_d dX4_step_1 2 rfl) rfl (by decide) ?_
            refine T.iand (pc' := 83) (q_d dX4_step_1 3 rfl) rfl (nN_and _ _) ?_
            refine T.iconst (pc' := 84) (v := nI 1) (q_d dX4_step_1 4 rfl) rfl (by decide) ?_
            refine T.icmp_neN (tgt := 117) (pc' := 87) (q_d dX4_step_1 5 rfl) rfl (by decide) (by omega) (by omega) (fun h84 => ?_) (fun h84 => ?_)
            · refine T.iinc (pc' := 120) (q_d dX4_step_1 22 rfl) rfl rfl (nN_p _ 1) (by decide) rfl rfl ?_
              refine T.goto (tgt := 67) (q_d dX4_step_1 23 rfl) (by decide) ?_
              first
                | exact hnext (fun q => h84 q.1)
                | exact hnext (fun q => q.2 h90)
                | refine ih3 (t + 1) _ (by omega) j1 j2 (fun q hq => ?_) (fun q hq => ?_)
                  · rw [qJ_ne (Or.inl (Ne.symm (eL_ne _)))]; exact j3 q hq
                  · by_cases e5 : q = t
                    · subst e5
                      rw [qJ_eq, if_pos (Nat.lt_succ_self _), wkT, if_pos ⟨h84, h90⟩]
                    · rw [qJ_ne (Or.inr e5), j4 q hq]
                      by_cases e6 : q < t
                      · rw [if_pos e6, if_pos (by omega)]
                      · rw [if_neg e6, if_neg (by omega)]
            · refine T.iload (pc' := 89) (q_d dX4_step_1 6 rfl) rfl rfl ?_
              refine T.iload_n (pc' := 90) (q_d dX4_step_1 7 rfl) rfl rfl rfl ?_
              refine T.icmp_eqN (tgt := 117) (pc' := 93) (q_d dX4_step_1 8 rfl) rfl (by decide) (by omega) (by omega) (fun h90 => ?_) (fun h90 => ?_)
              · refine T.iinc (pc' := 120) (q_d dX4_step_1 22 rfl) rfl rfl (nN_p _ 1) (by decide) rfl rfl ?_
                refine T.goto (tgt := 67) (q_d dX4_step_1 23 rfl) (by decide) ?_
                first
                  | exact hnext (fun q => h84 q.1)
                  | exact hnext (fun q => q.2 h90)
                  | refine ih3 (t + 1) _ (by omega) j1 j2 (fun q hq => ?_) (fun q hq => ?_)
                    · rw [qJ_ne (Or.inl (Ne.symm (eL_ne _)))]; exact j3 q hq
                    · by_cases e5 : q = t
                      · subst e5
                        rw [qJ_eq, if_pos (Nat.lt_succ_self _), wkT, if_pos ⟨h84, h90⟩]
                      · rw [qJ_ne (Or.inr e5), j4 q hq]
                        by_cases e6 : q < t
                        · rw [if_pos e6, if_pos (by omega)]
                        · rw [if_neg e6, if_neg (by omega)]
              · refine T.aload_n (pc' := 94) (q_d dX4_step_1 9 rfl) rfl rfl rfl ?_
                refine T.getR (pc' := 97) (ci := 4) (k0 := 0) (q_d dX4_step_1 10 rfl) rfl rfl (by decide) rfl inX4 (by decide) rfl wF_X4_9 (rP j2 pX_e0) ?_
                refine T.iload (pc' := 99) (q_d dX4_step_1 11 rfl) rfl rfl ?_
                refine T.aload_n (pc' := 100) (q_d dX4_step_1 12 rfl) rfl rfl rfl ?_
                refine T.getR (pc' := 103) (ci := 4) (k0 := 0) (q_d dX4_step_1 13 rfl) rfl rfl (by decide) rfl inX4 (by decide) rfl wF_X4_9 (rP j2 pX_e0) ?_
                refine T.iload (pc' := 105) (q_d dX4_step_1 14 rfl) rfl rfl ?_
                refine T.lald (pc' := 106) (q_d dX4_step_1 15 rfl) rfl (eL_hd (!sw)) (eL_lt (!sw)) rfl (by omega) (by decide) e4 ?_
                refine T.aload_n (pc' := 107) (q_d dX4_step_1 16 rfl) rfl rfl rfl ?_
                refine T.getR (pc' := 110) (ci := 4) (k0 := 1) (q_d dX4_step_1 17 rfl) rfl rfl (by decide) rfl inX4 (by decide) rfl wF_X4_15 (rP j2 pX_e1) ?_
                refine T.iload (pc' := 112) (q_d dX4_step_1 18 rfl) rfl rfl ?_
                refine T.lald (pc' := 113) (q_d dX4_step_1 19 rfl) rfl (eB_hd (!sw)) (eB_lt (!sw)) rfl (by omega) (by decide) (j3 p (by omega)) ?_
                refine T.callS (pc' := 116) (q_d dX4_step_1 20 rfl) rfl uX4_sum wM_X4_35 (c_sum (wkT_in hi p (by omega)) (hi p (by omega))) rfl rfl (by decide) (Nat.le_of_ble_eq_true rfl) rfl rfl (fun _ => rfl) ?_
                rintro _ _ ⟨rfl, rfl⟩
                dsimp only [Option.toList, List.cons_append, List.nil_append, List.append_nil]
                refine T.last (pc' := 117) (q_d dX4_step_1 21 rfl) rfl (eL_hd (!sw)) (eL_lt (!sw)) rfl (by omega) (by decide) ?_
                refine T.iinc (pc' := 120) (q_d dX4_step_1 22 rfl) rfl rfl (nN_p _ 1) (by decide) rfl rfl ?_
                refine T.goto (tgt := 67) (q_d dX4_step_1 23 rfl) (by decide) ?_
                first
                  | exact hnext (fun q => h84 q.1)
                  | exact hnext (fun q => q.2 h90)
                  | refine ih3 (t + 1) _ (by omega) j1 j2 (fun q hq => ?_) (fun q hq => ?_)
                    · rw [qJ_ne (Or.inl (Ne.symm (eL_ne _)))]; exact j3 q hq
                    · by_cases e5 : q = t
                      · subst e5
                        rw [qJ_eq, if_pos (Nat.lt_succ_self _), wkT, if_pos ⟨h84, h90⟩]
                      · rw [qJ_ne (Or.inr e5), j4 q hq]
                        by_cases e6 : q < t
                        · rw [if_pos e6, if_pos (by omega)]
                        · rw [if_neg e6, if_neg (by omega)]
      refine T.iload (pc' := 49) (q_d dX4_step_0 25 rfl) rfl rfl ?_
      refine T.aload_n (pc' := 50) (q_d dX4_step_0 26 rfl) rfl rfl rfl ?_
      refine T.getI (pc' := 53) (ci := 3) (k0 := 0) (q_d dX4_step_0 27 rfl) rfl rfl (by decide) rfl inX3 (by decide) rfl wF_X4_18 h0 ?_
      refine T.icmp_geN (tgt := 129) (pc' := 56) (q_d dX4_step_0 28 rfl) rfl (by decide) (by omega) (by omega) (fun h53 => ?_) (fun h53 => ?_)
      · exact absurd h53 (by omega)
      · refine T.aload_n (pc' := 57) (q_d dX4_step_0 29 rfl) rfl rfl rfl ?_
        refine T.iload (pc' := 59) (q_d dX4_step_0 30 rfl) rfl rfl ?_
        refine T.callV (pc' := 62) (ci := 3) (q_d dX4_step_0 31 rfl) rfl uX3_reach wM_X4_31 (c_reach ho1 hP' hs' hw (show p < s 0 by omega)) rfl rfl (by decide) rfl rfl (by decide) (Nat.le_of_ble_eq_true rfl) rfl rfl (fun _ => rfl) ?_
        rintro _ _ ⟨rfl, rfl⟩
        dsimp only [Option.toList, List.cons_append, List.nil_append, List.append_nil]
        refine T.istore (pc' := 64) (q_d dX4_step_0 32 rfl) rfl (by decide) rfl rfl ?_
        refine T.iconst (pc' := 65) (v := nI 0) (q_d dX4_step_0 33 rfl) rfl (by decide) ?_
        refine T.istore (pc' := 67) (q_d dX4_step_0 34 rfl) rfl (by decide) rfl rfl ?_
        exact loop3 (s 0) 0 M' (by omega) h1 hP' hold (fun q hq => by rw [hnew q hq, if_neg (by omega)])
  have loop1 : ∀ d k (M' : qM), k + d = s 0 → M'.1 = M.1 → M'.2.2 = pX pa (!sw) → (∀ q, q < s 0 → M'.2.1 (eB (!sw)) q = old q) → (∀ q, q < k → M'.2.1 (eL (!sw)) q = 0) →
      T l hdX kX mX4_step (fun v M' => v = none ∧ M'.1 = M.1 ∧ M'.2.2 = pX pa (!sw) ∧ ∀ q, q < s 0 → M'.2.1 (eL (!sw)) q = wkT s w old q (s 0)) 0 0 21 [some (.ref 35), some (.ref 1), some (.int (nI w)), some (.ref (eL sw)), some (.int (nI k)), none, none] [] M' := by
    intro d
    induction d with
    | zero =>
      intro k M' hk h1 hP' hold hz
      have h0 : M'.1 1 0 = s 0 := by rw [h1]; exact hs.1
      refine T.iload (pc' := 23) (q_d dX4_step_0 12 rfl) rfl rfl ?_
      refine T.aload_n (pc' := 24) (q_d dX4_step_0 13 rfl) rfl rfl rfl ?_
      refine T.getI (pc' := 27) (ci := 3) (k0 := 0) (q_d dX4_step_0 14 rfl) rfl rfl (by decide) rfl inX3 (by decide) rfl wF_X4_18 h0 ?_
      refine T.icmp_geN (tgt := 44) (pc' := 30) (q_d dX4_step_0 15 rfl) rfl (by decide) (by omega) (by omega) (fun h27 => ?_) (fun h27 => ?_)
      · refine T.iconst (pc' := 45) (v := nI 0) (q_d dX4_step_0 23 rfl) rfl (by decide) ?_
        refine T.istore (pc' := 47) (q_d dX4_step_0 24 rfl) rfl (by decide) rfl rfl ?_
        exact loop2 (s 0) 0 M' (by omega) h1 hP' hold (fun q hq => by rw [hz q (by omega)]; rfl)
      · exact absurd h27 (by omega)
    | succ d ih =>
      intro k M' hk h1 hP' hold hz
      have h0 : M'.1 1 0 = s 0 := by rw [h1]; exact hs.1
      refine T.iload (pc' := 23) (q_d dX4_step_0 12 rfl) rfl rfl ?_
      refine T.aload_n (pc' := 24) (q_d dX4_step_0 13 rfl) rfl rfl rfl ?_
      refine T.getI (pc' := 27) (ci := 3) (k0 := 0) (q_d dX4_step_0 14 rfl) rfl rfl (by decide) rfl inX3 (by decide) rfl wF_X4_18 h0 ?_
      refine T.icmp_geN (tgt := 44) (pc' := 30) (q_d dX4_step_0 15 rfl) rfl (by decide) (by omega) (by omega) (fun h27 => ?_) (fun h27 => ?_)
      · exact absurd h27 (by omega)
      · refine T.aload_n (pc' := 31) (q_d dX4_step_0 16 rfl) rfl rfl rfl ?_
        refine T.getR (pc' := 34) (ci := 4) (k0 := 0) (q_d dX4_step_0 17 rfl) rfl rfl (by decide) rfl inX4 (by decide) rfl wF_X4_9 (rP hP' pX_e0) ?_
        refine T.iload (pc' := 36) (q_d dX4_step_0 18 rfl) rfl rfl ?_
        refine T.lconst (pc' := 37) (v := lI 0) (q_d dX4_step_0 19 rfl) rfl (by decide) ?_
        refine T.last (pc' := 38) (q_d dX4_step_0 20 rfl) rfl (eL_hd (!sw)) (eL_lt (!sw)) rfl (by omega) (by decide) ?_
        refine T.iinc (pc' := 41) (q_d dX4_step_0 21 rfl) rfl rfl (nN_p _ 1) (by decide) rfl rfl ?_
        refine T.goto (tgt := 21) (q_d dX4_step_0 22 rfl) (by decide) ?_
        refine ih (k + 1) _ (by omega) h1 hP' (fun q hq => ?_) (fun q hq => ?_)
        · rw [qJ_ne (Or.inl (Ne.symm (eL_ne _)))]; exact hold q hq
        · by_cases e : q = k
          · subst e; exact qJ_eq
          · rw [qJ_ne (Or.inr e)]; exact hz q (by omega)
  refine T.aload_n (pc' := 1) (q_d dX4_step_0 0 rfl) rfl rfl rfl ?_
  refine T.getR (pc' := 4) (ci := 4) (k0 := 0) (q_d dX4_step_0 1 rfl) rfl rfl (by decide) rfl inX4 (by decide) rfl wF_X4_9 (rP hP pX_e0) ?_
  refine T.astore_n (pc' := 5) (q_d dX4_step_0 2 rfl) rfl rfl (by decide) rfl rfl ?_
  refine T.aload_n (pc' := 6) (q_d dX4_step_0 3 rfl) rfl rfl rfl ?_
  refine T.aload_n (pc' := 7) (q_d dX4_step_0 4 rfl) rfl rfl rfl ?_
  refine T.getR (pc' := 10) (ci := 4) (k0 := 1) (q_d dX4_step_0 5 rfl) rfl rfl (by decide) rfl inX4 (by decide) rfl wF_X4_15 (rP hP pX_e1) ?_
  refine T.putR (pc' := 13) (ci := 4) (k0 := 0) (q_d dX4_step_0 6 rfl) rfl rfl (by decide) rfl inX4 tyX4 tyX4_ok nmX4 (by decide) rfl wF_X4_9 rfl (fun _ => rfl) (fun _ => rfl) ?_
  refine T.aload_n (pc' := 14) (q_d dX4_step_0 7 rfl) rfl rfl rfl ?_
  refine T.aload_n (pc' := 15) (q_d dX4_step_0 8 rfl) rfl rfl rfl ?_
  refine T.putR (pc' := 18) (ci := 4) (k0 := 1) (q_d dX4_step_0 9 rfl) rfl rfl (by decide) rfl inX4 tyX4 tyX4_ok nmX4 (by decide) rfl wF_X4_15 rfl (fun _ => rfl) (fun _ => rfl) ?_
  refine T.iconst (pc' := 19) (v := nI 0) (q_d dX4_step_0 10 rfl) rfl (by decide) ?_
  refine T.istore (pc' := 21) (q_d dX4_step_0 11 rfl) rfl (by decide) rfl rfl ?_
  refine loop1 (s 0) 0 _ (by omega) rfl (pX_sw hP) (fun q hq => ?_) (fun q hq => absurd hq (by omega))
  show M.2.1 (eB (!sw)) q = old q
  rw [eB_not]; exact ho q hq
theorem c_walk (hP : M.2.2 = pX pa sw) (hs : RS M 1 s) (hw : WF b s) {w n : Nat} (hw9 : w < 4294967296) (hn : n ≤ 40) :
    Ct l hdX kX mX4_walk [.ref 35, .ref 1, .int (nI n), .int (nI w)] M (fun v M' => v = none ∧ M'.1 = M.1 ∧ ∃ sw', M'.2.2 = pX pa sw' ∧ ∀ q, q < s 0 → M'.2.1 (eL sw') q = wkN s w n q) := by
  refine Ct.of [some (.ref 35), some (.ref 1), some (.int (nI n)), some (.int (nI w)), none, none] (by decide +kernel) (fun h => absurd h (by decide)) (Nat.le_of_ble_eq_true rfl) rfl ?_
  have w7 := hw.1
  have w0 := p2_le hw.1
  have w1 := hw.2.1
  have loopB : ∀ d k sw' (M' : qM), k + d = n → M'.1 = M.1 → M'.2.2 = pX pa sw' → (∀ q, q < s 0 → M'.2.1 (eL sw') q = wkN s w k q) →
      T l hdX kX mX4_walk (fun v M' => v = none ∧ M'.1 = M.1 ∧ ∃ sw', M'.2.2 = pX pa sw' ∧ ∀ q, q < s 0 → M'.2.1 (eL sw') q = wkN s w n q) 0 0 64 [some (.ref 35), some (.ref 1), some (.int (nI n)), some (.int (nI w)), some (.int (nI k)), none] [] M' := by
    intro d
    induction d with
    | zero =>
      intro k sw' M' hk h1 hP' hc
      have e : k = n := by omega
      subst e
      refine T.iload (pc' := 66) (q_d dX4_walk_0 34 rfl) rfl rfl ?_
      refine T.iload_n (pc' := 67) (q_d dX4_walk_0 35 rfl) rfl rfl rfl ?_
      refine T.icmp_geN (tgt := 82) (pc' := 70) (q_d dX4_walk_0 36 rfl) rfl (by decide) (by omega) (by omega) (fun h67 => ?_) (fun h67 => ?_)
      · refine T.vret (q_d dX4_walk_1 3 rfl) rfl rfl rfl ?_
        exact ⟨rfl, h1, sw', hP', hc⟩
      · exact absurd h67 (by omega)
    | succ d ih =>
      intro k sw' M' hk h1 hP' hc
      have hs' : RS M' 1 s := hs.mono (fun a _ _ => by rw [h1])
      refine T.iload (pc' := 66) (q_d dX4_walk_0 34 rfl) rfl rfl ?_
      refine T.iload_n (pc' := 67) (q_d dX4_walk_0 35 rfl) rfl rfl rfl ?_
      refine T.icmp_geN (tgt := 82) (pc' := 70) (q_d dX4_walk_0 36 rfl) rfl (by decide) (by omega) (by omega) (fun h67 => ?_) (fun h67 => ?_)
      · exact absurd h67 (by omega)
      · refine T.aload_n (pc' := 71) (q_d dX4_walk_0 37 rfl) rfl rfl rfl ?_
        refine T.aload_n (pc' := 72) (q_d dX4_walk_0 38 rfl) rfl rfl rfl ?_
        refine T.iload_n (pc' := 73) (q_d dX4_walk_0 39 rfl) rfl rfl rfl ?_
        refine T.callV (pc' := 76) (ci := 4) (q_d dX4_walk_1 0 rfl) rfl uX4_step wM_X4_27 (c_step hP' hs' hw hw9 hc (fun q _ => wkN_in k q)) rfl rfl (by decide) rfl rfl (by decide) (Nat.le_of_ble_eq_true rfl) rfl rfl (fun _ => rfl) ?_
        rintro _ M2 ⟨rfl, f1, f2, f3⟩
        dsimp only [Option.toList, List.cons_append, List.nil_append, List.append_nil]
        refine T.iinc (pc' := 79) (q_d dX4_walk_1 1 rfl) rfl rfl (nN_p _ 1) (by decide) rfl rfl ?_
        refine T.goto (tgt := 64) (q_d dX4_walk_1 2 rfl) (by decide) ?_
        exact ih (k + 1) (!sw') M2 (by omega) (f1.trans h1) f2 f3
  have loopA : ∀ d k (M' : qM), k + d = s 0 → M'.1 = M.1 → M'.2.2 = pX pa sw → (∀ q, q < k → M'.2.1 (eL sw) q = wkN s w 0 q) →
      T l hdX kX mX4_walk (fun v M' => v = none ∧ M'.1 = M.1 ∧ ∃ sw', M'.2.2 = pX pa sw' ∧ ∀ q, q < s 0 → M'.2.1 (eL sw') q = wkN s w n q) 0 0 3 [some (.ref 35), some (.ref 1), some (.int (nI n)), some (.int (nI w)), some (.int (nI k)), none] [] M' := by
    intro d
    induction d with
    | zero =>
      intro k M' hk h1 hP' hc
      have h0 : M'.1 1 0 = s 0 := by rw [h1]; exact hs.1
      refine T.iload (pc' := 5) (q_d dX4_walk_0 2 rfl) rfl rfl ?_
      refine T.aload_n (pc' := 6) (q_d dX4_walk_0 3 rfl) rfl rfl rfl ?_
      refine T.getI (pc' := 9) (ci := 3) (k0 := 0) (q_d dX4_walk_0 4 rfl) rfl rfl (by decide) rfl inX3 (by decide) rfl wF_X4_18 h0 ?_
      refine T.icmp_geN (tgt := 61) (pc' := 12) (q_d dX4_walk_0 5 rfl) rfl (by decide) (by omega) (by omega) (fun h9 => ?_) (fun h9 => ?_)
      · refine T.iconst (pc' := 62) (v := nI 0) (q_d dX4_walk_0 32 rfl) rfl (by decide) ?_
        refine T.istore (pc' := 64) (q_d dX4_walk_0 33 rfl) rfl (by decide) rfl rfl ?_
        exact loopB n 0 sw M' (by omega) h1 hP' (fun q hq => hc q (by omega))
      · exact absurd h9 (by omega)
    | succ d ih =>
      intro k M' hk h1 hP' hc
      have h0 : M'.1 1 0 = s 0 := by rw [h1]; exact hs.1
      have hb : M'.1 1 5 = s 1 := by rw [h1]; exact hs.2.1
      have g9 := and1_lt (s 1 >>> k)
      refine T.iload (pc' := 5) (q_d dX4_walk_0 2 rfl) rfl rfl ?_
      refine T.aload_n (pc' := 6) (q_d dX4_walk_0 3 rfl) rfl rfl rfl ?_
      refine T.getI (pc' := 9) (ci := 3) (k0 := 0) (q_d dX4_walk_0 4 rfl) rfl rfl (by decide) rfl inX3 (by decide) rfl wF_X4_18 h0 ?_
      refine T.icmp_geN (tgt := 61) (pc' := 12) (q_d dX4_walk_0 5 rfl) rfl (by decide) (by omega) (by omega) (fun h9 => ?_) (fun h9 => ?_)
      · exact absurd h9 (by omega)
      · refine T.aload_n (pc' := 13) (q_d dX4_walk_0 6 rfl) rfl rfl rfl ?_
        refine T.getI (pc' := 16) (ci := 3) (k0 := 5) (q_d dX4_walk_0 7 rfl) rfl rfl (by decide) rfl inX3 (by decide) rfl wF_X4_24 hb ?_
        refine T.iload (pc' := 18) (q_d dX4_walk_0 8 rfl) rfl rfl ?_
        refine T.ishr (pc' := 19) (q_d dX4_walk_0 9 rfl) rfl (nN_shr (by omega) (by omega)) ?_
        refine T.iconst (pc' := 20) (v := nI 1) (q_d dX4_walk_0 10 rfl) rfl (by decide) ?_
        refine T.iand (pc' := 21) (q_d dX4_walk_0 11 rfl) rfl (nN_and _ _) ?_
        refine T.iconst (pc' := 22) (v := nI 1) (q_d dX4_walk_0 12 rfl) rfl (by decide) ?_
        refine T.icmp_neN (tgt := 29) (pc' := 25) (q_d dX4_walk_0 13 rfl) rfl (by decide) (by omega) (by omega) (fun h22 => ?_) (fun h22 => ?_)
        · refine T.iconst (pc' := 30) (v := nI 0) (q_d dX4_walk_0 16 rfl) rfl (by decide) ?_
          refine T.istore (pc' := 32) (q_d dX4_walk_0 17 rfl) rfl (by decide) rfl rfl ?_
          refine T.aload_n (pc' := 33) (q_d dX4_walk_0 18 rfl) rfl rfl rfl ?_
          refine T.getR (pc' := 36) (ci := 4) (k0 := 0) (q_d dX4_walk_0 19 rfl) rfl rfl (by decide) rfl inX4 (by decide) rfl wF_X4_9 (rP hP' pX_e0) ?_
          refine T.iload (pc' := 38) (q_d dX4_walk_0 20 rfl) rfl rfl ?_
          refine T.iload (pc' := 40) (q_d dX4_walk_0 21 rfl) rfl rfl ?_
          refine T.if_eqN (tgt := 53) (pc' := 43) (q_d dX4_walk_0 22 rfl) rfl (by decide) (by omega) (fun h40 => ?_) (fun h40 => ?_)
          · refine T.lconst (pc' := 54) (v := lI 0) (q_d dX4_walk_0 28 rfl) rfl (by decide) ?_
            refine T.last (pc' := 55) (q_d dX4_walk_0 29 rfl) rfl (eL_hd sw) (eL_lt sw) rfl (by omega) (by decide) ?_
            refine T.iinc (pc' := 58) (q_d dX4_walk_0 30 rfl) rfl rfl (nN_p _ 1) (by decide) rfl rfl ?_
            refine T.goto (tgt := 3) (q_d dX4_walk_0 31 rfl) (by decide) ?_
            refine T.drop (loc' := [some (.ref 35), some (.ref 1), some (.int (nI n)), some (.int (nI w)), some (.int (nI (k + 1))), none]) ⟨rfl, rfl, rfl, rfl, rfl, trivial⟩ ?_
            refine ih (k + 1) _ (by omega) h1 hP' (fun q hq => ?_)
            by_cases e : q = k
            · subst e
              rw [qJ_eq, wkN]
              first
                | (rw [if_pos ⟨h22, h46⟩]; done)
                | (rw [if_neg (fun z => h22 z.1)]; done)
                | (rw [if_neg (fun z => z.2 h46)]; done)
                | exact absurd h40 (by decide)
                | exact absurd rfl h40
            · rw [qJ_ne (Or.inr e)]; exact hc q (by omega)
          · refine T.iload (pc' := 45) (q_d dX4_walk_0 23 rfl) rfl rfl ?_
            refine T.iload_n (pc' := 46) (q_d dX4_walk_0 24 rfl) rfl rfl rfl ?_
            refine T.icmp_eqN (tgt := 53) (pc' := 49) (q_d dX4_walk_0 25 rfl) rfl (by decide) (by omega) (by omega) (fun h46 => ?_) (fun h46 => ?_)
            · refine T.lconst (pc' := 54) (v := lI 0) (q_d dX4_walk_0 28 rfl) rfl (by decide) ?_
              refine T.last (pc' := 55) (q_d dX4_walk_0 29 rfl) rfl (eL_hd sw) (eL_lt sw) rfl (by omega) (by decide) ?_
              refine T.iinc (pc' := 58) (q_d dX4_walk_0 30 rfl) rfl rfl (nN_p _ 1) (by decide) rfl rfl ?_
              refine T.goto (tgt := 3) (q_d dX4_walk_0 31 rfl) (by decide) ?_
              refine T.drop (loc' := [some (.ref 35), some (.ref 1), some (.int (nI n)), some (.int (nI w)), some (.int (nI (k + 1))), none]) ⟨rfl, rfl, rfl, rfl, rfl, trivial⟩ ?_
              refine ih (k + 1) _ (by omega) h1 hP' (fun q hq => ?_)
              by_cases e : q = k
              · subst e
                rw [qJ_eq, wkN]
                first
                  | (rw [if_pos ⟨h22, h46⟩]; done)
                  | (rw [if_neg (fun z => h22 z.1)]; done)
                  | (rw [if_neg (fun z => z.2 h46)]; done)
                  | exact absurd h40 (by decide)
                  | exact absurd rfl h40
              · rw [qJ_ne (Or.inr e)]; exact hc q (by omega)
            · refine T.lconst (pc' := 50) (v := lI 1) (q_d dX4_walk_0 26 rfl) rfl (by decide) ?_
              refine T.goto (tgt := 54) (q_d dX4_walk_0 27 rfl) (by decide) ?_
              refine T.last (pc' := 55) (q_d dX4_walk_0 29 rfl) rfl (eL_hd sw) (eL_lt sw) rfl (by omega) (by decide) ?_
              refine T.iinc (pc' := 58) (q_d dX4_walk_0 30 rfl) rfl rfl (nN_p _ 1) (by decide) rfl rfl ?_
              refine T.goto (tgt := 3) (q_d dX4_walk_0 31 rfl) (by decide) ?_
              refine T.drop (loc' := [some (.ref 35), some (.ref 1), some (.int (nI n)), some (.int (nI w)), some (.int (nI (k + 1))), none]) ⟨rfl, rfl, rfl, rfl, rfl, trivial⟩ ?_
              refine ih (k + 1) _ (by omega) h1 hP' (fun q hq => ?_)
              by_cases e : q = k
              · subst e
                rw [qJ_eq, wkN]
                first
                  | (rw [if_pos ⟨h22, h46⟩]; done)
                  | (rw [if_neg (fun z => h22 z.1)]; done)
                  | (rw [if_neg (fun z => z.2 h46)]; done)
                  | exact absurd h40 (by decide)
                  | exact absurd rfl h40
              · rw [qJ_ne (Or.inr e)]; exact hc q (by omega)
        · refine T.iconst (pc' := 26) (v := nI 1) (q_d dX4_walk_0 14 rfl) rfl (by decide) ?_
          refine T.goto (tgt := 30) (q_d dX4_walk_0 15 rfl) (by decide) ?_
          refine T.istore (pc' := 32) (q_d dX4_walk_0 17 rfl) rfl (by decide) rfl rfl ?_
          refine T.aload_n (pc' := 33) (q_d dX4_walk_0 18 rfl) rfl rfl rfl ?_
          refine T.getR (pc' := 36) (ci := 4) (k0 := 0) (q_d dX4_walk_0 19 rfl) rfl rfl (by decide) rfl inX4 (by decide) rfl wF_X4_9 (rP hP' pX_e0) ?_
          refine T.iload (pc' := 38) (q_d dX4_walk_0 20 rfl) rfl rfl ?_
          refine T.iload (pc' := 40) (q_d dX4_walk_0 21 rfl) rfl rfl ?_
          refine T.if_eqN (tgt := 53) (pc' := 43) (q_d dX4_walk_0 22 rfl) rfl (by decide) (by omega) (fun h40 => ?_) (fun h40 => ?_)
          · refine T.lconst (pc' := 54) (v := lI 0) (q_d dX4_walk_0 28 rfl) rfl (by decide) ?_
            refine T.last (pc' := 55) (q_d dX4_walk_0 29 rfl) rfl (eL_hd sw) (eL_lt sw) rfl (by omega) (by decide) ?_
            refine T.iinc (pc' := 58) (q_d dX4_walk_0 30 rfl) rfl rfl (nN_p _ 1) (by decide) rfl rfl ?_
            refine T.goto (tgt := 3) (q_d dX4_walk_0 31 rfl) (by decide) ?_
            refine T.drop (loc' := [some (.ref 35), some (.ref 1), some (.int (nI n)), some (.int (nI w)), some (.int (nI (k + 1))), none]) ⟨rfl, rfl, rfl, rfl, rfl, trivial⟩ ?_
            refine ih (k + 1) _ (by omega) h1 hP' (fun q hq => ?_)
            by_cases e : q = k
            · subst e
              rw [qJ_eq, wkN]
              first
                | (rw [if_pos ⟨h22, h46⟩]; done)
                | (rw [if_neg (fun z => h22 z.1)]; done)
                | (rw [if_neg (fun z => z.2 h46)]; done)
                | exact absurd h40 (by decide)
                | exact absurd rfl h40
            · rw [qJ_ne (Or.inr e)]; exact hc q (by omega)
          · refine T.iload (pc' := 45) (q_d dX4_walk_0 23 rfl) rfl rfl ?_
            refine T.iload_n (pc' := 46) (q_d dX4_walk_0 24 rfl) rfl rfl rfl ?_
            refine T.icmp_eqN (tgt := 53) (pc' := 49) (q_d dX4_walk_0 25 rfl) rfl (by decide) (by omega) (by omega) (fun h46 => ?_) (fun h46 => ?_)
            · refine T.lconst (pc' := 54) (v := lI 0) (q_d dX4_walk_0 28 rfl) rfl (by decide) ?_
              refine T.last (pc' := 55) (q_d dX4_walk_0 29 rfl) rfl (eL_hd sw) (eL_lt sw) rfl (by omega) (by decide) ?_
              refine T.iinc (pc' := 58) (q_d dX4_walk_0 30 rfl) rfl rfl (nN_p _ 1) (by decide) rfl rfl ?_
              refine T.goto (tgt := 3) (q_d dX4_walk_0 31 rfl) (by decide) ?_
              refine T.drop (loc' := [some (.ref 35), some (.ref 1), some (.int (nI n)), some (.int (nI w)), some (.int (nI (k + 1))), none]) ⟨rfl, rfl, rfl, rfl, rfl, trivial⟩ ?_
              refine ih (k + 1) _ (by omega) h1 hP' (fun q hq => ?_)
              by_cases e : q = k
              · subst e
                rw [qJ_eq, wkN]
                first
                  | (rw [if_pos ⟨h22, h46⟩]; done)
                  | (rw [if_neg (fun z => h22 z.1)]; done)
                  | (rw [if_neg (fun z => z.2 h46)]; done)
                  | exact absurd h40 (by decide)
                  | exact absurd rfl h40
              · rw [qJ_ne (Or.inr e)]; exact hc q (by omega)
            · refine T.lconst (pc' := 50) (v := lI 1) (q_d dX4_walk_0 26 rfl) rfl (by decide) ?_
              refine T.goto (tgt := 54) (q_d dX4_walk_0 27 rfl) (by decide) ?_
              refine T.last (pc' := 55) (q_d dX4_walk_0 29 rfl) rfl (eL_hd sw) (eL_lt sw) rfl (by omega) (by decide) ?_
              refine T.iinc (pc' := 58) (q_d dX4_walk_0 30 rfl) rfl rfl (nN_p _ 1) (by decide) rfl rfl ?_
              refine T.goto (tgt := 3) (q_d dX4_walk_0 31 rfl) (by decide) ?_
              refine T.drop (loc' := [some (.ref 35), some (.ref 1), some (.int (nI n)), some (.int (nI w)), some (.int (nI (k + 1))), none]) ⟨rfl, rfl, rfl, rfl, rfl, trivial⟩ ?_
              refine ih (k + 1) _ (by omega) h1 hP' (fun q hq => ?_)
              by_cases e : q = k
              · subst e
                rw [qJ_eq, wkN]
                first
                  | (rw [if_pos ⟨h22, h46⟩]; done)
                  | (rw [if_neg (fun z => h22 z.1)]; done)
                  | (rw [if_neg (fun z => z.2 h46)]; done)
                  | exact absurd h40 (by decide)
                  | exact absurd rfl h40
              · rw [qJ_ne (Or.inr e)]; exact hc q (by omega)
  refine T.iconst (pc' := 1) (v := nI 0) (q_d dX4_walk_0 0 rfl) rfl (by decide) ?_
  refine T.istore (pc' := 3) (q_d dX4_walk_0 1 rfl) rfl (by decide) rfl rfl ?_
  exact loopA (s 0) 0 M (by omega) rfl hP (fun q hq => absurd hq (by omega))
theorem c_total (hP : M.2.2 = pX pa sw) {n : Nat} (hn : n ≤ 7) {wk : Nat → Int} (hc : ∀ q, q < n → M.2.1 (eL sw) q = wk q) (hi : ∀ q, q < n → inL (wk q)) :
    Ct l hdX kX mX4_total [.ref 35, .int (nI n)] M (RLg M (totS wk n)) := by
  refine Ct.of [some (.ref 35), some (.int (nI n)), none, none, none] (by decide +kernel) (fun h => absurd h (by decide)) (Nat.le_of_ble_eq_true rfl) rfl ?_
  have loop : ∀ d k, k + d = n → T l hdX kX mX4_total (RLg M (totS wk n)) 0 0 5 [some (.ref 35), some (.int (nI n)), some (.long (lI (totS wk k))), none, some (.int (nI k))] [] M := by
    intro d
    induction d with
    | zero =>
      intro k hk
      have e : k = n := by omega
      subst e
      refine T.iload (pc' := 7) (q_d dX4_total_0 4 rfl) rfl rfl ?_
      refine T.iload_n (pc' := 8) (q_d dX4_total_0 5 rfl) rfl rfl rfl ?_
      refine T.icmp_geN (tgt := 29) (pc' := 11) (q_d dX4_total_0 6 rfl) rfl (by decide) (by omega) (by omega) (fun h8 => ?_) (fun h8 => ?_)
      · refine T.lload_n (pc' := 30) (q_d dX4_total_0 16 rfl) rfl rfl rfl ?_
        refine T.lret (q_d dX4_total_0 17 rfl) rfl rfl rfl ?_
        exact ⟨rfl, rfl⟩
      · exact absurd h8 (by omega)
    | succ d ih =>
      intro k hk
      refine T.iload (pc' := 7) (q_d dX4_total_0 4 rfl) rfl rfl ?_
      refine T.iload_n (pc' := 8) (q_d dX4_total_0 5 rfl) rfl rfl rfl ?_
      refine T.icmp_geN (tgt := 29) (pc' := 11) (q_d dX4_total_0 6 rfl) rfl (by decide) (by omega) (by omega) (fun h8 => ?_) (fun h8 => ?_)
      · exact absurd h8 (by omega)
      · refine T.lload_n (pc' := 12) (q_d dX4_total_0 7 rfl) rfl rfl rfl ?_
        refine T.aload_n (pc' := 13) (q_d dX4_total_0 8 rfl) rfl rfl rfl ?_
        refine T.getR (pc' := 16) (ci := 4) (k0 := 0) (q_d dX4_total_0 9 rfl) rfl rfl (by decide) rfl inX4 (by decide) rfl wF_X4_9 (rP hP pX_e0) ?_
        refine T.iload (pc' := 18) (q_d dX4_total_0 10 rfl) rfl rfl ?_
        refine T.lald (pc' := 19) (q_d dX4_total_0 11 rfl) rfl (eL_hd sw) (eL_lt sw) rfl (by omega) (by decide) (hc k (by omega)) ?_
        refine T.callS (pc' := 22) (q_d dX4_total_0 12 rfl) rfl uX4_sum wM_X4_35 (c_sum (totS_in hi k (by omega)) (hi k (by omega))) rfl rfl (by decide) (Nat.le_of_ble_eq_true rfl) rfl rfl (fun _ => rfl) ?_
        rintro _ _ ⟨rfl, rfl⟩
        dsimp only [Option.toList, List.cons_append, List.nil_append, List.append_nil]
        refine T.lstore_n (pc' := 23) (q_d dX4_total_0 13 rfl) rfl rfl (by decide) rfl rfl ?_
        refine T.iinc (pc' := 26) (q_d dX4_total_0 14 rfl) rfl rfl (nN_p _ 1) (by decide) rfl rfl ?_
        refine T.goto (tgt := 5) (q_d dX4_total_0 15 rfl) (by decide) ?_
        exact ih (k + 1) (by omega)
  refine T.lconst (pc' := 1) (v := lI 0) (q_d dX4_total_0 0 rfl) rfl (by decide) ?_
  refine T.lstore_n (pc' := 2) (q_d dX4_total_0 1 rfl) rfl rfl (by decide) rfl rfl ?_
  refine T.iconst (pc' := 3) (v := nI 0) (q_d dX4_total_0 2 rfl) rfl (by decide) ?_
  refine T.istore (pc' := 5) (q_d dX4_total_0 3 rfl) rfl (by decide) rfl rfl ?_
  exact loop n 0 (by omega)
end CX4
