/-! what hangs on the country alone -/
def Cy (s s' : Nat → Nat) : Prop := ∀ j, j ≠ 1 → j ≠ 2 → j ≠ 3 → j < 28 → s' j = s j
theorem orTo_congr {f g : Nat → Nat} : ∀ n, (∀ i, i < n → f i = g i) → orTo f n = orTo g n
  | 0, _ => rfl
  | n + 1, h => by rw [orTo, orTo, orTo_congr n (fun i hi => h i (by omega)), h n (by omega)]
theorem Cy.lgoes {s s' : Nat → Nat} (h : Cy s s') (h7 : s 0 ≤ 7) {p c : Nat} (hp : p < 7) : goes s' p c = goes s p c := by
  unfold goes
  rw [h 0 (by decide) (by decide) (by decide) (by decide), h 4 (by decide) (by decide) (by decide) (by decide), h (21 + p) (by omega) (by omega) (by omega) (by omega)]
  rw [orTo_congr (s 0) (fun i hi => by rw [h (21 + i) (by omega) (by omega) (by omega) (by omega)])]
theorem Cy.lhears {s s' : Nat → Nat} (h : Cy s s') {p q : Nat} (hq : q < 7) : hears s' p q = hears s p q := by
  unfold hears
  rw [h 5 (by decide) (by decide) (by decide) (by decide), h (7 + q) (by omega) (by omega) (by omega) (by omega), h (21 + q) (by omega) (by omega) (by omega) (by omega)]
theorem Cy.lthn {s s' : Nat → Nat} (h : Cy s s') (h7 : s 0 ≤ 7) : thn s' = thn s := by
  funext b c g
  unfold thn
  rw [h 0 (by decide) (by decide) (by decide) (by decide)]
  refine orTo_congr _ (fun p hp => orTo_congr _ (fun q hq => ?_))
  rw [h.lgoes h7 (by omega), h.lhears (by omega)]
theorem Cy.ltgt {s s' : Nat → Nat} (h : Cy s s') (h7 : s 0 ≤ 7) {p g : Nat} (hp : p < 7) : tgt s' p g = tgt s p g := by
  unfold tgt
  rw [h 0 (by decide) (by decide) (by decide) (by decide), h.lgoes h7 hp]
  refine orTo_congr _ (fun q hq => ?_)
  rw [h.lhears (by omega)]
theorem Cy.lgon {s s' : Nat → Nat} (h : Cy s s') (h7 : s 0 ≤ 7) {g b : Nat} : ∀ n, n ≤ 7 → gon s' g b n = gon s g b n
  | 0, _ => rfl
  | n + 1, hn => by
    unfold gon
    rw [h.lgon h7 n (by omega), h.ltgt h7 (by omega)]
theorem Cy.lsol {s s' : Nat → Nat} (h : Cy s s') (h7 : s 0 ≤ 7) {g0 g1 : Nat} : ∀ k, solN s' g0 g1 k = solN s g0 g1 k
  | 0 => rfl
  | k + 1 => by
    have e0 := h 0 (by decide) (by decide) (by decide) (by decide)
    have e6 := h 6 (by decide) (by decide) (by decide) (by decide)
    have et := h.lthn h7
    have eg : ∀ nd lv b, fstC s' nd g0 g1 lv b = fstC s nd g0 g1 lv b := fun nd lv b => by
      unfold fstC goodC enough
      rw [e0, e6, et]
    have en : ∀ nd lv b, newly s' nd g0 g1 lv b = newly s nd g0 g1 lv b := fun nd lv b => by
      unfold newly
      rw [eg, e0]
    simp only [solN, h.lsol h7 k, en, eg]
theorem Cy.lck {s s' : Nat → Nat} (h : Cy s s') (n : Nat) : ckN s' n = ckN s n := by
  unfold ckN
  rw [h 6 (by decide) (by decide) (by decide) (by decide)]
theorem Cy.lRT {s s' : Nat → Nat} (h : Cy s s') (h7 : s 0 ≤ 7) {M : qM} (q : RT M s) : RT M s' := by
  unfold RT at *
  rw [h 0 (by decide) (by decide) (by decide) (by decide), h 4 (by decide) (by decide) (by decide) (by decide), h.lck]
  exact ⟨fun g hg b hb => (q.1 g hg b hb).trans (h.lgon h7 _ h7).symm, q.2⟩
theorem Cy.lTb {s s' : Nat → Nat} (h : Cy s s') (h7 : s 0 ≤ 7) {M : qM} (q : Tb M s) : Tb M s' := by
  unfold Tb at *
  rw [h.lsol h7, h.lsol h7]
  exact ⟨q.1, q.2.1, q.2.2.1, fun e => h.lRT h7 (q.2.2.2.1 e), q.2.2.2.2⟩
theorem Cy.lround (s : Nat → Nat) (c g : Nat) : Cy s (sRound s c g) := fun j a1 a2 a3 a4 => by
  unfold sRound
  rw [if_neg a1, if_neg a2, if_neg a3, if_neg (by omega), if_neg (by omega), if_neg (by omega), if_neg (by omega)]
theorem Cy.ltrans {s1 s2 s3 : Nat → Nat} (h : Cy s1 s2) (h2 : Cy s2 s3) : Cy s1 s3 := fun j a1 a2 a3 a4 => (h2 j a1 a2 a3 a4).trans (h j a1 a2 a3 a4)
theorem Cy.lrefl (s : Nat → Nat) : Cy s s := fun _ _ _ _ _ => rfl
theorem WF.mono {b b' : Nat} {s : Nat → Nat} (h : WF b s) (hb : b ≤ b') : WF b' s := ⟨h.1, h.2.1, Nat.le_trans h.2.2.1 hb, h.2.2.2⟩
/-- a state of the same country -/
theorem WF.cy {b b' : Nat} {s s' : Nat → Nat} (h : WF b s) (hc : Cy s s') (h1 : s' 1 < 2 ^ s 0) (h2 : s' 2 ≤ b') (h3 : s' 3 = if 0 < s' 2 ∧ s' 1 = 0 then 1 else 0) : WF b' s' := by
  obtain ⟨w0, w1, w2, w4, w5, w6, w7, w14, w21, wz, w3, wy, wu⟩ := h
  have e0 := hc 0 (by decide) (by decide) (by decide) (by decide)
  have e4 := hc 4 (by decide) (by decide) (by decide) (by decide)
  have e5 := hc 5 (by decide) (by decide) (by decide) (by decide)
  have e6 := hc 6 (by decide) (by decide) (by decide) (by decide)
  have g : ∀ j, 7 ≤ j → j < 28 → s' j = s j := fun j a1 a2 => hc j (by omega) (by omega) (by omega) a2
  unfold WF
  rw [e0, e4, e5, e6]
  refine ⟨w0, h1, h2, w4, w5, w6, fun i hi => ?_, fun i hi => ?_, fun i hi => ?_, fun i hi hi2 => ?_, h3, fun i j hi hj => ?_, fun i j hi => ?_⟩
  · rw [g _ (by omega) (by omega)]; exact w7 i hi
  · rw [g _ (by omega) (by omega)]; exact w14 i hi
  · rw [g _ (by omega) (by omega)]; exact w21 i hi
  · rw [g _ (by omega) (by omega), g _ (by omega) (by omega)]; exact wz i hi hi2
  · rw [g _ (by omega) (by omega), g _ (by omega) (by omega)]; exact wy i j hi hj
  · rw [g _ (by omega) (by omega), g _ (by omega) (by omega)]; exact wu i j hi
theorem thn_none {s : Nat → Nat} {b c g : Nat} (h7 : s 0 ≤ 7) (h : dif b c = 0) : thn s b c g = 0 := by
  refine Nat.eq_of_testBit_eq fun i => ?_
  cases hb : (thn s b c g).testBit i with
  | false => simp
  | true =>
    obtain ⟨-, p, hp, h1, h2, -⟩ := (thn_bit h7).mp hb
    have h3 := (dif_bit (show p < 32 by omega)).mpr ⟨h1, h2⟩
    rw [h] at h3
    simp at h3
theorem WF.round {b : Nat} {s : Nat → Nat} (h : WF b s) {c g : Nat} (hc : canR s c g) : WF (b + 1) (sRound s c g) := by
  have h2 := h.2.2.1
  have h3 := h.2.2.2.2.2.2.2.2.2.2.1
  refine h.cy (Cy.lround s c g) (thn_lt h.1) (show s 2 + 1 ≤ b + 1 by omega) ?_
  show (if dif (s 1) c = 0 then 1 else s 3) = if 0 < s 2 + 1 ∧ thn s (s 1) c g = 0 then 1 else 0
  by_cases e : dif (s 1) c = 0
  · rw [if_pos e, if_pos ⟨by omega, thn_none h.1 e⟩]
  · rw [if_neg e, if_neg (fun q => hc.2.elim e (fun z => z q.2)), h3, if_neg (fun q => hc.1 q.2)]
/-! which beliefs come -/
def markN (s : Nat → Nat) (b c : Nat) (sn : Nat → Bool) : Nat → Nat → Bool
  | 0 => sn
  | g + 1 => fun x => markN s b c sn g x || decide (x = thn s b c g)
def cmB (s nd bs : Nat → Nat) (L : Nat) : Nat → (Nat → Bool) × Nat → (Nat → Bool) × Nat
  | 0, st => st
  | k + 1, st => if (cmB s nd bs L k st).1 (k + 1) = true ∧ nd (k + 1) = L then (markN s (k + 1) (bs (k + 1)) (cmB s nd bs L k st).1 4, (cmB s nd bs L k st).2 + 1) else cmB s nd bs L k st
def cmL (s nd bs : Nat → Nat) : Nat → (Nat → Bool) × Nat → (Nat → Bool) × Nat
  | 0, st => st
  | L + 1, st => cmL s nd bs L (cmB s nd bs (L + 1) (2 ^ s 0 - 1) st)
def comingN (s nd bs : Nat → Nat) (b0 : Nat) : Nat := (cmL s nd bs (nd b0) (fun x => decide (x = b0), 0)).2
def CM (M : qM) (sn : Nat → Bool) : Prop := ∀ x, x < 128 → M.1 38 x = if sn x = true then 1 else 0
section CX5B
variable {l : Launch} {M : qM} {b : Nat} {s : Nat → Nat} {k : Nat} {was : Nat → Nat → Nat} {n : Nat} {t pa : Nat → Nat} {sw : Bool}
theorem c_sets2 {o : Nat} (ho : SO o) (hP : M.2.2 = pX pa sw) (hs : RS M o s) (hw : WF b s) : Ct l hdX kX mX3_sets [.ref o] M (RI M (2 ^ s 0)) := by
  have h := c_sets (l := l) ho hP hs hw
  rwa [Nat.one_shiftLeft] at h
theorem c_markNext (hP : M.2.2 = pX pa sw) (hw : WF b s) (hT : RT M s) {x c : Nat} (hx : x < 2 ^ s 0) {sn : Nat → Bool} (hc : CM M sn) : Ct l hdX kX mX5_markNext [.ref 0, .int (nI x), .int (nI c)] M (fun v M' => v = none ∧ M'.2 = M.2 ∧ (∀ a, a ≠ 38 → M'.1 a = M.1 a) ∧ CM M' (markN s x c sn 4)) := by
  refine Ct.of [some (.ref 0), some (.int (nI x)), some (.int (nI c)), none] (by decide +kernel) (fun h => absurd h (by decide)) (Nat.le_of_ble_eq_true rfl) rfl ?_
  have w0 := p2_le hw.1
  have loop : ∀ d g (M' : qM), g + d = 4 → M'.2 = M.2 → (∀ a, a ≠ 38 → M'.1 a = M.1 a) → CM M' (markN s x c sn g) →
      T l hdX kX mX5_markNext (fun v M' => v = none ∧ M'.2 = M.2 ∧ (∀ a, a ≠ 38 → M'.1 a = M.1 a) ∧ CM M' (markN s x c sn 4)) 0 0 2 [some (.ref 0), some (.int (nI x)), some (.int (nI c)), some (.int (nI g))] [] M' := by
    intro d
    induction d with
    | zero =>
      intro g M' hg h2 ha hcm
      have e : g = 4 := by omega
      subst e
      refine T.iload_n (pc' := 3) (q_d dX5_markNext_0 2 rfl) rfl rfl rfl ?_
      refine T.iconst (pc' := 4) (v := nI 4) (q_d dX5_markNext_0 3 rfl) rfl (by decide) ?_
      refine T.icmp_geN (tgt := 29) (pc' := 7) (q_d dX5_markNext_0 4 rfl) rfl (by decide) (by omega) (by omega) (fun h4 => ?_) (fun h4 => ?_)
      · refine T.vret (q_d dX5_markNext_0 17 rfl) rfl rfl rfl ?_
        exact ⟨rfl, h2, ha, hcm⟩
      · exact absurd h4 (by omega)
    | succ d ih =>
      intro g M' hg h2 ha hcm
      have hP' : M'.2.2 = pX pa sw := by rw [h2]; exact hP
      have hT' : RT M' s := hT.mono (fun a a1 a2 => ha a (by omega))
      have ht := thn_lt (s := s) (b := x) (c := c) (g := g) hw.1
      refine T.iload_n (pc' := 3) (q_d dX5_markNext_0 2 rfl) rfl rfl rfl ?_
      refine T.iconst (pc' := 4) (v := nI 4) (q_d dX5_markNext_0 3 rfl) rfl (by decide) ?_
      refine T.icmp_geN (tgt := 29) (pc' := 7) (q_d dX5_markNext_0 4 rfl) rfl (by decide) (by omega) (by omega) (fun h4 => ?_) (fun h4 => ?_)
      · exact absurd h4 (by omega)
      · refine T.aload_n (pc' := 8) (q_d dX5_markNext_0 5 rfl) rfl rfl rfl ?_
        refine T.getR (pc' := 11) (ci := 5) (k0 := 12) (q_d dX5_markNext_0 6 rfl) rfl rfl (by decide) rfl inX5 (by decide) rfl wF_X5_56 (rP hP' rfl) ?_
        refine T.aload_n (pc' := 12) (q_d dX5_markNext_0 7 rfl) rfl rfl rfl ?_
        refine T.getR (pc' := 15) (ci := 5) (k0 := 5) (q_d dX5_markNext_0 8 rfl) rfl rfl (by decide) rfl inX5 (by decide) rfl wF_X5_33 (rP hP' rfl) ?_
        refine T.iload_n (pc' := 16) (q_d dX5_markNext_0 9 rfl) rfl rfl rfl ?_
        refine T.iload_n (pc' := 17) (q_d dX5_markNext_0 10 rfl) rfl rfl rfl ?_
        refine T.iload_n (pc' := 18) (q_d dX5_markNext_0 11 rfl) rfl rfl rfl ?_
        refine T.callV (pc' := 21) (ci := 1) (q_d dX5_markNext_0 12 rfl) rfl uX1_after wM_X5_163 (c_after hP' hw hT' hx (show g < 5 by omega)) rfl rfl (by decide) rfl rfl (by decide) (Nat.le_of_ble_eq_true rfl) rfl rfl (fun _ => rfl) ?_
        rintro _ _ ⟨rfl, rfl⟩
        dsimp only [Option.toList, List.cons_append, List.nil_append, List.append_nil]
        refine T.iconst (pc' := 22) (v := nI 1) (q_d dX5_markNext_0 13 rfl) rfl (by decide) ?_
        refine T.zast (pc' := 23) (q_d dX5_markNext_0 14 rfl) rfl rfl (by decide) rfl (by omega) (by decide) (by decide) ?_
        refine T.iinc (pc' := 26) (q_d dX5_markNext_0 15 rfl) rfl rfl (nN_p _ 1) (by decide) rfl rfl ?_
        refine T.goto (tgt := 2) (q_d dX5_markNext_0 16 rfl) (by decide) ?_
        refine ih (g + 1) _ (by omega) h2 (fun a h9 => ?_) (fun y hy => ?_)
        · funext j; rw [qI_ne (Or.inl h9), ha a h9]
        · by_cases e : y = thn s x c g
          · subst e
            rw [qI_eq, markN]; simp
          · rw [qI_ne (Or.inr e), hcm y hy, markN]; simp [e]
  refine T.iconst (pc' := 1) (v := nI 0) (q_d dX5_markNext_0 0 rfl) rfl (by decide) ?_
  refine T.istore_n (pc' := 2) (q_d dX5_markNext_0 1 rfl) rfl rfl (by decide) rfl rfl ?_
  exact loop 4 0 M (by omega) rfl (fun _ _ => rfl) hc
theorem c_countComing (hP : M.2.2 = pX pa sw) (hs : RS M 1 s) (hw : WF b s) (hT : RT M s) (hR : RHs M 29 (solN s 0 3 127)) {x : Nat} (hx : x < 2 ^ s 0) (hne : (solN s 0 3 127).1 x ≠ 1000) :
    Ct l hdX kX mX5_countComing [.ref 0, .ref 29, .int (nI x)] M (fun v M' => v = some (.int (nI (comingN s (solN s 0 3 127).1 (solN s 0 3 127).2 x))) ∧ M'.2 = M.2 ∧ ∀ a, a ≠ 38 → M'.1 a = M.1 a) := by
  refine Ct.of [some (.ref 0), some (.ref 29), some (.int (nI x)), none, none, none] (by decide +kernel) (fun h => absurd h (by decide)) (Nat.le_of_ble_eq_true rfl) rfl ?_
  have w0 := p2_le hw.1
  have hv := sol_vals (s := s) (g0 := 0) (g1 := 3)
  have loopL : ∀ L st (M' : qM), L ≤ 127 → M'.2 = M.2 → (∀ a, a ≠ 38 → M'.1 a = M.1 a) → CM M' st.1 → (cmL s (solN s 0 3 127).1 (solN s 0 3 127).2 L st).2 = comingN s (solN s 0 3 127).1 (solN s 0 3 127).2 x →
      T l hdX kX mX5_countComing (fun v M' => v = some (.int (nI (comingN s (solN s 0 3 127).1 (solN s 0 3 127).2 x))) ∧ M'.2 = M.2 ∧ ∀ a, a ≠ 38 → M'.1 a = M.1 a) 0 0 39 [some (.ref 0), some (.ref 29), some (.int (nI x)), some (.int (nI st.2)), some (.int (nI L)), none] [] M' := by
    intro L
    induction L with
    | zero =>
      intro st M' hL h2 ha hcm he
      refine T.iload (pc' := 41) (q_d dX5_countComing_0 24 rfl) rfl rfl ?_
      refine T.if_leN (tgt := 109) (pc' := 44) (q_d dX5_countComing_0 25 rfl) rfl (by decide) (by omega) (fun h41 => ?_) (fun h41 => ?_)
      · refine T.iload_n (pc' := 110) (q_d dX5_countComing_1 16 rfl) rfl rfl rfl ?_
        refine T.iret (q_d dX5_countComing_1 17 rfl) rfl rfl rfl ?_
        exact ⟨by rw [← he]; rfl, h2, ha⟩
      · exact absurd h41 (by omega)
    | succ L ih =>
      intro st M' hL h2 ha hcm he
      have inner : ∀ d k (M2 : qM), k + d + 1 = 2 ^ s 0 → M2.2 = M.2 → (∀ a, a ≠ 38 → M2.1 a = M.1 a) → CM M2 (cmB s (solN s 0 3 127).1 (solN s 0 3 127).2 (L + 1) k st).1 →
          T l hdX kX mX5_countComing (fun v M' => v = some (.int (nI (comingN s (solN s 0 3 127).1 (solN s 0 3 127).2 x))) ∧ M'.2 = M.2 ∧ ∀ a, a ≠ 38 → M'.1 a = M.1 a) 0 0 47 [some (.ref 0), some (.ref 29), some (.int (nI x)), some (.int (nI (cmB s (solN s 0 3 127).1 (solN s 0 3 127).2 (L + 1) k st).2)), some (.int (nI (L + 1))), some (.int (nI (k + 1)))] [] M2 := by
        intro d
        induction d with
        | zero =>
          intro k M2 hk j2 ja jc
          have hP2 : M2.2.2 = pX pa sw := by rw [j2]; exact hP
          have hs2 : RS M2 1 s := hs.mono (fun a a1 a2 => ja a (by omega))
          refine T.iload (pc' := 49) (q_d dX5_countComing_0 28 rfl) rfl rfl ?_
          refine T.aload_n (pc' := 50) (q_d dX5_countComing_0 29 rfl) rfl rfl rfl ?_
          refine T.getR (pc' := 53) (ci := 5) (k0 := 0) (q_d dX5_countComing_0 30 rfl) rfl rfl (by decide) rfl inX5 (by decide) rfl wF_X5_10 (rP hP2 rfl) ?_
          refine T.callV (pc' := 56) (ci := 3) (q_d dX5_countComing_0 31 rfl) rfl uX3_sets wM_X5_184 (c_sets2 (Or.inl rfl) hP2 hs2 hw) rfl rfl (by decide) rfl rfl (by decide) (Nat.le_of_ble_eq_true rfl) rfl rfl (fun _ => rfl) ?_
          rintro _ _ ⟨rfl, rfl⟩
          dsimp only [Option.toList, List.cons_append, List.nil_append, List.append_nil]
          refine T.icmp_geN (tgt := 103) (pc' := 59) (q_d dX5_countComing_0 32 rfl) rfl (by decide) (by omega) (by omega) (fun h56 => ?_) (fun h56 => ?_)
          · refine T.iinc (pc' := 106) (q_d dX5_countComing_1 14 rfl) rfl rfl (nN_m1 (by omega)) (by decide) rfl rfl ?_
            refine T.goto (tgt := 39) (q_d dX5_countComing_1 15 rfl) (by decide) ?_
            refine T.drop (loc' := [some (.ref 0), some (.ref 29), some (.int (nI x)), some (.int (nI (cmB s (solN s 0 3 127).1 (solN s 0 3 127).2 (L + 1) k st).2)), some (.int (nI L)), none]) ⟨rfl, rfl, rfl, rfl, rfl, trivial⟩ ?_
            exact ih (cmB s (solN s 0 3 127).1 (solN s 0 3 127).2 (L + 1) k st) M2 (by omega) j2 ja jc (by rw [← he]; simp only [cmL]; rw [show 2 ^ s 0 - 1 = k by omega])
          · exact absurd h56 (by omega)
        | succ d ih2 =>
          intro k M2 hk j2 ja jc
          have hP2 : M2.2.2 = pX pa sw := by rw [j2]; exact hP
          have hs2 : RS M2 1 s := hs.mono (fun a a1 a2 => ja a (by omega))
          have hT2 : RT M2 s := hT.mono (fun a a1 a2 => ja a (by omega))
          have hn9 := hR (k + 1) (by omega)
          have hn1 : M2.1 30 (k + 1) = nc ((solN s 0 3 127).1 (k + 1)) := by rw [ja 30 (by decide)]; exact hn9.1
          have hn2 : M2.1 31 (k + 1) = (solN s 0 3 127).2 (k + 1) := by rw [ja 31 (by decide)]; exact hn9.2
          have hv1 := hv (k + 1)
          have hnl := nc_lt hv1
          have hnL : nc ((solN s 0 3 127).1 (k + 1)) = L + 1 ↔ (solN s 0 3 127).1 (k + 1) = L + 1 := by unfold nc; split <;> omega
          have hskip : ¬ ((cmB s (solN s 0 3 127).1 (solN s 0 3 127).2 (L + 1) k st).1 (k + 1) = true ∧ (solN s 0 3 127).1 (k + 1) = L + 1) → T l hdX kX mX5_countComing (fun v M' => v = some (.int (nI (comingN s (solN s 0 3 127).1 (solN s 0 3 127).2 x))) ∧ M'.2 = M.2 ∧ ∀ a, a ≠ 38 → M'.1 a = M.1 a) 0 0 47 [some (.ref 0), some (.ref 29), some (.int (nI x)), some (.int (nI (cmB s (solN s 0 3 127).1 (solN s 0 3 127).2 (L + 1) k st).2)), some (.int (nI (L + 1))), some (.int (nI (k + 1 + 1)))] [] M2 := by
            intro hno
            have e9 : cmB s (solN s 0 3 127).1 (solN s 0 3 127).2 (L + 1) (k + 1) st = cmB s (solN s 0 3 127).1 (solN s 0 3 127).2 (L + 1) k st := by rw [cmB, if_neg hno]
            have h9 := ih2 (k + 1) M2 (by omega) j2 ja (by rw [e9]; exact jc)
            rwa [e9] at h9
          refine T.iload (pc' := 49) (q_d dX5_countComing_0 28 rfl) rfl rfl ?_
          refine T.aload_n (pc' := 50) (q_d dX5_countComing_0 29 rfl) rfl rfl rfl ?_
          refine T.getR (pc' := 53) (ci := 5) (k0 := 0) (q_d dX5_countComing_0 30 rfl) rfl rfl (by decide) rfl inX5 (by decide) rfl wF_X5_10 (rP hP2 rfl) ?_
          refine T.callV (pc' := 56) (ci := 3) (q_d dX5_countComing_0 31 rfl) rfl uX3_sets wM_X5_184 (c_sets2 (Or.inl rfl) hP2 hs2 hw) rfl rfl (by decide) rfl rfl (by decide) (Nat.le_of_ble_eq_true rfl) rfl rfl (fun _ => rfl) ?_
          rintro _ _ ⟨rfl, rfl⟩
          dsimp only [Option.toList, List.cons_append, List.nil_append, List.append_nil]
          refine T.icmp_geN (tgt := 103) (pc' := 59) (q_d dX5_countComing_0 32 rfl) rfl (by decide) (by omega) (by omega) (fun h56 => ?_) (fun h56 => ?_)
          · exact absurd h56 (by omega)
          · refine T.aload_n (pc' := 60) (q_d dX5_countComing_0 33 rfl) rfl rfl rfl ?_
            refine T.getR (pc' := 63) (ci := 5) (k0 := 12) (q_d dX5_countComing_0 34 rfl) rfl rfl (by decide) rfl inX5 (by decide) rfl wF_X5_56 (rP hP2 rfl) ?_
            refine T.iload (pc' := 65) (q_d dX5_countComing_0 35 rfl) rfl rfl ?_
            refine T.zald (pc' := 66) (q_d dX5_countComing_0 36 rfl) rfl rfl (by decide) rfl (by omega) (by decide) (jc (k + 1) (by omega)) ?_
            refine T.if_eqN (tgt := 97) (pc' := 69) (q_d dX5_countComing_0 37 rfl) rfl (by decide) (by split <;> decide) (fun h66 => ?_) (fun h66 => ?_)
            · refine T.iinc (pc' := 100) (q_d dX5_countComing_1 12 rfl) rfl rfl (nN_p _ 1) (by decide) rfl rfl ?_
              refine T.goto (tgt := 47) (q_d dX5_countComing_1 13 rfl) (by decide) ?_
              by_cases hsn : (cmB s (solN s 0 3 127).1 (solN s 0 3 127).2 (L + 1) k st).1 (k + 1) = true
              · first
                | (rw [if_pos hsn] at h66; exact absurd h66 (by decide))
                | exact hskip (fun q => h78 (hnL.mpr q.2))
                | (have e9 : cmB s (solN s 0 3 127).1 (solN s 0 3 127).2 (L + 1) (k + 1) st = (markN s (k + 1) ((solN s 0 3 127).2 (k + 1)) (cmB s (solN s 0 3 127).1 (solN s 0 3 127).2 (L + 1) k st).1 4, (cmB s (solN s 0 3 127).1 (solN s 0 3 127).2 (L + 1) k st).2 + 1) := by rw [cmB, if_pos ⟨hsn, hnL.mp h78⟩]
                   have h9 := ih2 (k + 1) M3 (by omega) (m1.trans j2) (fun a a1 => (m2 a a1).trans (ja a a1)) (by rw [e9]; exact m3)
                   rw [e9] at h9
                   exact h9)
              · first
                | exact hskip (fun q => hsn q.1)
                | (rw [if_neg hsn] at h66; exact absurd rfl h66)
            · refine T.aload_n (pc' := 70) (q_d dX5_countComing_0 38 rfl) rfl rfl rfl ?_
              refine T.getR (pc' := 73) (ci := 0) (k0 := 0) (q_d dX5_countComing_0 39 rfl) rfl rfl (by decide) rfl inX0 (by decide) rfl wF_X5_171 (rP hP2 rfl) ?_
              refine T.iload (pc' := 75) (q_d dX5_countComing_1 0 rfl) rfl rfl ?_
              refine T.iald (pc' := 76) (q_d dX5_countComing_1 1 rfl) rfl rfl (by decide) rfl (by omega) (by decide) hn1 ?_
              refine T.iload (pc' := 78) (q_d dX5_countComing_1 2 rfl) rfl rfl ?_
              refine T.icmp_neN (tgt := 97) (pc' := 81) (q_d dX5_countComing_1 3 rfl) rfl (by decide) (by omega) (by omega) (fun h78 => ?_) (fun h78 => ?_)
              · refine T.iinc (pc' := 100) (q_d dX5_countComing_1 12 rfl) rfl rfl (nN_p _ 1) (by decide) rfl rfl ?_
                refine T.goto (tgt := 47) (q_d dX5_countComing_1 13 rfl) (by decide) ?_
                by_cases hsn : (cmB s (solN s 0 3 127).1 (solN s 0 3 127).2 (L + 1) k st).1 (k + 1) = true
                · first
                  | (rw [if_pos hsn] at h66; exact absurd h66 (by decide))
                  | exact hskip (fun q => h78 (hnL.mpr q.2))
                  | (have e9 : cmB s (solN s 0 3 127).1 (solN s 0 3 127).2 (L + 1) (k + 1) st = (markN s (k + 1) ((solN s 0 3 127).2 (k + 1)) (cmB s (solN s 0 3 127).1 (solN s 0 3 127).2 (L + 1) k st).1 4, (cmB s (solN s 0 3 127).1 (solN s 0 3 127).2 (L + 1) k st).2 + 1) := by rw [cmB, if_pos ⟨hsn, hnL.mp h78⟩]
                     have h9 := ih2 (k + 1) M3 (by omega) (m1.trans j2) (fun a a1 => (m2 a a1).trans (ja a a1)) (by rw [e9]; exact m3)
                     rw [e9] at h9
                     exact h9)
                · first
                  | exact hskip (fun q => hsn q.1)
                  | (rw [if_neg hsn] at h66; exact absurd rfl h66)
              · refine T.iinc (pc' := 84) (q_d dX5_countComing_1 4 rfl) rfl rfl (nN_p _ 1) (by decide) rfl rfl ?_
                refine T.aload_n (pc' := 85) (q_d dX5_countComing_1 5 rfl) rfl rfl rfl ?_
                refine T.iload (pc' := 87) (q_d dX5_countComing_1 6 rfl) rfl rfl ?_
                refine T.aload_n (pc' := 88) (q_d dX5_countComing_1 7 rfl) rfl rfl rfl ?_
                refine T.getR (pc' := 91) (ci := 0) (k0 := 1) (q_d dX5_countComing_1 8 rfl) rfl rfl (by decide) rfl inX0 (by decide) rfl wF_X5_174 (rP hP2 rfl) ?_
                refine T.iload (pc' := 93) (q_d dX5_countComing_1 9 rfl) rfl rfl ?_
                refine T.iald (pc' := 94) (q_d dX5_countComing_1 10 rfl) rfl rfl (by decide) rfl (by omega) (by decide) hn2 ?_
                refine T.callV (pc' := 97) (ci := 5) (q_d dX5_countComing_1 11 rfl) rfl uX5_markNext wM_X5_262 (c_markNext hP2 hw hT2 (show k + 1 < 2 ^ s 0 by omega) jc) rfl rfl (by decide) rfl rfl (by decide) (Nat.le_of_ble_eq_true rfl) rfl rfl (fun _ => rfl) ?_
                rintro _ M3 ⟨rfl, m1, m2, m3⟩
                dsimp only [Option.toList, List.cons_append, List.nil_append, List.append_nil]
                refine T.iinc (pc' := 100) (q_d dX5_countComing_1 12 rfl) rfl rfl (nN_p _ 1) (by decide) rfl rfl ?_
                refine T.goto (tgt := 47) (q_d dX5_countComing_1 13 rfl) (by decide) ?_
                by_cases hsn : (cmB s (solN s 0 3 127).1 (solN s 0 3 127).2 (L + 1) k st).1 (k + 1) = true
                · first
                  | (rw [if_pos hsn] at h66; exact absurd h66 (by decide))
                  | exact hskip (fun q => h78 (hnL.mpr q.2))
                  | (have e9 : cmB s (solN s 0 3 127).1 (solN s 0 3 127).2 (L + 1) (k + 1) st = (markN s (k + 1) ((solN s 0 3 127).2 (k + 1)) (cmB s (solN s 0 3 127).1 (solN s 0 3 127).2 (L + 1) k st).1 4, (cmB s (solN s 0 3 127).1 (solN s 0 3 127).2 (L + 1) k st).2 + 1) := by rw [cmB, if_pos ⟨hsn, hnL.mp h78⟩]
                     have h9 := ih2 (k + 1) M3 (by omega) (m1.trans j2) (fun a a1 => (m2 a a1).trans (ja a a1)) (by rw [e9]; exact m3)
                     rw [e9] at h9
                     exact h9)
                · first
                  | exact hskip (fun q => hsn q.1)
                  | (rw [if_neg hsn] at h66; exact absurd rfl h66)
      have h1 : 1 ≤ 2 ^ s 0 := Nat.two_pow_pos _
      refine T.iload (pc' := 41) (q_d dX5_countComing_0 24 rfl) rfl rfl ?_
      refine T.if_leN (tgt := 109) (pc' := 44) (q_d dX5_countComing_0 25 rfl) rfl (by decide) (by omega) (fun h41 => ?_) (fun h41 => ?_)
      · exact absurd h41 (by omega)
      · refine T.iconst (pc' := 45) (v := nI 1) (q_d dX5_countComing_0 26 rfl) rfl (by decide) ?_
        refine T.istore (pc' := 47) (q_d dX5_countComing_0 27 rfl) rfl (by decide) rfl rfl ?_
        exact inner (2 ^ s 0 - 1) 0 M' (by omega) h2 ha hcm
  have loop0 : ∀ d k (M' : qM), k + d = 128 → M'.2 = M.2 → (∀ a, a ≠ 38 → M'.1 a = M.1 a) → (∀ y, y < k → M'.1 38 y = 0) →
      T l hdX kX mX5_countComing (fun v M' => v = some (.int (nI (comingN s (solN s 0 3 127).1 (solN s 0 3 127).2 x))) ∧ M'.2 = M.2 ∧ ∀ a, a ≠ 38 → M'.1 a = M.1 a) 0 0 2 [some (.ref 0), some (.ref 29), some (.int (nI x)), some (.int (nI k)), none, none] [] M' := by
    intro d
    induction d with
    | zero =>
      intro k M' hk h2 ha hz
      have hP' : M'.2.2 = pX pa sw := by rw [h2]; exact hP
      have hvx := hv x
      have hn1 : (qI M' 38 x 1).1 30 x = (solN s 0 3 127).1 x := by rw [qI_ne (Or.inl (by decide)), ha 30 (by decide), (hR x (by omega)).1, nc_id hne]
      refine T.iload_n (pc' := 3) (q_d dX5_countComing_0 2 rfl) rfl rfl rfl ?_
      refine T.sipush (pc' := 6) (v := nI 128) (q_d dX5_countComing_0 3 rfl) rfl (by decide) ?_
      refine T.icmp_geN (tgt := 22) (pc' := 9) (q_d dX5_countComing_0 4 rfl) rfl (by decide) (by omega) (by omega) (fun h6 => ?_) (fun h6 => ?_)
      · refine T.aload_n (pc' := 23) (q_d dX5_countComing_0 12 rfl) rfl rfl rfl ?_
        refine T.getR (pc' := 26) (ci := 5) (k0 := 12) (q_d dX5_countComing_0 13 rfl) rfl rfl (by decide) rfl inX5 (by decide) rfl wF_X5_56 (rP hP' rfl) ?_
        refine T.iload_n (pc' := 27) (q_d dX5_countComing_0 14 rfl) rfl rfl rfl ?_
        refine T.iconst (pc' := 28) (v := nI 1) (q_d dX5_countComing_0 15 rfl) rfl (by decide) ?_
        refine T.zast (pc' := 29) (q_d dX5_countComing_0 16 rfl) rfl rfl (by decide) rfl (by omega) (by decide) (by decide) ?_
        refine T.iconst (pc' := 30) (v := nI 0) (q_d dX5_countComing_0 17 rfl) rfl (by decide) ?_
        refine T.istore_n (pc' := 31) (q_d dX5_countComing_0 18 rfl) rfl rfl (by decide) rfl rfl ?_
        refine T.aload_n (pc' := 32) (q_d dX5_countComing_0 19 rfl) rfl rfl rfl ?_
        refine T.getR (pc' := 35) (ci := 0) (k0 := 0) (q_d dX5_countComing_0 20 rfl) rfl rfl (by decide) rfl inX0 (by decide) rfl wF_X5_171 (rP hP' rfl) ?_
        refine T.iload_n (pc' := 36) (q_d dX5_countComing_0 21 rfl) rfl rfl rfl ?_
        refine T.iald (pc' := 37) (q_d dX5_countComing_0 22 rfl) rfl rfl (by decide) rfl (by omega) (by decide) hn1 ?_
        refine T.istore (pc' := 39) (q_d dX5_countComing_0 23 rfl) rfl (by decide) rfl rfl ?_
        refine loopL ((solN s 0 3 127).1 x) (fun y => decide (y = x), 0) _ (by omega) h2 (fun a h9 => ?_) (fun y hy => ?_) rfl
        · funext j; rw [qI_ne (Or.inl h9), ha a h9]
        · by_cases e : y = x
          · subst e; rw [qI_eq]; simp
          · rw [qI_ne (Or.inr e), hz y (by omega)]; simp [e]
      · exact absurd h6 (by omega)
    | succ d ih =>
      intro k M' hk h2 ha hz
      have hP' : M'.2.2 = pX pa sw := by rw [h2]; exact hP
      refine T.iload_n (pc' := 3) (q_d dX5_countComing_0 2 rfl) rfl rfl rfl ?_
      refine T.sipush (pc' := 6) (v := nI 128) (q_d dX5_countComing_0 3 rfl) rfl (by decide) ?_
      refine T.icmp_geN (tgt := 22) (pc' := 9) (q_d dX5_countComing_0 4 rfl) rfl (by decide) (by omega) (by omega) (fun h6 => ?_) (fun h6 => ?_)
      · exact absurd h6 (by omega)
      · refine T.aload_n (pc' := 10) (q_d dX5_countComing_0 5 rfl) rfl rfl rfl ?_
        refine T.getR (pc' := 13) (ci := 5) (k0 := 12) (q_d dX5_countComing_0 6 rfl) rfl rfl (by decide) rfl inX5 (by decide) rfl wF_X5_56 (rP hP' rfl) ?_
        refine T.iload_n (pc' := 14) (q_d dX5_countComing_0 7 rfl) rfl rfl rfl ?_
        refine T.iconst (pc' := 15) (v := nI 0) (q_d dX5_countComing_0 8 rfl) rfl (by decide) ?_
        refine T.zast (pc' := 16) (q_d dX5_countComing_0 9 rfl) rfl rfl (by decide) rfl (by omega) (by decide) (by decide) ?_
        refine T.iinc (pc' := 19) (q_d dX5_countComing_0 10 rfl) rfl rfl (nN_p _ 1) (by decide) rfl rfl ?_
        refine T.goto (tgt := 2) (q_d dX5_countComing_0 11 rfl) (by decide) ?_
        refine ih (k + 1) _ (by omega) h2 (fun a h9 => ?_) (fun y hy => ?_)
        · funext j; rw [qI_ne (Or.inl h9), ha a h9]
        · by_cases e : y = k
          · subst e; exact qI_eq
          · rw [qI_ne (Or.inr e)]; exact hz y (by omega)
  refine T.iconst (pc' := 1) (v := nI 0) (q_d dX5_countComing_0 0 rfl) rfl (by decide) ?_
  refine T.istore_n (pc' := 2) (q_d dX5_countComing_0 1 rfl) rfl rfl (by decide) rfl rfl ?_
  exact loop0 128 0 M (by omega) rfl (fun _ _ => rfl) (fun y hy => absurd hy (by omega))
end CX5B
