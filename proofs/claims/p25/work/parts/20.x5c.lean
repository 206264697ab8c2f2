/-! BlindHunts: what is done, and what changes the state -/
def sPlace (s : Nat → Nat) (c : Nat) : Nat → Nat := fun j => if j = 0 then s 0 + 1 else if j = 7 + s 0 then c else s j
def pt (i j a : Nat) : Nat := if a = i then 1 <<< j else if a = j then 1 <<< i else 0
def sRoad (s : Nat → Nat) (i j : Nat) : Nat → Nat := fun x => if 14 ≤ x ∧ x < 21 then s x ||| pt i j (x - 14) else if 21 ≤ x ∧ x < 28 then s x ||| pt i j (x - 21) else s x
def sShut (s : Nat → Nat) (i j : Nat) : Nat → Nat := fun x => if 21 ≤ x ∧ x < 28 then s x ^^^ pt i j (x - 21) else s x
def sBelieve (s : Nat → Nat) (u : Nat) : Nat → Nat := fun j => if j = 1 then u else if j = 2 ∨ j = 3 then 0 else s j
def rdN (s : Nat → Nat) (o : Nat) : Nat := sumTo (fun i => ones (s (o + i))) (s 0) / 2
abbrev St := (Nat → Nat) × Nat × (Nat → Nat → Nat) × Nat × (Nat → Nat)
def act (s : Nat → Nat) (k : Nat) (was : Nat → Nat → Nat) (n : Nat) (t : Nat → Nat) (s' : Nat → Nat) : St := (s', pushK k, pushW k was s, n, t)
def oPlace (s : Nat → Nat) (k : Nat) (was : Nat → Nat → Nat) (n : Nat) (t : Nat → Nat) (u : Nat) : Nat × St := if u ≤ 3 then (if s 0 < 7 then (s 0, act s k was n t (sPlace s u)) else (4293967293, (s, k, was, n, t))) else (4293967295, (s, k, was, n, t))
def oRoad (s : Nat → Nat) (k : Nat) (was : Nat → Nat → Nat) (n : Nat) (t : Nat → Nat) (u v : Nat) : Nat × St := if u < s 0 ∧ v < s 0 ∧ u ≠ v then (if s (14 + u) >>> v &&& 1 = 0 then (rdN (sRoad s u v) 14, act s k was n t (sRoad s u v)) else (4293967294, (s, k, was, n, t))) else (4293967295, (s, k, was, n, t))
def oShut (s : Nat → Nat) (k : Nat) (was : Nat → Nat → Nat) (n : Nat) (t : Nat → Nat) (u v w : Nat) : Nat × St := if (u < s 0 ∧ v < s 0 ∧ u ≠ v) ∧ w ≤ 1 then (if s (14 + u) >>> v &&& 1 = 1 ∧ s (21 + u) >>> v &&& 1 = w then (rdN (sShut s u v) 21, act s k was n t (sShut s u v)) else (4293967294, (s, k, was, n, t))) else (4293967295, (s, k, was, n, t))
def oSet (s : Nat → Nat) (k : Nat) (was : Nat → Nat → Nat) (n : Nat) (t : Nat → Nat) (u v : Nat) : Nat × St := if u ≤ 2 ∧ (if u = 2 then 1 ≤ v ∧ v ≤ 2 else v ≤ 3) then (s (4 + u), act s k was n t (up s (4 + u) v)) else (4293967295, (s, k, was, n, t))
def oBelieve (s : Nat → Nat) (k : Nat) (was : Nat → Nat → Nat) (n : Nat) (t : Nat → Nat) (u : Nat) : Nat × St := if u < 2 ^ s 0 then (ones u, act s k was n t (sBelieve s u)) else (4293967295, (s, k, was, n, t))
def oCheck (s : Nat → Nat) (k : Nat) (was : Nat → Nat → Nat) (n : Nat) (t : Nat → Nat) (u v : Nat) : Nat × St := if u < 2 ^ s 0 ∧ v ≤ 3 ∧ ones u ≤ s 6 then (if canR s u v then (ones (thn s (s 1) u v), act s k was n t (sRound s u v)) else (4293967294, (s, k, was, n, t))) else (4293967295, (s, k, was, n, t))
/-- a state of BlindHunts lies in the memory -/
def Ac (b : Nat) (x : St) (M : qM) : Prop := ∃ pa sw, RX M b x.1 x.2.1 x.2.2.1 x.2.2.2.1 x.2.2.2.2 pa sw
def OX (b : Nat) (r : Nat × St) : Option Value → qM → Prop := fun v M' => v = some (.int (nI r.1)) ∧ Ac b r.2 M'
theorem pt_bit {i j a x : Nat} (hij : i ≠ j) : (pt i j a).testBit x = true ↔ (a = i ∧ x = j) ∨ (a = j ∧ x = i) := by
  unfold pt
  split
  · rw [Nat.one_shiftLeft, Nat.testBit_two_pow, decide_eq_true_eq]; omega
  · split
    · rw [Nat.one_shiftLeft, Nat.testBit_two_pow, decide_eq_true_eq]; omega
    · rw [Nat.zero_testBit]; constructor
      · intro h; exact absurd h (by decide)
      · intro h; omega
theorem pt_lt {i j a n : Nat} (hi : i < n) (hj : j < n) : pt i j a < 2 ^ n := by
  unfold pt
  split
  · rw [Nat.one_shiftLeft]; exact Nat.pow_lt_pow_right (by decide) hj
  · split
    · rw [Nat.one_shiftLeft]; exact Nat.pow_lt_pow_right (by decide) hi
    · exact Nat.two_pow_pos _
theorem pt_0 {i j a : Nat} (h1 : a ≠ i) (h2 : a ≠ j) : pt i j a = 0 := by unfold pt; rw [if_neg h1, if_neg h2]
theorem pt_i {i j : Nat} : pt i j i = 1 <<< j := if_pos rfl
theorem pt_j {i j : Nat} (h : i ≠ j) : pt i j j = 1 <<< i := by unfold pt; rw [if_neg (Ne.symm h), if_pos rfl]
theorem sh_bit (a k : Nat) : a >>> k &&& 1 = 0 ↔ a.testBit k = false := by
  have h := bit_iff a k
  have g := and1_01 (a >>> k)
  cases e : a.testBit k <;> rw [e] at h <;> simp at h ⊢ <;> omega
theorem WF.place {b : Nat} {s : Nat → Nat} (h : WF b s) (h7 : s 0 < 7) {c : Nat} (hc : c ≤ 3) : WF b (sPlace s c) := by
  obtain ⟨w0, w1, w2, w4, w5, w6, w7, w14, w21, wz, w3, wy, wu⟩ := h
  have g : ∀ j, j ≠ 0 → j ≠ 7 + s 0 → sPlace s c j = s j := fun j a1 a2 => by unfold sPlace; rw [if_neg a1, if_neg a2]
  have hp : 2 ^ s 0 ≤ 2 ^ (s 0 + 1) := Nat.pow_le_pow_right (by decide) (by omega)
  have e0 : sPlace s c 0 = s 0 + 1 := rfl
  unfold WF
  rw [e0, g 1 (by decide) (by omega), g 2 (by decide) (by omega), g 3 (by decide) (by omega), g 4 (by decide) (by omega), g 5 (by decide) (by omega), g 6 (by decide) (by omega)]
  refine ⟨by omega, by omega, w2, w4, w5, w6, fun i hi => ?_, fun i hi => ?_, fun i hi => ?_, fun i hi hi2 => ?_, w3, fun i j hi hj => ?_, fun i j hi => ?_⟩
  · unfold sPlace
    rw [if_neg (by omega)]
    split
    · exact hc
    · exact w7 i hi
  · rw [g _ (by omega) (by omega)]; have := w14 i hi; omega
  · rw [g _ (by omega) (by omega)]; have := w21 i hi; omega
  · rw [g _ (by omega) (by omega), g _ (by omega) (by omega)]; exact wz i (by omega) hi2
  · rw [g _ (by omega) (by omega), g _ (by omega) (by omega)]; exact wy i j hi hj
  · rw [g _ (by omega) (by omega), g _ (by omega) (by omega)]; exact wu i j hi
theorem RS_place {M : qM} {b : Nat} {s : Nat → Nat} (hs : RS M 1 s) (h7 : s 0 < 7) {c : Nat} : RS (qI (qI M (1 + 1) (s 0) c) 1 0 (s 0 + 1)) 1 (sPlace s c) := by
  obtain ⟨e0, e1, e2, e3, e4, e5, e6, e7⟩ := hs
  have g : ∀ j, j ≠ 0 → j ≠ 7 + s 0 → sPlace s c j = s j := fun j a1 a2 => by unfold sPlace; rw [if_neg a1, if_neg a2]
  refine ⟨qI_eq, ?_, ?_, fun i hi => ?_, fun i hi => ?_, fun i hi => ?_, fun i hi => ?_, fun k hk hk2 => ?_⟩
  · rw [qI_ne (Or.inr (by decide)), qI_ne (Or.inl (by decide)), g _ (by decide) (by omega)]; exact e1
  · rw [qI_ne (Or.inr (by decide)), qI_ne (Or.inl (by decide)), g _ (by decide) (by omega)]; exact e2
  · rw [qI_ne (Or.inl (by decide))]
    by_cases e : i = s 0
    · subst e
      rw [qI_eq]; unfold sPlace; rw [if_neg (by omega), if_pos rfl]
    · rw [qI_ne (Or.inr e), g _ (by omega) (by omega)]; exact e3 i hi
  · rw [qI_ne (Or.inl (by decide)), qI_ne (Or.inl (by decide)), g _ (by omega) (by omega)]; exact e4 i hi
  · rw [qI_ne (Or.inl (by decide)), qI_ne (Or.inl (by decide)), g _ (by omega) (by omega)]; exact e5 i hi
  · rw [qI_ne (Or.inl (by decide)), qI_ne (Or.inl (by decide)), g _ (by omega) (by omega)]; exact e6 i hi
  · have h2 : sPlace s c 2 = s 2 := g 2 (by decide) (by omega)
    rw [h2] at hk2 ⊢
    rw [qI_ne (Or.inl (by decide)), qI_ne (Or.inl (by decide)), qI_ne (Or.inl (by decide)), qI_ne (Or.inl (by decide)), qI_ne (Or.inl (by decide)), qI_ne (Or.inl (by decide)), g _ (by omega) (by omega), g _ (by omega) (by omega), g _ (by omega) (by omega)]
    exact e7 k hk hk2
theorem sRoad_out {s : Nat → Nat} {i j x : Nat} (h : x < 14 ∨ 28 ≤ x) : sRoad s i j x = s x := by unfold sRoad; rw [if_neg (by omega), if_neg (by omega)]
theorem sRoad_14 {s : Nat → Nat} {i j a : Nat} (h : a < 7) : sRoad s i j (14 + a) = s (14 + a) ||| pt i j a := by unfold sRoad; rw [if_pos (by omega), show 14 + a - 14 = a by omega]
theorem sRoad_21 {s : Nat → Nat} {i j a : Nat} (h : a < 7) : sRoad s i j (21 + a) = s (21 + a) ||| pt i j a := by unfold sRoad; rw [if_neg (by omega), if_pos (by omega), show 21 + a - 21 = a by omega]
theorem sShut_out {s : Nat → Nat} {i j x : Nat} (h : x < 21 ∨ 28 ≤ x) : sShut s i j x = s x := by unfold sShut; rw [if_neg (by omega)]
theorem sShut_21 {s : Nat → Nat} {i j a : Nat} (h : a < 7) : sShut s i j (21 + a) = s (21 + a) ^^^ pt i j a := by unfold sShut; rw [if_pos (by omega), show 21 + a - 21 = a by omega]
theorem or_true_iff {a b : Bool} : (a || b) = true ↔ a = true ∨ b = true := by cases a <;> cases b <;> decide
theorem WF.road {b : Nat} {s : Nat → Nat} (h : WF b s) {i j : Nat} (hi : i < s 0) (hj : j < s 0) (hij : i ≠ j) : WF b (sRoad s i j) := by
  obtain ⟨w0, w1, w2, w4, w5, w6, w7, w14, w21, wz, w3, wy, wu⟩ := h
  have o : ∀ x, x < 14 → sRoad s i j x = s x := fun x hx => sRoad_out (Or.inl hx)
  unfold WF
  rw [o 0 (by decide), o 1 (by decide), o 2 (by decide), o 3 (by decide), o 4 (by decide), o 5 (by decide), o 6 (by decide)]
  refine ⟨w0, w1, w2, w4, w5, w6, fun a ha => ?_, fun a ha => ?_, fun a ha => ?_, fun a ha ha2 => ?_, w3, fun a c ha hc => ?_, fun a c ha => ?_⟩
  · rw [o _ (by omega)]; exact w7 a ha
  · rw [sRoad_14 ha]; exact Nat.or_lt_two_pow (w14 a ha) (pt_lt hi hj)
  · rw [sRoad_21 ha]; exact Nat.or_lt_two_pow (w21 a ha) (pt_lt hi hj)
  · rw [sRoad_14 ha2, sRoad_21 ha2, pt_0 (by omega) (by omega), (wz a ha ha2).1, (wz a ha ha2).2]; exact ⟨rfl, rfl⟩
  · rw [sRoad_14 ha, sRoad_14 hc]
    refine Bool.eq_iff_iff.mpr ?_
    rw [Nat.testBit_or, Nat.testBit_or, or_true_iff, or_true_iff, pt_bit hij, pt_bit hij, wy a c ha hc]
    refine or_congr_right ?_
    omega
  · rw [sRoad_14 ha, sRoad_21 ha, Nat.testBit_or, Nat.testBit_or, or_true_iff, or_true_iff]
    exact fun q => q.imp (wu a c ha) id
theorem WF.shut {b : Nat} {s : Nat → Nat} (h : WF b s) {i j : Nat} (hi : i < s 0) (hj : j < s 0) (hij : i ≠ j) (hr : s (14 + i) >>> j &&& 1 = 1) : WF b (sShut s i j) := by
  obtain ⟨w0, w1, w2, w4, w5, w6, w7, w14, w21, wz, w3, wy, wu⟩ := h
  have o : ∀ x, x < 21 → sShut s i j x = s x := fun x hx => sShut_out (Or.inl hx)
  unfold WF
  rw [o 0 (by decide), o 1 (by decide), o 2 (by decide), o 3 (by decide), o 4 (by decide), o 5 (by decide), o 6 (by decide)]
  refine ⟨w0, w1, w2, w4, w5, w6, fun a ha => ?_, fun a ha => ?_, fun a ha => ?_, fun a ha ha2 => ?_, w3, fun a c ha hc => ?_, fun a c ha => ?_⟩
  · rw [o _ (by omega)]; exact w7 a ha
  · rw [o _ (by omega)]; exact w14 a ha
  · rw [sShut_21 ha]; exact Nat.xor_lt_two_pow (w21 a ha) (pt_lt hi hj)
  · rw [o _ (by omega), sShut_21 ha2, pt_0 (by omega) (by omega), (wz a ha ha2).1, (wz a ha ha2).2]; exact ⟨rfl, rfl⟩
  · rw [o _ (by omega), o _ (by omega)]; exact wy a c ha hc
  · rw [o (14 + a) (by omega), sShut_21 ha, Nat.testBit_xor]
    intro q
    by_cases hp : (pt i j a).testBit c = true
    · have hb := (bit_iff _ _).mp hr
      rcases (pt_bit hij).mp hp with ⟨rfl, rfl⟩ | ⟨rfl, rfl⟩
      · exact hb
      · rw [wy _ _ ha (by omega)]; exact hb
    · have : (pt i j a).testBit c = false := by simpa using hp
      rw [this] at q
      exact wu a c ha (by simpa using q)
theorem RS_road {M : qM} {b : Nat} {s : Nat → Nat} (hs : RS M 1 s) (hw : WF b s) {i j : Nat} (hi : i < 7) (hj : j < 7) (hij : i ≠ j) (hr : s (14 + i) >>> j &&& 1 = 0) : RS (qI (qI (qI (qI M (1 + 2) i (M.1 (1 + 2) i ||| 1 <<< j)) (1 + 2) j (M.1 (1 + 2) j ||| 1 <<< i)) (1 + 3) i (M.1 (1 + 3) i ^^^ 1 <<< j)) (1 + 3) j (M.1 (1 + 3) j ^^^ 1 <<< i)) 1 (sRoad s i j) := by
  obtain ⟨e0, e1, e2, e3, e4, e5, e6, e7⟩ := hs
  obtain ⟨w0, w1, w2, w4, w5, w6, w7, w14, w21, wz, w3, wy, wu⟩ := hw
  have o : ∀ x, (x < 14 ∨ 28 ≤ x) → sRoad s i j x = s x := fun x hx => sRoad_out hx
  have b1 : (s (14 + i)).testBit j = false := (sh_bit _ _).mp hr
  have b2 : (s (14 + j)).testBit i = false := by rw [← wy i j hi hj]; exact b1
  have b3 : (s (21 + i)).testBit j = false := by
    cases e : (s (21 + i)).testBit j with
    | false => rfl
    | true => rw [wu i j hi e] at b1; exact absurd b1 (by decide)
  have b4 : (s (21 + j)).testBit i = false := by
    cases e : (s (21 + j)).testBit i with
    | false => rfl
    | true => rw [wu j i hj e] at b2; exact absurd b2 (by decide)
  have xo : ∀ a k, a.testBit k = false → a ^^^ 1 <<< k = a ||| 1 <<< k := fun a k h => by
    refine Nat.eq_of_testBit_eq fun x => ?_
    rw [Nat.testBit_xor, Nat.testBit_or, Nat.one_shiftLeft, Nat.testBit_two_pow]
    by_cases e : k = x
    · subst e; rw [h]; simp
    · simp [e]
  refine ⟨?_, ?_, ?_, fun a ha => ?_, fun a ha => ?_, fun a ha => ?_, fun a ha => ?_, fun k hk hk2 => ?_⟩
  · rw [qI_ne (Or.inl (by decide)), qI_ne (Or.inl (by decide)), qI_ne (Or.inl (by decide)), qI_ne (Or.inl (by decide)), o _ (by omega)]; exact e0
  · rw [qI_ne (Or.inl (by decide)), qI_ne (Or.inl (by decide)), qI_ne (Or.inl (by decide)), qI_ne (Or.inl (by decide)), o _ (by omega)]; exact e1
  · rw [qI_ne (Or.inl (by decide)), qI_ne (Or.inl (by decide)), qI_ne (Or.inl (by decide)), qI_ne (Or.inl (by decide)), o _ (by omega)]; exact e2
  · rw [qI_ne (Or.inl (by decide)), qI_ne (Or.inl (by decide)), qI_ne (Or.inl (by decide)), qI_ne (Or.inl (by decide)), o _ (by omega)]; exact e3 a ha
  · rw [qI_ne (Or.inl (by decide)), qI_ne (Or.inl (by decide)), sRoad_14 ha]
    by_cases hj' : a = j
    · subst hj'; rw [qI_eq, pt_j hij, e4 _ hj]
    · by_cases hi' : a = i
      · subst hi'; rw [qI_ne (Or.inr hj'), qI_eq, pt_i, e4 _ hi]
      · rw [qI_ne (Or.inr hj'), qI_ne (Or.inr hi'), pt_0 hi' hj', Nat.or_zero, e4 a ha]
  · rw [sRoad_21 ha]
    by_cases hj' : a = j
    · subst hj'; rw [qI_eq, pt_j hij, e5 _ hj, xo _ _ b4]
    · by_cases hi' : a = i
      · subst hi'; rw [qI_ne (Or.inr hj'), qI_eq, pt_i, e5 _ hi, xo _ _ b3]
      · rw [qI_ne (Or.inr hj'), qI_ne (Or.inr hi'), qI_ne (Or.inl (by decide)), qI_ne (Or.inl (by decide)), pt_0 hi' hj', Nat.or_zero, e5 a ha]
  · rw [qI_ne (Or.inl (by decide)), qI_ne (Or.inl (by decide)), qI_ne (Or.inl (by decide)), qI_ne (Or.inl (by decide)), o _ (by omega)]; exact e6 a ha
  · have h2 : sRoad s i j 2 = s 2 := o 2 (by decide)
    rw [h2] at hk2 ⊢
    rw [o _ (by omega), o _ (by omega), o _ (by omega)]
    have h9 := e7 k hk hk2
    refine ⟨?_, ?_, ?_⟩
    · rw [qI_ne (Or.inl (by decide)), qI_ne (Or.inl (by decide)), qI_ne (Or.inl (by decide)), qI_ne (Or.inl (by decide))]; exact h9.1
    · rw [qI_ne (Or.inl (by decide)), qI_ne (Or.inl (by decide)), qI_ne (Or.inl (by decide)), qI_ne (Or.inl (by decide))]; exact h9.2.1
    · rw [qI_ne (Or.inl (by decide)), qI_ne (Or.inl (by decide)), qI_ne (Or.inl (by decide)), qI_ne (Or.inl (by decide))]; exact h9.2.2
theorem RS_shut {M : qM} {s : Nat → Nat} (hs : RS M 1 s) {i j : Nat} (hi : i < 7) (hj : j < 7) (hij : i ≠ j) : RS (qI (qI M (1 + 3) i (M.1 (1 + 3) i ^^^ 1 <<< j)) (1 + 3) j (M.1 (1 + 3) j ^^^ 1 <<< i)) 1 (sShut s i j) := by
  obtain ⟨e0, e1, e2, e3, e4, e5, e6, e7⟩ := hs
  have o : ∀ x, (x < 21 ∨ 28 ≤ x) → sShut s i j x = s x := fun x hx => sShut_out hx
  refine ⟨?_, ?_, ?_, fun a ha => ?_, fun a ha => ?_, fun a ha => ?_, fun a ha => ?_, fun k hk hk2 => ?_⟩
  · rw [qI_ne (Or.inl (by decide)), qI_ne (Or.inl (by decide)), o _ (by omega)]; exact e0
  · rw [qI_ne (Or.inl (by decide)), qI_ne (Or.inl (by decide)), o _ (by omega)]; exact e1
  · rw [qI_ne (Or.inl (by decide)), qI_ne (Or.inl (by decide)), o _ (by omega)]; exact e2
  · rw [qI_ne (Or.inl (by decide)), qI_ne (Or.inl (by decide)), o _ (by omega)]; exact e3 a ha
  · rw [qI_ne (Or.inl (by decide)), qI_ne (Or.inl (by decide)), o _ (by omega)]; exact e4 a ha
  · rw [sShut_21 ha]
    by_cases hj' : a = j
    · subst hj'; rw [qI_eq, pt_j hij, e5 _ hj]
    · by_cases hi' : a = i
      · subst hi'; rw [qI_ne (Or.inr hj'), qI_eq, pt_i, e5 _ hi]
      · rw [qI_ne (Or.inr hj'), qI_ne (Or.inr hi'), pt_0 hi' hj', Nat.xor_zero, e5 a ha]
  · rw [qI_ne (Or.inl (by decide)), qI_ne (Or.inl (by decide)), o _ (by omega)]; exact e6 a ha
  · have h2 : sShut s i j 2 = s 2 := o 2 (by decide)
    rw [h2] at hk2 ⊢
    rw [o _ (by omega), o _ (by omega), o _ (by omega)]
    have h9 := e7 k hk hk2
    refine ⟨?_, ?_, ?_⟩
    · rw [qI_ne (Or.inl (by decide)), qI_ne (Or.inl (by decide))]; exact h9.1
    · rw [qI_ne (Or.inl (by decide)), qI_ne (Or.inl (by decide))]; exact h9.2.1
    · rw [qI_ne (Or.inl (by decide)), qI_ne (Or.inl (by decide))]; exact h9.2.2
theorem WF.set {b : Nat} {s : Nat → Nat} (h : WF b s) {u v : Nat} (hu : u ≤ 2) (hv : if u = 2 then 1 ≤ v ∧ v ≤ 2 else v ≤ 3) : WF b (up s (4 + u) v) := by
  obtain ⟨w0, w1, w2, w4, w5, w6, w7, w14, w21, wz, w3, wy, wu⟩ := h
  have o : ∀ x, (x < 4 ∨ 7 ≤ x) → up s (4 + u) v x = s x := fun x hx => up_ne (by omega)
  unfold WF
  rw [o 0 (by decide), o 1 (by decide), o 2 (by decide), o 3 (by decide)]
  refine ⟨w0, w1, w2, ?_, ?_, ?_, fun a ha => ?_, fun a ha => ?_, fun a ha => ?_, fun a ha ha2 => ?_, w3, fun a c ha hc => ?_, fun a c ha => ?_⟩
  · unfold up; split
    · rw [if_neg (by omega)] at hv; exact hv
    · exact w4
  · unfold up; split
    · rw [if_neg (by omega)] at hv; exact hv
    · exact w5
  · unfold up; split
    · rw [if_pos (by omega)] at hv; omega
    · exact w6
  · rw [o _ (by omega)]; exact w7 a ha
  · rw [o _ (by omega)]; exact w14 a ha
  · rw [o _ (by omega)]; exact w21 a ha
  · rw [o _ (by omega), o _ (by omega)]; exact wz a ha ha2
  · rw [o _ (by omega), o _ (by omega)]; exact wy a c ha hc
  · rw [o _ (by omega), o _ (by omega)]; exact wu a c ha
theorem RS_set {M : qM} {s : Nat → Nat} (hs : RS M 1 s) {u v : Nat} (hu : u ≤ 2) : RS (qI M (1 + 4) u v) 1 (up s (4 + u) v) := by
  obtain ⟨e0, e1, e2, e3, e4, e5, e6, e7⟩ := hs
  have o : ∀ x, (x < 4 ∨ 7 ≤ x) → up s (4 + u) v x = s x := fun x hx => up_ne (by omega)
  refine ⟨?_, ?_, ?_, fun a ha => ?_, fun a ha => ?_, fun a ha => ?_, fun a ha => ?_, fun k hk hk2 => ?_⟩
  · rw [qI_ne (Or.inl (by decide)), o _ (by omega)]; exact e0
  · rw [qI_ne (Or.inl (by decide)), o _ (by omega)]; exact e1
  · rw [qI_ne (Or.inl (by decide)), o _ (by omega)]; exact e2
  · rw [qI_ne (Or.inl (by decide)), o _ (by omega)]; exact e3 a ha
  · rw [qI_ne (Or.inl (by decide)), o _ (by omega)]; exact e4 a ha
  · rw [qI_ne (Or.inl (by decide)), o _ (by omega)]; exact e5 a ha
  · by_cases e : a = u
    · subst e; rw [qI_eq, up_eq]
    · rw [qI_ne (Or.inr e), up_ne (by omega)]; exact e6 a ha
  · have h2 : up s (4 + u) v 2 = s 2 := o 2 (by decide)
    rw [h2] at hk2 ⊢
    rw [o _ (by omega), o _ (by omega), o _ (by omega), qI_ne (Or.inl (by decide)), qI_ne (Or.inl (by decide)), qI_ne (Or.inl (by decide))]
    exact e7 k hk hk2
theorem Cy.lbelieve (s : Nat → Nat) (u : Nat) : Cy s (sBelieve s u) := fun j a1 a2 a3 a4 => by unfold sBelieve; rw [if_neg a1, if_neg (by omega)]
theorem WF.believe {b : Nat} {s : Nat → Nat} (h : WF b s) {u : Nat} (hu : u < 2 ^ s 0) : WF b (sBelieve s u) :=
  h.cy (Cy.lbelieve s u) hu (Nat.zero_le _) rfl
theorem RS_believe {M : qM} {s : Nat → Nat} (hs : RS M 1 s) {u : Nat} : RS (qI (qI M 1 5 u) 1 6 0) 1 (sBelieve s u) := by
  obtain ⟨e0, e1, e2, e3, e4, e5, e6, e7⟩ := hs
  have o : ∀ x, x ≠ 1 → x ≠ 2 → x ≠ 3 → sBelieve s u x = s x := fun x a1 a2 a3 => by unfold sBelieve; rw [if_neg a1, if_neg (by omega)]
  refine ⟨?_, ?_, ?_, fun a ha => ?_, fun a ha => ?_, fun a ha => ?_, fun a ha => ?_, fun k hk hk2 => absurd hk2 (Nat.not_lt_zero _)⟩
  · rw [qI_ne (Or.inr (by decide)), qI_ne (Or.inr (by decide)), o _ (by omega) (by omega) (by omega)]; exact e0
  · rw [qI_ne (Or.inr (by decide)), qI_eq]; rfl
  · rw [qI_eq]; rfl
  · rw [qI_ne (Or.inl (by decide)), qI_ne (Or.inl (by decide)), o _ (by omega) (by omega) (by omega)]; exact e3 a ha
  · rw [qI_ne (Or.inl (by decide)), qI_ne (Or.inl (by decide)), o _ (by omega) (by omega) (by omega)]; exact e4 a ha
  · rw [qI_ne (Or.inl (by decide)), qI_ne (Or.inl (by decide)), o _ (by omega) (by omega) (by omega)]; exact e5 a ha
  · rw [qI_ne (Or.inl (by decide)), qI_ne (Or.inl (by decide)), o _ (by omega) (by omega) (by omega)]; exact e6 a ha
section CX5C
variable {l : Launch} {M M' : qM} {b b' : Nat} {s s' : Nat → Nat} {k : Nat} {was : Nat → Nat → Nat} {n : Nat} {t pa : Nat → Nat} {sw : Bool}
theorem RX.now (q : RX M b s k was n t pa sw) (hr : RS M' 1 s') (hw : WF b' s') (hb : b ≤ b') (hf : Fr M M' 1) (ht : Tb M s') : RX M' b' s' k was n t pa sw := by
  obtain ⟨q1, q2, q3, q4, q5, q6, q7, q8, q9, q10⟩ := q
  have h0 := hf.2 0 (Or.inl (by decide))
  refine ⟨by rw [hf.1]; exact q1, q2, hr, hw, by rw [h0]; exact q5, q6, fun i hi => ⟨(q7 i hi).1.mono (fun a a1 a2 => by have := q2.ge (show i < 4 by omega); exact hf.2 a (by omega)), (q7 i hi).2.mono hb⟩, ⟨by rw [hf.2 18 (by decide)]; exact q8.1, fun i hi => by rw [hf.2 19 (by decide)]; exact q8.2 i hi⟩, q9, ht.mono (by rw [h0]; exact ⟨rfl, rfl, rfl⟩) (fun a a1 a2 => hf.2 a (by omega))⟩
theorem RX.le (q : RX M b s k was n t pa sw) (hb : b ≤ b') : RX M b' s k was n t pa sw :=
  q.now q.2.2.1 (q.2.2.2.1.mono hb) hb ⟨rfl, fun _ _ => rfl⟩ q.2.2.2.2.2.2.2.2.2
theorem RX.forget (q : RX M b s k was n t pa sw) : RX (qI (qI (qI M 0 8 0) 0 9 0) 0 10 0) b s k was n t pa sw ∧ ∀ s', Tb (qI (qI (qI M 0 8 0) 0 9 0) 0 10 0) s' := by
  have hT : ∀ s', Tb (qI (qI (qI M 0 8 0) 0 9 0) 0 10 0) s' := by
    intro s'
    have e8 : (qI (qI (qI M 0 8 0) 0 9 0) 0 10 0).1 0 8 = 0 := by rw [qI_ne (Or.inr (by decide)), qI_ne (Or.inr (by decide)), qI_eq]
    have e9 : (qI (qI (qI M 0 8 0) 0 9 0) 0 10 0).1 0 9 = 0 := by rw [qI_ne (Or.inr (by decide)), qI_eq]
    have e10 : (qI (qI (qI M 0 8 0) 0 9 0) 0 10 0).1 0 10 = 0 := qI_eq
    have hr : ∀ a j, a ≠ 0 → (qI (qI (qI M 0 8 0) 0 9 0) 0 10 0).1 a j = M.1 a j := fun a j h => by rw [qI_ne (Or.inl h), qI_ne (Or.inl h), qI_ne (Or.inl h)]
    obtain ⟨t1, t2, t3, t4, t5, t6, t7, t8, t9, t10, t11⟩ := q.2.2.2.2.2.2.2.2.2
    unfold Tb
    rw [e8, e9, e10, hr 29 2 (by decide), hr 29 3 (by decide), hr 32 2 (by decide), hr 32 3 (by decide)]
    exact ⟨by decide, by decide, by decide, fun h => absurd h (by decide), fun h => absurd h (by decide), fun h => absurd h (by decide), t7, t8, t9, t10, fun g hg => (hr _ 0 (by omega)).trans (t11 g hg)⟩
  refine ⟨q.tb ⟨rfl, fun a a1 a2 => ?_, fun j hj => ?_⟩ (hT s), hT⟩
  · funext j; rw [qI_ne (Or.inl a1), qI_ne (Or.inl a1), qI_ne (Or.inl a1)]
  · rw [qI_ne (Or.inr (by omega)), qI_ne (Or.inr (by omega)), qI_ne (Or.inr (by omega))]
theorem c_place (hX : RX M b s k was n t pa sw) {u : Nat} (hu : u < 4294967296) : Ct l hdX kX mX5_place [.ref 0, .int (nI u)] M (OX b (oPlace s k was n t u)) := by
  refine Ct.of [some (.ref 0), some (.int (nI u))] (by decide +kernel) (fun h => absurd h (by decide)) (Nat.le_of_ble_eq_true rfl) rfl ?_
  have e := inS_iff (lo := 0) (hi := 3) hu (by decide) (by decide)
  have w7 := hX.2.2.2.1.1
  by_cases a1 : u ≤ 3
  · have e1 : inS u 0 3 = true := e.mpr ⟨Nat.zero_le _, a1⟩
    by_cases a2 : s 0 < 7
    · have er : oPlace s k was n t u = (s 0, act s k was n t (sPlace s u)) := by unfold oPlace; rw [if_pos a1, if_pos a2]
      refine T.iload_n (pc' := 1) (q_d dX5_place_0 0 rfl) rfl rfl rfl ?_
      refine T.iconst (pc' := 2) (v := nI 0) (q_d dX5_place_0 1 rfl) rfl (by decide) ?_
      refine T.iconst (pc' := 3) (v := nI 3) (q_d dX5_place_0 2 rfl) rfl (by decide) ?_
      refine T.callS (pc' := 6) (q_d dX5_place_0 3 rfl) rfl uX5_isWithin wM_X5_60 (c_isWithin hu (by decide) (hi := 3) (by decide)) rfl rfl (by decide) (Nat.le_of_ble_eq_true rfl) rfl rfl (fun _ => rfl) ?_
      rintro _ _ ⟨rfl, rfl⟩
      dsimp only [Option.toList, List.cons_append, List.nil_append, List.append_nil]
      refine T.if_neN (tgt := 12) (pc' := 9) (q_d dX5_place_0 4 rfl) rfl (by decide) (by split <;> decide) (fun h6 => ?_) (fun h6 => ?_)
      · refine T.aload_n (pc' := 13) (q_d dX5_place_0 7 rfl) rfl rfl rfl ?_
        refine T.getR (pc' := 16) (ci := 5) (k0 := 0) (q_d dX5_place_0 8 rfl) rfl rfl (by decide) rfl inX5 (by decide) rfl wF_X5_10 (rP (P := pX _ sw) (by first | exact hF.1 | exact r1.1 | exact hX.1) rfl) ?_
        refine T.getI (pc' := 19) (ci := 3) (k0 := 0) (q_d dX5_place_0 9 rfl) rfl rfl (by decide) rfl inX3 (by decide) rfl wF_X5_65 hX.2.2.1.1 ?_
        refine T.bipush (pc' := 21) (v := nI 7) (q_d dX5_place_0 10 rfl) rfl (by decide) ?_
        refine T.icmp_ltN (tgt := 27) (pc' := 24) (q_d dX5_place_0 11 rfl) rfl (by decide) (by omega) (by omega) (fun h21 => ?_) (fun h21 => ?_)
        · refine T.aload_n (pc' := 28) (q_d dX5_place_0 14 rfl) rfl rfl rfl ?_
          refine T.callV (pc' := 31) (ci := 5) (q_d dX5_place_0 15 rfl) rfl uX5_record wM_X5_70 (c_record hX) rfl rfl (by decide) rfl rfl (by decide) (Nat.le_of_ble_eq_true rfl) rfl rfl (fun _ => rfl) ?_
          rintro _ M2 ⟨rfl, ⟨pa2, r1⟩, r2, r3, r4⟩
          dsimp only [Option.toList, List.cons_append, List.nil_append, List.append_nil]
          refine T.aload_n (pc' := 32) (q_d dX5_place_0 16 rfl) rfl rfl rfl ?_
          refine T.callV (pc' := 35) (ci := 5) (q_d dX5_place_0 17 rfl) rfl uX5_forgetTables wM_X5_73 c_forgetTables rfl rfl (by decide) rfl rfl (by decide) (Nat.le_of_ble_eq_true rfl) rfl rfl (fun _ => rfl) ?_
          rintro _ _ ⟨rfl, e8⟩
          subst e8
          obtain ⟨hF, hT⟩ := r1.forget
          dsimp only [Option.toList, List.cons_append, List.nil_append, List.append_nil]
          refine T.aload_n (pc' := 36) (q_d dX5_place_0 18 rfl) rfl rfl rfl ?_
          refine T.getR (pc' := 39) (ci := 5) (k0 := 0) (q_d dX5_place_0 19 rfl) rfl rfl (by decide) rfl inX5 (by decide) rfl wF_X5_10 (rP (P := pX _ sw) (by first | exact hF.1 | exact r1.1 | exact hX.1) rfl) ?_
          refine T.iload_n (pc' := 40) (q_d dX5_place_0 20 rfl) rfl rfl rfl ?_
          refine T.callV (pc' := 43) (ci := 3) (q_d dX5_place_0 21 rfl) rfl uX3_addPlace wM_X5_76 (c_addPlace (Or.inl rfl) hF.1 hF.2.2.1 hF.2.2.2.1 a2) rfl rfl (by decide) rfl rfl (by decide) (Nat.le_of_ble_eq_true rfl) rfl rfl (fun _ => rfl) ?_
          rintro _ _ ⟨rfl, rfl⟩
          dsimp only [Option.toList, List.cons_append, List.nil_append, List.append_nil]
          refine T.iret (q_d dX5_place_0 22 rfl) rfl rfl rfl ?_
          rw [er]
          exact ⟨rfl, pa2, sw, hF.now (RS_place (b := b) hF.2.2.1 a2) (hF.2.2.2.1.place a2 a1) (Nat.le_refl _) ⟨rfl, fun a h9 => by funext j; rw [qI_ne (Or.inl (by omega)), qI_ne (Or.inl (by omega))]⟩ (hT _)⟩
        · exact absurd a2 (by omega)
      · exact absurd h6 (by rw [if_pos e1]; decide)
    · have er : oPlace s k was n t u = (4293967293, (s, k, was, n, t)) := by unfold oPlace; rw [if_pos a1, if_neg a2]
      refine T.iload_n (pc' := 1) (q_d dX5_place_0 0 rfl) rfl rfl rfl ?_
      refine T.iconst (pc' := 2) (v := nI 0) (q_d dX5_place_0 1 rfl) rfl (by decide) ?_
      refine T.iconst (pc' := 3) (v := nI 3) (q_d dX5_place_0 2 rfl) rfl (by decide) ?_
      refine T.callS (pc' := 6) (q_d dX5_place_0 3 rfl) rfl uX5_isWithin wM_X5_60 (c_isWithin hu (by decide) (hi := 3) (by decide)) rfl rfl (by decide) (Nat.le_of_ble_eq_true rfl) rfl rfl (fun _ => rfl) ?_
      rintro _ _ ⟨rfl, rfl⟩
      dsimp only [Option.toList, List.cons_append, List.nil_append, List.append_nil]
      refine T.if_neN (tgt := 12) (pc' := 9) (q_d dX5_place_0 4 rfl) rfl (by decide) (by split <;> decide) (fun h6 => ?_) (fun h6 => ?_)
      · refine T.aload_n (pc' := 13) (q_d dX5_place_0 7 rfl) rfl rfl rfl ?_
        refine T.getR (pc' := 16) (ci := 5) (k0 := 0) (q_d dX5_place_0 8 rfl) rfl rfl (by decide) rfl inX5 (by decide) rfl wF_X5_10 (rP hX.1 rfl) ?_
        refine T.getI (pc' := 19) (ci := 3) (k0 := 0) (q_d dX5_place_0 9 rfl) rfl rfl (by decide) rfl inX3 (by decide) rfl wF_X5_65 hX.2.2.1.1 ?_
        refine T.bipush (pc' := 21) (v := nI 7) (q_d dX5_place_0 10 rfl) rfl (by decide) ?_
        refine T.icmp_ltN (tgt := 27) (pc' := 24) (q_d dX5_place_0 11 rfl) rfl (by decide) (by omega) (by omega) (fun h21 => ?_) (fun h21 => ?_)
        · exact absurd h21 a2
        · refine T.ldc (pc' := 26) (v := nI 4293967293) (q_d dX5_place_0 12 rfl) rfl wN_X5_69 ?_
          refine T.iret (q_d dX5_place_0 13 rfl) rfl rfl rfl ?_
          rw [er]
          exact ⟨rfl, pa, sw, hX⟩
      · exact absurd h6 (by rw [if_pos e1]; decide)
  · have e1 : ¬ inS u 0 3 = true := fun q => a1 (e.mp q).2
    have er : oPlace s k was n t u = (4293967295, (s, k, was, n, t)) := by unfold oPlace; rw [if_neg a1]
    refine T.iload_n (pc' := 1) (q_d dX5_place_0 0 rfl) rfl rfl rfl ?_
    refine T.iconst (pc' := 2) (v := nI 0) (q_d dX5_place_0 1 rfl) rfl (by decide) ?_
    refine T.iconst (pc' := 3) (v := nI 3) (q_d dX5_place_0 2 rfl) rfl (by decide) ?_
    refine T.callS (pc' := 6) (q_d dX5_place_0 3 rfl) rfl uX5_isWithin wM_X5_60 (c_isWithin hu (by decide) (hi := 3) (by decide)) rfl rfl (by decide) (Nat.le_of_ble_eq_true rfl) rfl rfl (fun _ => rfl) ?_
    rintro _ _ ⟨rfl, rfl⟩
    dsimp only [Option.toList, List.cons_append, List.nil_append, List.append_nil]
    refine T.if_neN (tgt := 12) (pc' := 9) (q_d dX5_place_0 4 rfl) rfl (by decide) (by split <;> decide) (fun h6 => ?_) (fun h6 => ?_)
    · exact absurd (if_neg e1) h6
    · refine T.ldc (pc' := 11) (v := nI 4293967295) (q_d dX5_place_0 5 rfl) rfl wN_X5_64 ?_
      refine T.iret (q_d dX5_place_0 6 rfl) rfl rfl rfl ?_
      rw [er]
      exact ⟨rfl, pa, sw, hX⟩
theorem road_0 {M : qM} {i j x y : Nat} (hij : i ≠ j) (a : Nat) : (qI (qI M a i x) a j y).1 a i = x := by rw [qI_ne (Or.inr hij), qI_eq]
theorem c_road (hX : RX M b s k was n t pa sw) {u v : Nat} (hu : u < 4294967296) (hv : v < 4294967296) : Ct l hdX kX mX5_road [.ref 0, .int (nI u), .int (nI v)] M (OX b (oRoad s k was n t u v)) := by
  refine Ct.of [some (.ref 0), some (.int (nI u)), some (.int (nI v))] (by decide +kernel) (fun h => absurd h (by decide)) (Nat.le_of_ble_eq_true rfl) rfl ?_
  have w7 := hX.2.2.2.1.1
  have ho : SO 1 := Or.inl rfl
  by_cases a1 : u < s 0 ∧ v < s 0 ∧ u ≠ v
  · have g1 := and1_01 (s (14 + u) >>> v)
    by_cases a2 : s (14 + u) >>> v &&& 1 = 0
    · have er : oRoad s k was n t u v = (rdN (sRoad s u v) 14, act s k was n t (sRoad s u v)) := by unfold oRoad; rw [if_pos a1, if_pos a2]
      refine T.aload_n (pc' := 1) (q_d dX5_road_0 0 rfl) rfl rfl rfl ?_
      refine T.iload_n (pc' := 2) (q_d dX5_road_0 1 rfl) rfl rfl rfl ?_
      refine T.iload_n (pc' := 3) (q_d dX5_road_0 2 rfl) rfl rfl rfl ?_
      refine T.callV (pc' := 6) (ci := 5) (q_d dX5_road_0 3 rfl) rfl uX5_arePlaces wM_X5_80 (c_arePlaces hX.1 hX.2.2.1 hX.2.2.2.1 hu hv) rfl rfl (by decide) rfl rfl (by decide) (Nat.le_of_ble_eq_true rfl) rfl rfl (fun _ => rfl) ?_
      rintro _ _ ⟨rfl, rfl⟩
      dsimp only [Option.toList, List.cons_append, List.nil_append, List.append_nil]
      refine T.if_neN (tgt := 12) (pc' := 9) (q_d dX5_road_0 4 rfl) rfl (by decide) (by split <;> decide) (fun h6 => ?_) (fun h6 => ?_)
      · refine T.aload_n (pc' := 13) (q_d dX5_road_0 7 rfl) rfl rfl rfl ?_
        refine T.getR (pc' := 16) (ci := 5) (k0 := 0) (q_d dX5_road_0 8 rfl) rfl rfl (by decide) rfl inX5 (by decide) rfl wF_X5_10 (rP (P := pX _ sw) (by first | exact hG.1 | exact hF.1 | exact r1.1 | exact hX.1) rfl) ?_
        refine T.iload_n (pc' := 17) (q_d dX5_road_0 9 rfl) rfl rfl rfl ?_
        refine T.iload_n (pc' := 18) (q_d dX5_road_0 10 rfl) rfl rfl rfl ?_
        refine T.callV (pc' := 21) (ci := 3) (q_d dX5_road_0 11 rfl) rfl uX3_hasRoad wM_X5_84 (c_hasRoad ho hX.1 hX.2.2.1 hX.2.2.2.1 (show u < 7 by omega) (show v < 7 by omega)) rfl rfl (by decide) rfl rfl (by decide) (Nat.le_of_ble_eq_true rfl) rfl rfl (fun _ => rfl) ?_
        rintro _ _ ⟨rfl, rfl⟩
        dsimp only [Option.toList, List.cons_append, List.nil_append, List.append_nil]
        refine T.if_eqN (tgt := 27) (pc' := 24) (q_d dX5_road_0 12 rfl) rfl (by decide) (by omega) (fun h21 => ?_) (fun h21 => ?_)
        · refine T.aload_n (pc' := 28) (q_d dX5_road_0 15 rfl) rfl rfl rfl ?_
          refine T.callV (pc' := 31) (ci := 5) (q_d dX5_road_0 16 rfl) rfl uX5_record wM_X5_70 (c_record hX) rfl rfl (by decide) rfl rfl (by decide) (Nat.le_of_ble_eq_true rfl) rfl rfl (fun _ => rfl) ?_
          rintro _ M2 ⟨rfl, ⟨pa2, r1⟩, r2, r3, r4⟩
          dsimp only [Option.toList, List.cons_append, List.nil_append, List.append_nil]
          refine T.aload_n (pc' := 32) (q_d dX5_road_0 17 rfl) rfl rfl rfl ?_
          refine T.callV (pc' := 35) (ci := 5) (q_d dX5_road_0 18 rfl) rfl uX5_forgetTables wM_X5_73 c_forgetTables rfl rfl (by decide) rfl rfl (by decide) (Nat.le_of_ble_eq_true rfl) rfl rfl (fun _ => rfl) ?_
          rintro _ _ ⟨rfl, e8⟩
          subst e8
          obtain ⟨hF, hT⟩ := r1.forget
          dsimp only [Option.toList, List.cons_append, List.nil_append, List.append_nil]
          refine T.aload_n (pc' := 36) (q_d dX5_road_0 19 rfl) rfl rfl rfl ?_
          refine T.getR (pc' := 39) (ci := 5) (k0 := 0) (q_d dX5_road_0 20 rfl) rfl rfl (by decide) rfl inX5 (by decide) rfl wF_X5_10 (rP (P := pX _ sw) (by first | exact hG.1 | exact hF.1 | exact r1.1 | exact hX.1) rfl) ?_
          refine T.iload_n (pc' := 40) (q_d dX5_road_0 21 rfl) rfl rfl rfl ?_
          refine T.iload_n (pc' := 41) (q_d dX5_road_0 22 rfl) rfl rfl rfl ?_
          refine T.callV (pc' := 44) (ci := 3) (q_d dX5_road_0 23 rfl) rfl uX3_addRoad wM_X5_88 (c_addRoad ho hF.1 (show u < 7 by omega) (show v < 7 by omega) a1.2.2) rfl rfl (by decide) rfl rfl (by decide) (Nat.le_of_ble_eq_true rfl) rfl rfl (fun _ => rfl) ?_
          rintro _ M3 ⟨rfl, e9⟩
          have hG : RX M3 b (sRoad s u v) (pushK k) (pushW k was s) n t pa2 sw := by rw [e9]; exact hF.now (RS_road hF.2.2.1 hF.2.2.2.1 (show u < 7 by omega) (show v < 7 by omega) a1.2.2 a2) (hF.2.2.2.1.road a1.1 a1.2.1 a1.2.2) (Nat.le_refl _) ⟨rfl, fun a h9 => by funext j; rw [qI_ne (Or.inl (by omega)), qI_ne (Or.inl (by omega)), qI_ne (Or.inl (by omega)), qI_ne (Or.inl (by omega))]⟩ (hT _)
          dsimp only [Option.toList, List.cons_append, List.nil_append, List.append_nil]
          refine T.aload_n (pc' := 45) (q_d dX5_road_0 24 rfl) rfl rfl rfl ?_
          refine T.getR (pc' := 48) (ci := 5) (k0 := 0) (q_d dX5_road_0 25 rfl) rfl rfl (by decide) rfl inX5 (by decide) rfl wF_X5_10 (rP (P := pX _ sw) (by first | exact hG.1 | exact hF.1 | exact r1.1 | exact hX.1) rfl) ?_
          refine T.aload_n (pc' := 49) (q_d dX5_road_0 26 rfl) rfl rfl rfl ?_
          refine T.getR (pc' := 52) (ci := 5) (k0 := 0) (q_d dX5_road_0 27 rfl) rfl rfl (by decide) rfl inX5 (by decide) rfl wF_X5_10 (rP (P := pX _ sw) (by first | exact hG.1 | exact hF.1 | exact r1.1 | exact hX.1) rfl) ?_
          refine T.getR (pc' := 55) (ci := 3) (k0 := 2) (q_d dX5_road_0 28 rfl) rfl rfl (by decide) rfl inX3 (by decide) rfl wF_X5_91 (rP (P := pX _ sw) (by first | exact hG.1 | exact hF.1 | exact r1.1 | exact hX.1) rfl) ?_
          refine T.callV (pc' := 58) (ci := 3) (q_d dX5_road_0 29 rfl) rfl uX3_countRoads wM_X5_95 (c_countRoads ho hG.2.2.1 hG.2.2.2.1 (SO.a2 ho) (by decide) hG.2.2.1.2.2.2.2.1 (fun i hi => Nat.lt_of_lt_of_le (hG.2.2.2.1.2.2.2.2.2.2.2.1 i hi) (p2_le hG.2.2.2.1.1))) rfl rfl (by decide) rfl rfl (by decide) (Nat.le_of_ble_eq_true rfl) rfl rfl (fun _ => rfl) ?_
          rintro _ _ ⟨rfl, rfl⟩
          dsimp only [Option.toList, List.cons_append, List.nil_append, List.append_nil]
          refine T.iret (q_d dX5_road_0 30 rfl) rfl rfl rfl ?_
          rw [er]
          exact ⟨rfl, pa2, sw, hG⟩
        · exact absurd a2 h21
      · exact absurd h6 (by rw [if_pos a1]; decide)
    · have er : oRoad s k was n t u v = (4293967294, (s, k, was, n, t)) := by unfold oRoad; rw [if_pos a1, if_neg a2]
      refine T.aload_n (pc' := 1) (q_d dX5_road_0 0 rfl) rfl rfl rfl ?_
      refine T.iload_n (pc' := 2) (q_d dX5_road_0 1 rfl) rfl rfl rfl ?_
      refine T.iload_n (pc' := 3) (q_d dX5_road_0 2 rfl) rfl rfl rfl ?_
      refine T.callV (pc' := 6) (ci := 5) (q_d dX5_road_0 3 rfl) rfl uX5_arePlaces wM_X5_80 (c_arePlaces hX.1 hX.2.2.1 hX.2.2.2.1 hu hv) rfl rfl (by decide) rfl rfl (by decide) (Nat.le_of_ble_eq_true rfl) rfl rfl (fun _ => rfl) ?_
      rintro _ _ ⟨rfl, rfl⟩
      dsimp only [Option.toList, List.cons_append, List.nil_append, List.append_nil]
      refine T.if_neN (tgt := 12) (pc' := 9) (q_d dX5_road_0 4 rfl) rfl (by decide) (by split <;> decide) (fun h6 => ?_) (fun h6 => ?_)
      · refine T.aload_n (pc' := 13) (q_d dX5_road_0 7 rfl) rfl rfl rfl ?_
        refine T.getR (pc' := 16) (ci := 5) (k0 := 0) (q_d dX5_road_0 8 rfl) rfl rfl (by decide) rfl inX5 (by decide) rfl wF_X5_10 (rP hX.1 rfl) ?_
        refine T.iload_n (pc' := 17) (q_d dX5_road_0 9 rfl) rfl rfl rfl ?_
        refine T.iload_n (pc' := 18) (q_d dX5_road_0 10 rfl) rfl rfl rfl ?_
        refine T.callV (pc' := 21) (ci := 3) (q_d dX5_road_0 11 rfl) rfl uX3_hasRoad wM_X5_84 (c_hasRoad ho hX.1 hX.2.2.1 hX.2.2.2.1 (show u < 7 by omega) (show v < 7 by omega)) rfl rfl (by decide) rfl rfl (by decide) (Nat.le_of_ble_eq_true rfl) rfl rfl (fun _ => rfl) ?_
        rintro _ _ ⟨rfl, rfl⟩
        dsimp only [Option.toList, List.cons_append, List.nil_append, List.append_nil]
        refine T.if_eqN (tgt := 27) (pc' := 24) (q_d dX5_road_0 12 rfl) rfl (by decide) (by omega) (fun h21 => ?_) (fun h21 => ?_)
        · exact absurd h21 a2
        · refine T.ldc (pc' := 26) (v := nI 4293967294) (q_d dX5_road_0 13 rfl) rfl wN_X5_87 ?_
          refine T.iret (q_d dX5_road_0 14 rfl) rfl rfl rfl ?_
          rw [er]
          exact ⟨rfl, pa, sw, hX⟩
      · exact absurd h6 (by rw [if_pos a1]; decide)
  · have er : oRoad s k was n t u v = (4293967295, (s, k, was, n, t)) := by unfold oRoad; rw [if_neg a1]
    refine T.aload_n (pc' := 1) (q_d dX5_road_0 0 rfl) rfl rfl rfl ?_
    refine T.iload_n (pc' := 2) (q_d dX5_road_0 1 rfl) rfl rfl rfl ?_
    refine T.iload_n (pc' := 3) (q_d dX5_road_0 2 rfl) rfl rfl rfl ?_
    refine T.callV (pc' := 6) (ci := 5) (q_d dX5_road_0 3 rfl) rfl uX5_arePlaces wM_X5_80 (c_arePlaces hX.1 hX.2.2.1 hX.2.2.2.1 hu hv) rfl rfl (by decide) rfl rfl (by decide) (Nat.le_of_ble_eq_true rfl) rfl rfl (fun _ => rfl) ?_
    rintro _ _ ⟨rfl, rfl⟩
    dsimp only [Option.toList, List.cons_append, List.nil_append, List.append_nil]
    refine T.if_neN (tgt := 12) (pc' := 9) (q_d dX5_road_0 4 rfl) rfl (by decide) (by split <;> decide) (fun h6 => ?_) (fun h6 => ?_)
    · exact absurd (if_neg a1) h6
    · refine T.ldc (pc' := 11) (v := nI 4293967295) (q_d dX5_road_0 5 rfl) rfl wN_X5_64 ?_
      refine T.iret (q_d dX5_road_0 6 rfl) rfl rfl rfl ?_
      rw [er]
      exact ⟨rfl, pa, sw, hX⟩
theorem c_shut (hX : RX M b s k was n t pa sw) {u v w : Nat} (hu : u < 4294967296) (hv : v < 4294967296) (hw9 : w < 4294967296) : Ct l hdX kX mX5_shut [.ref 0, .int (nI u), .int (nI v), .int (nI w)] M (OX b (oShut s k was n t u v w)) := by
  refine Ct.of [some (.ref 0), some (.int (nI u)), some (.int (nI v)), some (.int (nI w)), none] (by decide +kernel) (fun h => absurd h (by decide)) (Nat.le_of_ble_eq_true rfl) rfl ?_
  have w7 := hX.2.2.2.1.1
  have ho : SO 1 := Or.inl rfl
  have e := inS_iff (lo := 0) (hi := 1) hw9 (by decide) (by decide)
  by_cases a0 : u < s 0 ∧ v < s 0 ∧ u ≠ v
  · by_cases a1 : w ≤ 1
    · have e1 : inS w 0 1 = true := e.mpr ⟨Nat.zero_le _, a1⟩
      have g1 := and1_01 (s (14 + u) >>> v)
      have g2 := and1_01 (s (21 + u) >>> v)
      by_cases a2 : s (14 + u) >>> v &&& 1 = 1 ∧ s (21 + u) >>> v &&& 1 = w
      · have er : oShut s k was n t u v w = (rdN (sShut s u v) 21, act s k was n t (sShut s u v)) := by unfold oShut; rw [if_pos ⟨a0, a1⟩, if_pos a2]
        refine T.aload_n (pc' := 1) (q_d dX5_shut_0 0 rfl) rfl rfl rfl ?_
        refine T.iload_n (pc' := 2) (q_d dX5_shut_0 1 rfl) rfl rfl rfl ?_
        refine T.iload_n (pc' := 3) (q_d dX5_shut_0 2 rfl) rfl rfl rfl ?_
        refine T.callV (pc' := 6) (ci := 5) (q_d dX5_shut_0 3 rfl) rfl uX5_arePlaces wM_X5_80 (c_arePlaces hX.1 hX.2.2.1 hX.2.2.2.1 hu hv) rfl rfl (by decide) rfl rfl (by decide) (Nat.le_of_ble_eq_true rfl) rfl rfl (fun _ => rfl) ?_
        rintro _ _ ⟨rfl, rfl⟩
        dsimp only [Option.toList, List.cons_append, List.nil_append, List.append_nil]
        refine T.if_eqN (tgt := 18) (pc' := 9) (q_d dX5_shut_0 4 rfl) rfl (by decide) (by split <;> decide) (fun h6 => ?_) (fun h6 => ?_)
        · exact absurd h6 (by rw [if_pos a0]; decide)
        · refine T.iload_n (pc' := 10) (q_d dX5_shut_0 5 rfl) rfl rfl rfl ?_
          refine T.iconst (pc' := 11) (v := nI 0) (q_d dX5_shut_0 6 rfl) rfl (by decide) ?_
          refine T.iconst (pc' := 12) (v := nI 1) (q_d dX5_shut_0 7 rfl) rfl (by decide) ?_
          refine T.callS (pc' := 15) (q_d dX5_shut_0 8 rfl) rfl uX5_isWithin wM_X5_60 (c_isWithin hw9 (by decide) (hi := 1) (by decide)) rfl rfl (by decide) (Nat.le_of_ble_eq_true rfl) rfl rfl (fun _ => rfl) ?_
          rintro _ _ ⟨rfl, rfl⟩
          dsimp only [Option.toList, List.cons_append, List.nil_append, List.append_nil]
          refine T.if_neN (tgt := 21) (pc' := 18) (q_d dX5_shut_0 9 rfl) rfl (by decide) (by split <;> decide) (fun h15 => ?_) (fun h15 => ?_)
          · refine T.aload_n (pc' := 22) (q_d dX5_shut_0 12 rfl) rfl rfl rfl ?_
            refine T.getR (pc' := 25) (ci := 5) (k0 := 0) (q_d dX5_shut_0 13 rfl) rfl rfl (by decide) rfl inX5 (by decide) rfl wF_X5_10 (rP (P := pX _ sw) (by first | exact hG.1 | exact hF.1 | exact r1.1 | exact hX.1) rfl) ?_
            refine T.iload_n (pc' := 26) (q_d dX5_shut_0 14 rfl) rfl rfl rfl ?_
            refine T.iload_n (pc' := 27) (q_d dX5_shut_0 15 rfl) rfl rfl rfl ?_
            refine T.callV (pc' := 30) (ci := 3) (q_d dX5_shut_0 16 rfl) rfl uX3_hasOpenRoad wM_X5_99 (c_hasOpenRoad ho hX.1 hX.2.2.1 hX.2.2.2.1 (show u < 7 by omega) (show v < 7 by omega)) rfl rfl (by decide) rfl rfl (by decide) (Nat.le_of_ble_eq_true rfl) rfl rfl (fun _ => rfl) ?_
            rintro _ _ ⟨rfl, rfl⟩
            dsimp only [Option.toList, List.cons_append, List.nil_append, List.append_nil]
            refine T.if_neN (tgt := 37) (pc' := 33) (q_d dX5_shut_0 17 rfl) rfl (by decide) (by omega) (fun h30 => ?_) (fun h30 => ?_)
            · refine T.iconst (pc' := 38) (v := nI 0) (q_d dX5_shut_0 20 rfl) rfl (by decide) ?_
              refine T.istore (pc' := 40) (q_d dX5_shut_0 21 rfl) rfl (by decide) rfl rfl ?_
              refine T.aload_n (pc' := 41) (q_d dX5_shut_0 22 rfl) rfl rfl rfl ?_
              refine T.getR (pc' := 44) (ci := 5) (k0 := 0) (q_d dX5_shut_0 23 rfl) rfl rfl (by decide) rfl inX5 (by decide) rfl wF_X5_10 (rP (P := pX _ sw) (by first | exact hG.1 | exact hF.1 | exact r1.1 | exact hX.1) rfl) ?_
              refine T.iload_n (pc' := 45) (q_d dX5_shut_0 24 rfl) rfl rfl rfl ?_
              refine T.iload_n (pc' := 46) (q_d dX5_shut_0 25 rfl) rfl rfl rfl ?_
              refine T.callV (pc' := 49) (ci := 3) (q_d dX5_shut_0 26 rfl) rfl uX3_hasRoad wM_X5_84 (c_hasRoad ho hX.1 hX.2.2.1 hX.2.2.2.1 (show u < 7 by omega) (show v < 7 by omega)) rfl rfl (by decide) rfl rfl (by decide) (Nat.le_of_ble_eq_true rfl) rfl rfl (fun _ => rfl) ?_
              rintro _ _ ⟨rfl, rfl⟩
              dsimp only [Option.toList, List.cons_append, List.nil_append, List.append_nil]
              refine T.if_eqN (tgt := 67) (pc' := 52) (q_d dX5_shut_0 27 rfl) rfl (by decide) (by omega) (fun h49 => ?_) (fun h49 => ?_)
              · exact absurd a2.1 (by omega)
              · refine T.iload (pc' := 54) (q_d dX5_shut_0 28 rfl) rfl rfl ?_
                refine T.iload_n (pc' := 55) (q_d dX5_shut_0 29 rfl) rfl rfl rfl ?_
                refine T.iconst (pc' := 56) (v := nI 1) (q_d dX5_shut_0 30 rfl) rfl (by decide) ?_
                refine T.icmp_neN (tgt := 63) (pc' := 59) (q_d dX5_shut_0 31 rfl) rfl (by decide) (by omega) (by omega) (fun h56 => ?_) (fun h56 => ?_)
                · refine T.iconst (pc' := 64) (v := nI 0) (q_d dX5_shut_0 34 rfl) rfl (by decide) ?_
                  refine T.icmp_neN (tgt := 70) (pc' := 67) (q_d dX5_shut_0 35 rfl) rfl (by decide) (by first | omega | decide) (by first | omega | decide) (fun h64 => ?_) (fun h64 => ?_)
                  · refine T.aload_n (pc' := 71) (q_d dX5_shut_0 38 rfl) rfl rfl rfl ?_
                    refine T.callV (pc' := 74) (ci := 5) (q_d dX5_shut_0 39 rfl) rfl uX5_record wM_X5_70 (c_record hX) rfl rfl (by decide) rfl rfl (by decide) (Nat.le_of_ble_eq_true rfl) rfl rfl (fun _ => rfl) ?_
                    rintro _ M2 ⟨rfl, ⟨pa2, r1⟩, r2, r3, r4⟩
                    dsimp only [Option.toList, List.cons_append, List.nil_append, List.append_nil]
                    refine T.aload_n (pc' := 75) (q_d dX5_shut_1 0 rfl) rfl rfl rfl ?_
                    refine T.callV (pc' := 78) (ci := 5) (q_d dX5_shut_1 1 rfl) rfl uX5_forgetTables wM_X5_73 c_forgetTables rfl rfl (by decide) rfl rfl (by decide) (Nat.le_of_ble_eq_true rfl) rfl rfl (fun _ => rfl) ?_
                    rintro _ _ ⟨rfl, e8⟩
                    subst e8
                    obtain ⟨hF, hT⟩ := r1.forget
                    dsimp only [Option.toList, List.cons_append, List.nil_append, List.append_nil]
                    refine T.aload_n (pc' := 79) (q_d dX5_shut_1 2 rfl) rfl rfl rfl ?_
                    refine T.getR (pc' := 82) (ci := 5) (k0 := 0) (q_d dX5_shut_1 3 rfl) rfl rfl (by decide) rfl inX5 (by decide) rfl wF_X5_10 (rP (P := pX _ sw) (by first | exact hG.1 | exact hF.1 | exact r1.1 | exact hX.1) rfl) ?_
                    refine T.iload_n (pc' := 83) (q_d dX5_shut_1 4 rfl) rfl rfl rfl ?_
                    refine T.iload_n (pc' := 84) (q_d dX5_shut_1 5 rfl) rfl rfl rfl ?_
                    refine T.callV (pc' := 87) (ci := 3) (q_d dX5_shut_1 6 rfl) rfl uX3_turnRoad wM_X5_102 (c_turnRoad ho hF.1 (show u < 7 by omega) (show v < 7 by omega) a0.2.2) rfl rfl (by decide) rfl rfl (by decide) (Nat.le_of_ble_eq_true rfl) rfl rfl (fun _ => rfl) ?_
                    rintro _ M3 ⟨rfl, e9⟩
                    have hG : RX M3 b (sShut s u v) (pushK k) (pushW k was s) n t pa2 sw := by rw [e9]; exact hF.now (RS_shut hF.2.2.1 (show u < 7 by omega) (show v < 7 by omega) a0.2.2) (hF.2.2.2.1.shut a0.1 a0.2.1 a0.2.2 a2.1) (Nat.le_refl _) ⟨rfl, fun a h9 => by funext j; rw [qI_ne (Or.inl (by omega)), qI_ne (Or.inl (by omega))]⟩ (hT _)
                    dsimp only [Option.toList, List.cons_append, List.nil_append, List.append_nil]
                    refine T.aload_n (pc' := 88) (q_d dX5_shut_1 7 rfl) rfl rfl rfl ?_
                    refine T.getR (pc' := 91) (ci := 5) (k0 := 0) (q_d dX5_shut_1 8 rfl) rfl rfl (by decide) rfl inX5 (by decide) rfl wF_X5_10 (rP (P := pX _ sw) (by first | exact hG.1 | exact hF.1 | exact r1.1 | exact hX.1) rfl) ?_
                    refine T.aload_n (pc' := 92) (q_d dX5_shut_1 9 rfl) rfl rfl rfl ?_
                    refine T.getR (pc' := 95) (ci := 5) (k0 := 0) (q_d dX5_shut_1 10 rfl) rfl rfl (by decide) rfl inX5 (by decide) rfl wF_X5_10 (rP (P := pX _ sw) (by first | exact hG.1 | exact hF.1 | exact r1.1 | exact hX.1) rfl) ?_
                    refine T.getR (pc' := 98) (ci := 3) (k0 := 3) (q_d dX5_shut_1 11 rfl) rfl rfl (by decide) rfl inX3 (by decide) rfl wF_X5_105 (rP (P := pX _ sw) (by first | exact hG.1 | exact hF.1 | exact r1.1 | exact hX.1) rfl) ?_
                    refine T.callV (pc' := 101) (ci := 3) (q_d dX5_shut_1 12 rfl) rfl uX3_countRoads wM_X5_95 (c_countRoads ho hG.2.2.1 hG.2.2.2.1 (SO.a3 ho) (by decide) hG.2.2.1.2.2.2.2.2.1 (fun i hi => Nat.lt_of_lt_of_le (hG.2.2.2.1.2.2.2.2.2.2.2.2.1 i hi) (p2_le hG.2.2.2.1.1))) rfl rfl (by decide) rfl rfl (by decide) (Nat.le_of_ble_eq_true rfl) rfl rfl (fun _ => rfl) ?_
                    rintro _ _ ⟨rfl, rfl⟩
                    dsimp only [Option.toList, List.cons_append, List.nil_append, List.append_nil]
                    refine T.iret (q_d dX5_shut_1 13 rfl) rfl rfl rfl ?_
                    rw [er]
                    exact ⟨rfl, pa2, sw, hG⟩
                  · exact absurd a2.2 (by omega)
                · refine T.iconst (pc' := 60) (v := nI 1) (q_d dX5_shut_0 32 rfl) rfl (by decide) ?_
                  refine T.goto (tgt := 64) (q_d dX5_shut_0 33 rfl) (by decide) ?_
                  refine T.icmp_neN (tgt := 70) (pc' := 67) (q_d dX5_shut_0 35 rfl) rfl (by decide) (by first | omega | decide) (by first | omega | decide) (fun h64 => ?_) (fun h64 => ?_)
                  · refine T.aload_n (pc' := 71) (q_d dX5_shut_0 38 rfl) rfl rfl rfl ?_
                    refine T.callV (pc' := 74) (ci := 5) (q_d dX5_shut_0 39 rfl) rfl uX5_record wM_X5_70 (c_record hX) rfl rfl (by decide) rfl rfl (by decide) (Nat.le_of_ble_eq_true rfl) rfl rfl (fun _ => rfl) ?_
                    rintro _ M2 ⟨rfl, ⟨pa2, r1⟩, r2, r3, r4⟩
                    dsimp only [Option.toList, List.cons_append, List.nil_append, List.append_nil]
                    refine T.aload_n (pc' := 75) (q_d dX5_shut_1 0 rfl) rfl rfl rfl ?_
                    refine T.callV (pc' := 78) (ci := 5) (q_d dX5_shut_1 1 rfl) rfl uX5_forgetTables wM_X5_73 c_forgetTables rfl rfl (by decide) rfl rfl (by decide) (Nat.le_of_ble_eq_true rfl) rfl rfl (fun _ => rfl) ?_
                    rintro _ _ ⟨rfl, e8⟩
                    subst e8
                    obtain ⟨hF, hT⟩ := r1.forget
                    dsimp only [Option.toList, List.cons_append, List.nil_append, List.append_nil]
                    refine T.aload_n (pc' := 79) (q_d dX5_shut_1 2 rfl) rfl rfl rfl ?_
                    refine T.getR (pc' := 82) (ci := 5) (k0 := 0) (q_d dX5_shut_1 3 rfl) rfl rfl (by decide) rfl inX5 (by decide) rfl wF_X5_10 (rP (P := pX _ sw) (by first | exact hG.1 | exact hF.1 | exact r1.1 | exact hX.1) rfl) ?_
                    refine T.iload_n (pc' := 83) (q_d dX5_shut_1 4 rfl) rfl rfl rfl ?_
                    refine T.iload_n (pc' := 84) (q_d dX5_shut_1 5 rfl) rfl rfl rfl ?_
                    refine T.callV (pc' := 87) (ci := 3) (q_d dX5_shut_1 6 rfl) rfl uX3_turnRoad wM_X5_102 (c_turnRoad ho hF.1 (show u < 7 by omega) (show v < 7 by omega) a0.2.2) rfl rfl (by decide) rfl rfl (by decide) (Nat.le_of_ble_eq_true rfl) rfl rfl (fun _ => rfl) ?_
                    rintro _ M3 ⟨rfl, e9⟩
                    have hG : RX M3 b (sShut s u v) (pushK k) (pushW k was s) n t pa2 sw := by rw [e9]; exact hF.now (RS_shut hF.2.2.1 (show u < 7 by omega) (show v < 7 by omega) a0.2.2) (hF.2.2.2.1.shut a0.1 a0.2.1 a0.2.2 a2.1) (Nat.le_refl _) ⟨rfl, fun a h9 => by funext j; rw [qI_ne (Or.inl (by omega)), qI_ne (Or.inl (by omega))]⟩ (hT _)
                    dsimp only [Option.toList, List.cons_append, List.nil_append, List.append_nil]
                    refine T.aload_n (pc' := 88) (q_d dX5_shut_1 7 rfl) rfl rfl rfl ?_
                    refine T.getR (pc' := 91) (ci := 5) (k0 := 0) (q_d dX5_shut_1 8 rfl) rfl rfl (by decide) rfl inX5 (by decide) rfl wF_X5_10 (rP (P := pX _ sw) (by first | exact hG.1 | exact hF.1 | exact r1.1 | exact hX.1) rfl) ?_
                    refine T.aload_n (pc' := 92) (q_d dX5_shut_1 9 rfl) rfl rfl rfl ?_
                    refine T.getR (pc' := 95) (ci := 5) (k0 := 0) (q_d dX5_shut_1 10 rfl) rfl rfl (by decide) rfl inX5 (by decide) rfl wF_X5_10 (rP (P := pX _ sw) (by first | exact hG.1 | exact hF.1 | exact r1.1 | exact hX.1) rfl) ?_
                    refine T.getR (pc' := 98) (ci := 3) (k0 := 3) (q_d dX5_shut_1 11 rfl) rfl rfl (by decide) rfl inX3 (by decide) rfl wF_X5_105 (rP (P := pX _ sw) (by first | exact hG.1 | exact hF.1 | exact r1.1 | exact hX.1) rfl) ?_
                    refine T.callV (pc' := 101) (ci := 3) (q_d dX5_shut_1 12 rfl) rfl uX3_countRoads wM_X5_95 (c_countRoads ho hG.2.2.1 hG.2.2.2.1 (SO.a3 ho) (by decide) hG.2.2.1.2.2.2.2.2.1 (fun i hi => Nat.lt_of_lt_of_le (hG.2.2.2.1.2.2.2.2.2.2.2.2.1 i hi) (p2_le hG.2.2.2.1.1))) rfl rfl (by decide) rfl rfl (by decide) (Nat.le_of_ble_eq_true rfl) rfl rfl (fun _ => rfl) ?_
                    rintro _ _ ⟨rfl, rfl⟩
                    dsimp only [Option.toList, List.cons_append, List.nil_append, List.append_nil]
                    refine T.iret (q_d dX5_shut_1 13 rfl) rfl rfl rfl ?_
                    rw [er]
                    exact ⟨rfl, pa2, sw, hG⟩
                  · exact absurd a2.2 (by omega)
            · refine T.iconst (pc' := 34) (v := nI 1) (q_d dX5_shut_0 18 rfl) rfl (by decide) ?_
              refine T.goto (tgt := 38) (q_d dX5_shut_0 19 rfl) (by decide) ?_
              refine T.istore (pc' := 40) (q_d dX5_shut_0 21 rfl) rfl (by decide) rfl rfl ?_
              refine T.aload_n (pc' := 41) (q_d dX5_shut_0 22 rfl) rfl rfl rfl ?_
              refine T.getR (pc' := 44) (ci := 5) (k0 := 0) (q_d dX5_shut_0 23 rfl) rfl rfl (by decide) rfl inX5 (by decide) rfl wF_X5_10 (rP (P := pX _ sw) (by first | exact hG.1 | exact hF.1 | exact r1.1 | exact hX.1) rfl) ?_
              refine T.iload_n (pc' := 45) (q_d dX5_shut_0 24 rfl) rfl rfl rfl ?_
              refine T.iload_n (pc' := 46) (q_d dX5_shut_0 25 rfl) rfl rfl rfl ?_
              refine T.callV (pc' := 49) (ci := 3) (q_d dX5_shut_0 26 rfl) rfl uX3_hasRoad wM_X5_84 (c_hasRoad ho hX.1 hX.2.2.1 hX.2.2.2.1 (show u < 7 by omega) (show v < 7 by omega)) rfl rfl (by decide) rfl rfl (by decide) (Nat.le_of_ble_eq_true rfl) rfl rfl (fun _ => rfl) ?_
              rintro _ _ ⟨rfl, rfl⟩
              dsimp only [Option.toList, List.cons_append, List.nil_append, List.append_nil]
              refine T.if_eqN (tgt := 67) (pc' := 52) (q_d dX5_shut_0 27 rfl) rfl (by decide) (by omega) (fun h49 => ?_) (fun h49 => ?_)
              · exact absurd a2.1 (by omega)
              · refine T.iload (pc' := 54) (q_d dX5_shut_0 28 rfl) rfl rfl ?_
                refine T.iload_n (pc' := 55) (q_d dX5_shut_0 29 rfl) rfl rfl rfl ?_
                refine T.iconst (pc' := 56) (v := nI 1) (q_d dX5_shut_0 30 rfl) rfl (by decide) ?_
                refine T.icmp_neN (tgt := 63) (pc' := 59) (q_d dX5_shut_0 31 rfl) rfl (by decide) (by omega) (by omega) (fun h56 => ?_) (fun h56 => ?_)
                · refine T.iconst (pc' := 64) (v := nI 0) (q_d dX5_shut_0 34 rfl) rfl (by decide) ?_
                  refine T.icmp_neN (tgt := 70) (pc' := 67) (q_d dX5_shut_0 35 rfl) rfl (by decide) (by first | omega | decide) (by first | omega | decide) (fun h64 => ?_) (fun h64 => ?_)
                  · refine T.aload_n (pc' := 71) (q_d dX5_shut_0 38 rfl) rfl rfl rfl ?_
                    refine T.callV (pc' := 74) (ci := 5) (q_d dX5_shut_0 39 rfl) rfl uX5_record wM_X5_70 (c_record hX) rfl rfl (by decide) rfl rfl (by decide) (Nat.le_of_ble_eq_true rfl) rfl rfl (fun _ => rfl) ?_
                    rintro _ M2 ⟨rfl, ⟨pa2, r1⟩, r2, r3, r4⟩
                    dsimp only [Option.toList, List.cons_append, List.nil_append, List.append_nil]
                    refine T.aload_n (pc' := 75) (q_d dX5_shut_1 0 rfl) rfl rfl rfl ?_
                    refine T.callV (pc' := 78) (ci := 5) (q_d dX5_shut_1 1 rfl) rfl uX5_forgetTables wM_X5_73 c_forgetTables rfl rfl (by decide) rfl rfl (by decide) (Nat.le_of_ble_eq_true rfl) rfl rfl (fun _ => rfl) ?_
                    rintro _ _ ⟨rfl, e8⟩
                    subst e8
                    obtain ⟨hF, hT⟩ := r1.forget
                    dsimp only [Option.toList, List.cons_append, List.nil_append, List.append_nil]
                    refine T.aload_n (pc' := 79) (q_d dX5_shut_1 2 rfl) rfl rfl rfl ?_
                    refine T.getR (pc' := 82) (ci := 5) (k0 := 0) (q_d dX5_shut_1 3 rfl) rfl rfl (by decide) rfl inX5 (by decide) rfl wF_X5_10 (rP (P := pX _ sw) (by first | exact hG.1 | exact hF.1 | exact r1.1 | exact hX.1) rfl) ?_
                    refine T.iload_n (pc' := 83) (q_d dX5_shut_1 4 rfl) rfl rfl rfl ?_
                    refine T.iload_n (pc' := 84) (q_d dX5_shut_1 5 rfl) rfl rfl rfl ?_
                    refine T.callV (pc' := 87) (ci := 3) (q_d dX5_shut_1 6 rfl) rfl uX3_turnRoad wM_X5_102 (c_turnRoad ho hF.1 (show u < 7 by omega) (show v < 7 by omega) a0.2.2) rfl rfl (by decide) rfl rfl (by decide) (Nat.le_of_ble_eq_true rfl) rfl rfl (fun _ => rfl) ?_
                    rintro _ M3 ⟨rfl, e9⟩
                    have hG : RX M3 b (sShut s u v) (pushK k) (pushW k was s) n t pa2 sw := by rw [e9]; exact hF.now (RS_shut hF.2.2.1 (show u < 7 by omega) (show v < 7 by omega) a0.2.2) (hF.2.2.2.1.shut a0.1 a0.2.1 a0.2.2 a2.1) (Nat.le_refl _) ⟨rfl, fun a h9 => by funext j; rw [qI_ne (Or.inl (by omega)), qI_ne (Or.inl (by omega))]⟩ (hT _)
                    dsimp only [Option.toList, List.cons_append, List.nil_append, List.append_nil]
                    refine T.aload_n (pc' := 88) (q_d dX5_shut_1 7 rfl) rfl rfl rfl ?_
                    refine T.getR (pc' := 91) (ci := 5) (k0 := 0) (q_d dX5_shut_1 8 rfl) rfl rfl (by decide) rfl inX5 (by decide) rfl wF_X5_10 (rP (P := pX _ sw) (by first | exact hG.1 | exact hF.1 | exact r1.1 | exact hX.1) rfl) ?_
                    refine T.aload_n (pc' := 92) (q_d dX5_shut_1 9 rfl) rfl rfl rfl ?_
                    refine T.getR (pc' := 95) (ci := 5) (k0 := 0) (q_d dX5_shut_1 10 rfl) rfl rfl (by decide) rfl inX5 (by decide) rfl wF_X5_10 (rP (P := pX _ sw) (by first | exact hG.1 | exact hF.1 | exact r1.1 | exact hX.1) rfl) ?_
                    refine T.getR (pc' := 98) (ci := 3) (k0 := 3) (q_d dX5_shut_1 11 rfl) rfl rfl (by decide) rfl inX3 (by decide) rfl wF_X5_105 (rP (P := pX _ sw) (by first | exact hG.1 | exact hF.1 | exact r1.1 | exact hX.1) rfl) ?_
                    refine T.callV (pc' := 101) (ci := 3) (q_d dX5_shut_1 12 rfl) rfl uX3_countRoads wM_X5_95 (c_countRoads ho hG.2.2.1 hG.2.2.2.1 (SO.a3 ho) (by decide) hG.2.2.1.2.2.2.2.2.1 (fun i hi => Nat.lt_of_lt_of_le (hG.2.2.2.1.2.2.2.2.2.2.2.2.1 i hi) (p2_le hG.2.2.2.1.1))) rfl rfl (by decide) rfl rfl (by decide) (Nat.le_of_ble_eq_true rfl) rfl rfl (fun _ => rfl) ?_
                    rintro _ _ ⟨rfl, rfl⟩
                    dsimp only [Option.toList, List.cons_append, List.nil_append, List.append_nil]
                    refine T.iret (q_d dX5_shut_1 13 rfl) rfl rfl rfl ?_
                    rw [er]
                    exact ⟨rfl, pa2, sw, hG⟩
                  · exact absurd a2.2 (by omega)
                · refine T.iconst (pc' := 60) (v := nI 1) (q_d dX5_shut_0 32 rfl) rfl (by decide) ?_
                  refine T.goto (tgt := 64) (q_d dX5_shut_0 33 rfl) (by decide) ?_
                  refine T.icmp_neN (tgt := 70) (pc' := 67) (q_d dX5_shut_0 35 rfl) rfl (by decide) (by first | omega | decide) (by first | omega | decide) (fun h64 => ?_) (fun h64 => ?_)
                  · refine T.aload_n (pc' := 71) (q_d dX5_shut_0 38 rfl) rfl rfl rfl ?_
                    refine T.callV (pc' := 74) (ci := 5) (q_d dX5_shut_0 39 rfl) rfl uX5_record wM_X5_70 (c_record hX) rfl rfl (by decide) rfl rfl (by decide) (Nat.le_of_ble_eq_true rfl) rfl rfl (fun _ => rfl) ?_
                    rintro _ M2 ⟨rfl, ⟨pa2, r1⟩, r2, r3, r4⟩
                    dsimp only [Option.toList, List.cons_append, List.nil_append, List.append_nil]
                    refine T.aload_n (pc' := 75) (q_d dX5_shut_1 0 rfl) rfl rfl rfl ?_
                    refine T.callV (pc' := 78) (ci := 5) (q_d dX5_shut_1 1 rfl) rfl uX5_forgetTables wM_X5_73 c_forgetTables rfl rfl (by decide) rfl rfl (by decide) (Nat.le_of_ble_eq_true rfl) rfl rfl (fun _ => rfl) ?_
                    rintro _ _ ⟨rfl, e8⟩
                    subst e8
                    obtain ⟨hF, hT⟩ := r1.forget
                    dsimp only [Option.toList, List.cons_append, List.nil_append, List.append_nil]
                    refine T.aload_n (pc' := 79) (q_d dX5_shut_1 2 rfl) rfl rfl rfl ?_
                    refine T.getR (pc' := 82) (ci := 5) (k0 := 0) (q_d dX5_shut_1 3 rfl) rfl rfl (by decide) rfl inX5 (by decide) rfl wF_X5_10 (rP (P := pX _ sw) (by first | exact hG.1 | exact hF.1 | exact r1.1 | exact hX.1) rfl) ?_
                    refine T.iload_n (pc' := 83) (q_d dX5_shut_1 4 rfl) rfl rfl rfl ?_
                    refine T.iload_n (pc' := 84) (q_d dX5_shut_1 5 rfl) rfl rfl rfl ?_
                    refine T.callV (pc' := 87) (ci := 3) (q_d dX5_shut_1 6 rfl) rfl uX3_turnRoad wM_X5_102 (c_turnRoad ho hF.1 (show u < 7 by omega) (show v < 7 by omega) a0.2.2) rfl rfl (by decide) rfl rfl (by decide) (Nat.le_of_ble_eq_true rfl) rfl rfl (fun _ => rfl) ?_
                    rintro _ M3 ⟨rfl, e9⟩
                    have hG : RX M3 b (sShut s u v) (pushK k) (pushW k was s) n t pa2 sw := by rw [e9]; exact hF.now (RS_shut hF.2.2.1 (show u < 7 by omega) (show v < 7 by omega) a0.2.2) (hF.2.2.2.1.shut a0.1 a0.2.1 a0.2.2 a2.1) (Nat.le_refl _) ⟨rfl, fun a h9 => by funext j; rw [qI_ne (Or.inl (by omega)), qI_ne (Or.inl (by omega))]⟩ (hT _)
                    dsimp only [Option.toList, List.cons_append, List.nil_append, List.append_nil]
                    refine T.aload_n (pc' := 88) (q_d dX5_shut_1 7 rfl) rfl rfl rfl ?_
                    refine T.getR (pc' := 91) (ci := 5) (k0 := 0) (q_d dX5_shut_1 8 rfl) rfl rfl (by decide) rfl inX5 (by decide) rfl wF_X5_10 (rP (P := pX _ sw) (by first | exact hG.1 | exact hF.1 | exact r1.1 | exact hX.1) rfl) ?_
                    refine T.aload_n (pc' := 92) (q_d dX5_shut_1 9 rfl) rfl rfl rfl ?_
                    refine T.getR (pc' := 95) (ci := 5) (k0 := 0) (q_d dX5_shut_1 10 rfl) rfl rfl (by decide) rfl inX5 (by decide) rfl wF_X5_10 (rP (P := pX _ sw) (by first | exact hG.1 | exact hF.1 | exact r1.1 | exact hX.1) rfl) ?_
                    refine T.getR (pc' := 98) (ci := 3) (k0 := 3) (q_d dX5_shut_1 11 rfl) rfl rfl (by decide) rfl inX3 (by decide) rfl wF_X5_105 (rP (P := pX _ sw) (by first | exact hG.1 | exact hF.1 | exact r1.1 | exact hX.1) rfl) ?_
                    refine T.callV (pc' := 101) (ci := 3) (q_d dX5_shut_1 12 rfl) rfl uX3_countRoads wM_X5_95 (c_countRoads ho hG.2.2.1 hG.2.2.2.1 (SO.a3 ho) (by decide) hG.2.2.1.2.2.2.2.2.1 (fun i hi => Nat.lt_of_lt_of_le (hG.2.2.2.1.2.2.2.2.2.2.2.2.1 i hi) (p2_le hG.2.2.2.1.1))) rfl rfl (by decide) rfl rfl (by decide) (Nat.le_of_ble_eq_true rfl) rfl rfl (fun _ => rfl) ?_
                    rintro _ _ ⟨rfl, rfl⟩
                    dsimp only [Option.toList, List.cons_append, List.nil_append, List.append_nil]
                    refine T.iret (q_d dX5_shut_1 13 rfl) rfl rfl rfl ?_
                    rw [er]
                    exact ⟨rfl, pa2, sw, hG⟩
                  · exact absurd a2.2 (by omega)
          · exact absurd h15 (by rw [if_pos e1]; decide)
      · have er : oShut s k was n t u v w = (4293967294, (s, k, was, n, t)) := by unfold oShut; rw [if_pos ⟨a0, a1⟩, if_neg a2]
        refine T.aload_n (pc' := 1) (q_d dX5_shut_0 0 rfl) rfl rfl rfl ?_
        refine T.iload_n (pc' := 2) (q_d dX5_shut_0 1 rfl) rfl rfl rfl ?_
        refine T.iload_n (pc' := 3) (q_d dX5_shut_0 2 rfl) rfl rfl rfl ?_
        refine T.callV (pc' := 6) (ci := 5) (q_d dX5_shut_0 3 rfl) rfl uX5_arePlaces wM_X5_80 (c_arePlaces hX.1 hX.2.2.1 hX.2.2.2.1 hu hv) rfl rfl (by decide) rfl rfl (by decide) (Nat.le_of_ble_eq_true rfl) rfl rfl (fun _ => rfl) ?_
        rintro _ _ ⟨rfl, rfl⟩
        dsimp only [Option.toList, List.cons_append, List.nil_append, List.append_nil]
        refine T.if_eqN (tgt := 18) (pc' := 9) (q_d dX5_shut_0 4 rfl) rfl (by decide) (by split <;> decide) (fun h6 => ?_) (fun h6 => ?_)
        · exact absurd h6 (by rw [if_pos a0]; decide)
        · refine T.iload_n (pc' := 10) (q_d dX5_shut_0 5 rfl) rfl rfl rfl ?_
          refine T.iconst (pc' := 11) (v := nI 0) (q_d dX5_shut_0 6 rfl) rfl (by decide) ?_
          refine T.iconst (pc' := 12) (v := nI 1) (q_d dX5_shut_0 7 rfl) rfl (by decide) ?_
          refine T.callS (pc' := 15) (q_d dX5_shut_0 8 rfl) rfl uX5_isWithin wM_X5_60 (c_isWithin hw9 (by decide) (hi := 1) (by decide)) rfl rfl (by decide) (Nat.le_of_ble_eq_true rfl) rfl rfl (fun _ => rfl) ?_
          rintro _ _ ⟨rfl, rfl⟩
          dsimp only [Option.toList, List.cons_append, List.nil_append, List.append_nil]
          refine T.if_neN (tgt := 21) (pc' := 18) (q_d dX5_shut_0 9 rfl) rfl (by decide) (by split <;> decide) (fun h15 => ?_) (fun h15 => ?_)
          · refine T.aload_n (pc' := 22) (q_d dX5_shut_0 12 rfl) rfl rfl rfl ?_
            refine T.getR (pc' := 25) (ci := 5) (k0 := 0) (q_d dX5_shut_0 13 rfl) rfl rfl (by decide) rfl inX5 (by decide) rfl wF_X5_10 (rP hX.1 rfl) ?_
            refine T.iload_n (pc' := 26) (q_d dX5_shut_0 14 rfl) rfl rfl rfl ?_
            refine T.iload_n (pc' := 27) (q_d dX5_shut_0 15 rfl) rfl rfl rfl ?_
            refine T.callV (pc' := 30) (ci := 3) (q_d dX5_shut_0 16 rfl) rfl uX3_hasOpenRoad wM_X5_99 (c_hasOpenRoad ho hX.1 hX.2.2.1 hX.2.2.2.1 (show u < 7 by omega) (show v < 7 by omega)) rfl rfl (by decide) rfl rfl (by decide) (Nat.le_of_ble_eq_true rfl) rfl rfl (fun _ => rfl) ?_
            rintro _ _ ⟨rfl, rfl⟩
            dsimp only [Option.toList, List.cons_append, List.nil_append, List.append_nil]
            refine T.if_neN (tgt := 37) (pc' := 33) (q_d dX5_shut_0 17 rfl) rfl (by decide) (by omega) (fun h30 => ?_) (fun h30 => ?_)
            · refine T.iconst (pc' := 38) (v := nI 0) (q_d dX5_shut_0 20 rfl) rfl (by decide) ?_
              refine T.istore (pc' := 40) (q_d dX5_shut_0 21 rfl) rfl (by decide) rfl rfl ?_
              refine T.aload_n (pc' := 41) (q_d dX5_shut_0 22 rfl) rfl rfl rfl ?_
              refine T.getR (pc' := 44) (ci := 5) (k0 := 0) (q_d dX5_shut_0 23 rfl) rfl rfl (by decide) rfl inX5 (by decide) rfl wF_X5_10 (rP hX.1 rfl) ?_
              refine T.iload_n (pc' := 45) (q_d dX5_shut_0 24 rfl) rfl rfl rfl ?_
              refine T.iload_n (pc' := 46) (q_d dX5_shut_0 25 rfl) rfl rfl rfl ?_
              refine T.callV (pc' := 49) (ci := 3) (q_d dX5_shut_0 26 rfl) rfl uX3_hasRoad wM_X5_84 (c_hasRoad ho hX.1 hX.2.2.1 hX.2.2.2.1 (show u < 7 by omega) (show v < 7 by omega)) rfl rfl (by decide) rfl rfl (by decide) (Nat.le_of_ble_eq_true rfl) rfl rfl (fun _ => rfl) ?_
              rintro _ _ ⟨rfl, rfl⟩
              dsimp only [Option.toList, List.cons_append, List.nil_append, List.append_nil]
              refine T.if_eqN (tgt := 67) (pc' := 52) (q_d dX5_shut_0 27 rfl) rfl (by decide) (by omega) (fun h49 => ?_) (fun h49 => ?_)
              · refine T.ldc (pc' := 69) (v := nI 4293967294) (q_d dX5_shut_0 36 rfl) rfl wN_X5_87 ?_
                refine T.iret (q_d dX5_shut_0 37 rfl) rfl rfl rfl ?_
                rw [er]
                exact ⟨rfl, pa, sw, hX⟩
              · refine T.iload (pc' := 54) (q_d dX5_shut_0 28 rfl) rfl rfl ?_
                refine T.iload_n (pc' := 55) (q_d dX5_shut_0 29 rfl) rfl rfl rfl ?_
                refine T.iconst (pc' := 56) (v := nI 1) (q_d dX5_shut_0 30 rfl) rfl (by decide) ?_
                refine T.icmp_neN (tgt := 63) (pc' := 59) (q_d dX5_shut_0 31 rfl) rfl (by decide) (by omega) (by omega) (fun h56 => ?_) (fun h56 => ?_)
                · refine T.iconst (pc' := 64) (v := nI 0) (q_d dX5_shut_0 34 rfl) rfl (by decide) ?_
                  refine T.icmp_neN (tgt := 70) (pc' := 67) (q_d dX5_shut_0 35 rfl) rfl (by decide) (by first | omega | decide) (by first | omega | decide) (fun h64 => ?_) (fun h64 => ?_)
                  · exact absurd (show _ ∧ _ from ⟨by omega, by omega⟩) a2
                  · refine T.ldc (pc' := 69) (v := nI 4293967294) (q_d dX5_shut_0 36 rfl) rfl wN_X5_87 ?_
                    refine T.iret (q_d dX5_shut_0 37 rfl) rfl rfl rfl ?_
                    rw [er]
                    exact ⟨rfl, pa, sw, hX⟩
                · refine T.iconst (pc' := 60) (v := nI 1) (q_d dX5_shut_0 32 rfl) rfl (by decide) ?_
                  refine T.goto (tgt := 64) (q_d dX5_shut_0 33 rfl) (by decide) ?_
                  refine T.icmp_neN (tgt := 70) (pc' := 67) (q_d dX5_shut_0 35 rfl) rfl (by decide) (by first | omega | decide) (by first | omega | decide) (fun h64 => ?_) (fun h64 => ?_)
                  · exact absurd (show _ ∧ _ from ⟨by omega, by omega⟩) a2
                  · refine T.ldc (pc' := 69) (v := nI 4293967294) (q_d dX5_shut_0 36 rfl) rfl wN_X5_87 ?_
                    refine T.iret (q_d dX5_shut_0 37 rfl) rfl rfl rfl ?_
                    rw [er]
                    exact ⟨rfl, pa, sw, hX⟩
            · refine T.iconst (pc' := 34) (v := nI 1) (q_d dX5_shut_0 18 rfl) rfl (by decide) ?_
              refine T.goto (tgt := 38) (q_d dX5_shut_0 19 rfl) (by decide) ?_
              refine T.istore (pc' := 40) (q_d dX5_shut_0 21 rfl) rfl (by decide) rfl rfl ?_
              refine T.aload_n (pc' := 41) (q_d dX5_shut_0 22 rfl) rfl rfl rfl ?_
              refine T.getR (pc' := 44) (ci := 5) (k0 := 0) (q_d dX5_shut_0 23 rfl) rfl rfl (by decide) rfl inX5 (by decide) rfl wF_X5_10 (rP hX.1 rfl) ?_
              refine T.iload_n (pc' := 45) (q_d dX5_shut_0 24 rfl) rfl rfl rfl ?_
              refine T.iload_n (pc' := 46) (q_d dX5_shut_0 25 rfl) rfl rfl rfl ?_
              refine T.callV (pc' := 49) (ci := 3) (q_d dX5_shut_0 26 rfl) rfl uX3_hasRoad wM_X5_84 (c_hasRoad ho hX.1 hX.2.2.1 hX.2.2.2.1 (show u < 7 by omega) (show v < 7 by omega)) rfl rfl (by decide) rfl rfl (by decide) (Nat.le_of_ble_eq_true rfl) rfl rfl (fun _ => rfl) ?_
              rintro _ _ ⟨rfl, rfl⟩
              dsimp only [Option.toList, List.cons_append, List.nil_append, List.append_nil]
              refine T.if_eqN (tgt := 67) (pc' := 52) (q_d dX5_shut_0 27 rfl) rfl (by decide) (by omega) (fun h49 => ?_) (fun h49 => ?_)
              · refine T.ldc (pc' := 69) (v := nI 4293967294) (q_d dX5_shut_0 36 rfl) rfl wN_X5_87 ?_
                refine T.iret (q_d dX5_shut_0 37 rfl) rfl rfl rfl ?_
                rw [er]
                exact ⟨rfl, pa, sw, hX⟩
              · refine T.iload (pc' := 54) (q_d dX5_shut_0 28 rfl) rfl rfl ?_
                refine T.iload_n (pc' := 55) (q_d dX5_shut_0 29 rfl) rfl rfl rfl ?_
                refine T.iconst (pc' := 56) (v := nI 1) (q_d dX5_shut_0 30 rfl) rfl (by decide) ?_
                refine T.icmp_neN (tgt := 63) (pc' := 59) (q_d dX5_shut_0 31 rfl) rfl (by decide) (by omega) (by omega) (fun h56 => ?_) (fun h56 => ?_)
                · refine T.iconst (pc' := 64) (v := nI 0) (q_d dX5_shut_0 34 rfl) rfl (by decide) ?_
                  refine T.icmp_neN (tgt := 70) (pc' := 67) (q_d dX5_shut_0 35 rfl) rfl (by decide) (by first | omega | decide) (by first | omega | decide) (fun h64 => ?_) (fun h64 => ?_)
                  · exact absurd (show _ ∧ _ from ⟨by omega, by omega⟩) a2
                  · refine T.ldc (pc' := 69) (v := nI 4293967294) (q_d dX5_shut_0 36 rfl) rfl wN_X5_87 ?_
                    refine T.iret (q_d dX5_shut_0 37 rfl) rfl rfl rfl ?_
                    rw [er]
                    exact ⟨rfl, pa, sw, hX⟩
                · refine T.iconst (pc' := 60) (v := nI 1) (q_d dX5_shut_0 32 rfl) rfl (by decide) ?_
                  refine T.goto (tgt := 64) (q_d dX5_shut_0 33 rfl) (by decide) ?_
                  refine T.icmp_neN (tgt := 70) (pc' := 67) (q_d dX5_shut_0 35 rfl) rfl (by decide) (by first | omega | decide) (by first | omega | decide) (fun h64 => ?_) (fun h64 => ?_)
                  · exact absurd (show _ ∧ _ from ⟨by omega, by omega⟩) a2
                  · refine T.ldc (pc' := 69) (v := nI 4293967294) (q_d dX5_shut_0 36 rfl) rfl wN_X5_87 ?_
                    refine T.iret (q_d dX5_shut_0 37 rfl) rfl rfl rfl ?_
                    rw [er]
                    exact ⟨rfl, pa, sw, hX⟩
          · exact absurd h15 (by rw [if_pos e1]; decide)
    · have e1 : ¬ inS w 0 1 = true := fun q => a1 (e.mp q).2
      have er : oShut s k was n t u v w = (4293967295, (s, k, was, n, t)) := by unfold oShut; rw [if_neg (fun q => a1 q.2)]
      refine T.aload_n (pc' := 1) (q_d dX5_shut_0 0 rfl) rfl rfl rfl ?_
      refine T.iload_n (pc' := 2) (q_d dX5_shut_0 1 rfl) rfl rfl rfl ?_
      refine T.iload_n (pc' := 3) (q_d dX5_shut_0 2 rfl) rfl rfl rfl ?_
      refine T.callV (pc' := 6) (ci := 5) (q_d dX5_shut_0 3 rfl) rfl uX5_arePlaces wM_X5_80 (c_arePlaces hX.1 hX.2.2.1 hX.2.2.2.1 hu hv) rfl rfl (by decide) rfl rfl (by decide) (Nat.le_of_ble_eq_true rfl) rfl rfl (fun _ => rfl) ?_
      rintro _ _ ⟨rfl, rfl⟩
      dsimp only [Option.toList, List.cons_append, List.nil_append, List.append_nil]
      refine T.if_eqN (tgt := 18) (pc' := 9) (q_d dX5_shut_0 4 rfl) rfl (by decide) (by split <;> decide) (fun h6 => ?_) (fun h6 => ?_)
      · exact absurd h6 (by rw [if_pos a0]; decide)
      · refine T.iload_n (pc' := 10) (q_d dX5_shut_0 5 rfl) rfl rfl rfl ?_
        refine T.iconst (pc' := 11) (v := nI 0) (q_d dX5_shut_0 6 rfl) rfl (by decide) ?_
        refine T.iconst (pc' := 12) (v := nI 1) (q_d dX5_shut_0 7 rfl) rfl (by decide) ?_
        refine T.callS (pc' := 15) (q_d dX5_shut_0 8 rfl) rfl uX5_isWithin wM_X5_60 (c_isWithin hw9 (by decide) (hi := 1) (by decide)) rfl rfl (by decide) (Nat.le_of_ble_eq_true rfl) rfl rfl (fun _ => rfl) ?_
        rintro _ _ ⟨rfl, rfl⟩
        dsimp only [Option.toList, List.cons_append, List.nil_append, List.append_nil]
        refine T.if_neN (tgt := 21) (pc' := 18) (q_d dX5_shut_0 9 rfl) rfl (by decide) (by split <;> decide) (fun h15 => ?_) (fun h15 => ?_)
        · exact absurd (if_neg e1) h15
        · refine T.ldc (pc' := 20) (v := nI 4293967295) (q_d dX5_shut_0 10 rfl) rfl wN_X5_64 ?_
          refine T.iret (q_d dX5_shut_0 11 rfl) rfl rfl rfl ?_
          rw [er]
          exact ⟨rfl, pa, sw, hX⟩
  · have er : oShut s k was n t u v w = (4293967295, (s, k, was, n, t)) := by unfold oShut; rw [if_neg (fun q => a0 q.1)]
    refine T.aload_n (pc' := 1) (q_d dX5_shut_0 0 rfl) rfl rfl rfl ?_
    refine T.iload_n (pc' := 2) (q_d dX5_shut_0 1 rfl) rfl rfl rfl ?_
    refine T.iload_n (pc' := 3) (q_d dX5_shut_0 2 rfl) rfl rfl rfl ?_
    refine T.callV (pc' := 6) (ci := 5) (q_d dX5_shut_0 3 rfl) rfl uX5_arePlaces wM_X5_80 (c_arePlaces hX.1 hX.2.2.1 hX.2.2.2.1 hu hv) rfl rfl (by decide) rfl rfl (by decide) (Nat.le_of_ble_eq_true rfl) rfl rfl (fun _ => rfl) ?_
    rintro _ _ ⟨rfl, rfl⟩
    dsimp only [Option.toList, List.cons_append, List.nil_append, List.append_nil]
    refine T.if_eqN (tgt := 18) (pc' := 9) (q_d dX5_shut_0 4 rfl) rfl (by decide) (by split <;> decide) (fun h6 => ?_) (fun h6 => ?_)
    · refine T.ldc (pc' := 20) (v := nI 4293967295) (q_d dX5_shut_0 10 rfl) rfl wN_X5_64 ?_
      refine T.iret (q_d dX5_shut_0 11 rfl) rfl rfl rfl ?_
      rw [er]
      exact ⟨rfl, pa, sw, hX⟩
    · exact absurd (if_neg a0) h6
theorem ite_le1 {p : Prop} [Decidable p] : (if p then (1 : Nat) else 0) ≤ 1 := by split <;> decide
theorem c_set (hX : RX M b s k was n t pa sw) {u v : Nat} (hu : u < 4294967296) (hv : v < 4294967296) : Ct l hdX kX mX5_set [.ref 0, .int (nI u), .int (nI v)] M (OX b (oSet s k was n t u v)) := by
  refine Ct.of [some (.ref 0), some (.int (nI u)), some (.int (nI v)), none] (by decide +kernel) (fun h => absurd h (by decide)) (Nat.le_of_ble_eq_true rfl) rfl ?_
  by_cases a1 : u ≤ 2 ∧ (if u = 2 then 1 ≤ v ∧ v ≤ 2 else v ≤ 3)
  · have er : oSet s k was n t u v = (s (4 + u), act s k was n t (up s (4 + u) v)) := by unfold oSet; rw [if_pos a1]
    refine T.iload_n (pc' := 1) (q_d dX5_set_0 0 rfl) rfl rfl rfl ?_
    refine T.iload_n (pc' := 2) (q_d dX5_set_0 1 rfl) rfl rfl rfl ?_
    refine T.callS (pc' := 5) (q_d dX5_set_0 2 rfl) rfl uX5_isSetting wM_X5_108 (c_isSetting hu hv) rfl rfl (by decide) (Nat.le_of_ble_eq_true rfl) rfl rfl (fun _ => rfl) ?_
    rintro _ _ ⟨rfl, rfl⟩
    dsimp only [Option.toList, List.cons_append, List.nil_append, List.append_nil]
    refine T.if_neN (tgt := 11) (pc' := 8) (q_d dX5_set_0 3 rfl) rfl (by decide) (Nat.lt_of_le_of_lt ite_le1 (by decide)) (fun h5 => ?_) (fun h5 => ?_)
    · refine T.aload_n (pc' := 12) (q_d dX5_set_0 6 rfl) rfl rfl rfl ?_
      refine T.callV (pc' := 15) (ci := 5) (q_d dX5_set_0 7 rfl) rfl uX5_record wM_X5_70 (c_record hX) rfl rfl (by decide) rfl rfl (by decide) (Nat.le_of_ble_eq_true rfl) rfl rfl (fun _ => rfl) ?_
      rintro _ M2 ⟨rfl, ⟨pa2, r1⟩, r2, r3, r4⟩
      dsimp only [Option.toList, List.cons_append, List.nil_append, List.append_nil]
      refine T.aload_n (pc' := 16) (q_d dX5_set_0 8 rfl) rfl rfl rfl ?_
      refine T.callV (pc' := 19) (ci := 5) (q_d dX5_set_0 9 rfl) rfl uX5_forgetTables wM_X5_73 c_forgetTables rfl rfl (by decide) rfl rfl (by decide) (Nat.le_of_ble_eq_true rfl) rfl rfl (fun _ => rfl) ?_
      rintro _ _ ⟨rfl, e8⟩
      subst e8
      obtain ⟨hF, hT⟩ := r1.forget
      dsimp only [Option.toList, List.cons_append, List.nil_append, List.append_nil]
      refine T.aload_n (pc' := 20) (q_d dX5_set_0 10 rfl) rfl rfl rfl ?_
      refine T.getR (pc' := 23) (ci := 5) (k0 := 0) (q_d dX5_set_0 11 rfl) rfl rfl (by decide) rfl inX5 (by decide) rfl wF_X5_10 (rP (P := pX _ sw) (by first | exact hF.1 | exact r1.1 | exact hX.1) rfl) ?_
      refine T.getR (pc' := 26) (ci := 3) (k0 := 4) (q_d dX5_set_0 12 rfl) rfl rfl (by decide) rfl inX3 (by decide) rfl wF_X5_111 (rP (P := pX _ sw) (by first | exact hF.1 | exact r1.1 | exact hX.1) rfl) ?_
      refine T.iload_n (pc' := 27) (q_d dX5_set_0 13 rfl) rfl rfl rfl ?_
      refine T.iald (pc' := 28) (q_d dX5_set_0 14 rfl) rfl rfl (by decide) rfl (by omega) (by decide) (hF.2.2.1.2.2.2.2.2.2.1 u (by omega)) ?_
      refine T.istore_n (pc' := 29) (q_d dX5_set_0 15 rfl) rfl rfl (by decide) rfl rfl ?_
      refine T.aload_n (pc' := 30) (q_d dX5_set_0 16 rfl) rfl rfl rfl ?_
      refine T.getR (pc' := 33) (ci := 5) (k0 := 0) (q_d dX5_set_0 17 rfl) rfl rfl (by decide) rfl inX5 (by decide) rfl wF_X5_10 (rP (P := pX _ sw) (by first | exact hF.1 | exact r1.1 | exact hX.1) rfl) ?_
      refine T.getR (pc' := 36) (ci := 3) (k0 := 4) (q_d dX5_set_0 18 rfl) rfl rfl (by decide) rfl inX3 (by decide) rfl wF_X5_111 (rP (P := pX _ sw) (by first | exact hF.1 | exact r1.1 | exact hX.1) rfl) ?_
      refine T.iload_n (pc' := 37) (q_d dX5_set_0 19 rfl) rfl rfl rfl ?_
      refine T.iload_n (pc' := 38) (q_d dX5_set_0 20 rfl) rfl rfl rfl ?_
      refine T.iast (pc' := 39) (q_d dX5_set_0 21 rfl) rfl rfl (by decide) rfl (by omega) (by decide) ?_
      refine T.iload_n (pc' := 40) (q_d dX5_set_0 22 rfl) rfl rfl rfl ?_
      refine T.iret (q_d dX5_set_0 23 rfl) rfl rfl rfl ?_
      rw [er]
      exact ⟨rfl, pa2, sw, hF.now (RS_set hF.2.2.1 a1.1) (hF.2.2.2.1.set a1.1 a1.2) (Nat.le_refl _) ⟨rfl, fun a h9 => by funext j; rw [qI_ne (Or.inl (by omega))]⟩ (hT _)⟩
    · exact absurd h5 (by rw [if_pos a1]; decide)
  · have er : oSet s k was n t u v = (4293967295, (s, k, was, n, t)) := by unfold oSet; rw [if_neg a1]
    refine T.iload_n (pc' := 1) (q_d dX5_set_0 0 rfl) rfl rfl rfl ?_
    refine T.iload_n (pc' := 2) (q_d dX5_set_0 1 rfl) rfl rfl rfl ?_
    refine T.callS (pc' := 5) (q_d dX5_set_0 2 rfl) rfl uX5_isSetting wM_X5_108 (c_isSetting hu hv) rfl rfl (by decide) (Nat.le_of_ble_eq_true rfl) rfl rfl (fun _ => rfl) ?_
    rintro _ _ ⟨rfl, rfl⟩
    dsimp only [Option.toList, List.cons_append, List.nil_append, List.append_nil]
    refine T.if_neN (tgt := 11) (pc' := 8) (q_d dX5_set_0 3 rfl) rfl (by decide) (Nat.lt_of_le_of_lt ite_le1 (by decide)) (fun h5 => ?_) (fun h5 => ?_)
    · exact absurd (if_neg a1) h5
    · refine T.ldc (pc' := 10) (v := nI 4293967295) (q_d dX5_set_0 4 rfl) rfl wN_X5_64 ?_
      refine T.iret (q_d dX5_set_0 5 rfl) rfl rfl rfl ?_
      rw [er]
      exact ⟨rfl, pa, sw, hX⟩
theorem c_believe (hX : RX M b s k was n t pa sw) {u : Nat} (hu : u < 4294967296) : Ct l hdX kX mX5_believe [.ref 0, .int (nI u)] M (OX b (oBelieve s k was n t u)) := by
  refine Ct.of [some (.ref 0), some (.int (nI u))] (by decide +kernel) (fun h => absurd h (by decide)) (Nat.le_of_ble_eq_true rfl) rfl ?_
  have w0 := p2_le hX.2.2.2.1.1
  by_cases a1 : u < 2 ^ s 0
  · have er : oBelieve s k was n t u = (ones u, act s k was n t (sBelieve s u)) := by unfold oBelieve; rw [if_pos a1]
    refine T.aload_n (pc' := 1) (q_d dX5_believe_0 0 rfl) rfl rfl rfl ?_
    refine T.iload_n (pc' := 2) (q_d dX5_believe_0 1 rfl) rfl rfl rfl ?_
    refine T.callV (pc' := 5) (ci := 5) (q_d dX5_believe_0 2 rfl) rfl uX5_isSet wM_X5_114 (c_isSet hX.1 hX.2.2.1 hX.2.2.2.1 hu) rfl rfl (by decide) rfl rfl (by decide) (Nat.le_of_ble_eq_true rfl) rfl rfl (fun _ => rfl) ?_
    rintro _ _ ⟨rfl, rfl⟩
    dsimp only [Option.toList, List.cons_append, List.nil_append, List.append_nil]
    refine T.if_neN (tgt := 11) (pc' := 8) (q_d dX5_believe_0 3 rfl) rfl (by decide) (by split <;> decide) (fun h5 => ?_) (fun h5 => ?_)
    · refine T.aload_n (pc' := 12) (q_d dX5_believe_0 6 rfl) rfl rfl rfl ?_
      refine T.callV (pc' := 15) (ci := 5) (q_d dX5_believe_0 7 rfl) rfl uX5_record wM_X5_70 (c_record hX) rfl rfl (by decide) rfl rfl (by decide) (Nat.le_of_ble_eq_true rfl) rfl rfl (fun _ => rfl) ?_
      rintro _ M2 ⟨rfl, ⟨pa2, r1⟩, r2, r3, r4⟩
      dsimp only [Option.toList, List.cons_append, List.nil_append, List.append_nil]
      refine T.aload_n (pc' := 16) (q_d dX5_believe_0 8 rfl) rfl rfl rfl ?_
      refine T.getR (pc' := 19) (ci := 5) (k0 := 0) (q_d dX5_believe_0 9 rfl) rfl rfl (by decide) rfl inX5 (by decide) rfl wF_X5_10 (rP (P := pX _ sw) (by first | exact r1.1 | exact hX.1) rfl) ?_
      refine T.iload_n (pc' := 20) (q_d dX5_believe_0 10 rfl) rfl rfl rfl ?_
      refine T.putI (pc' := 23) (ci := 3) (k0 := 5) (q_d dX5_believe_0 11 rfl) rfl rfl (by decide) rfl inX3 tyX3 tyX3_ok nmX3 (by decide) rfl wF_X5_118 rfl rfl rfl ?_
      refine T.aload_n (pc' := 24) (q_d dX5_believe_0 12 rfl) rfl rfl rfl ?_
      refine T.getR (pc' := 27) (ci := 5) (k0 := 0) (q_d dX5_believe_0 13 rfl) rfl rfl (by decide) rfl inX5 (by decide) rfl wF_X5_10 (rP (P := pX _ sw) (by first | exact r1.1 | exact hX.1) rfl) ?_
      refine T.iconst (pc' := 28) (v := nI 0) (q_d dX5_believe_0 14 rfl) rfl (by decide) ?_
      refine T.putI (pc' := 31) (ci := 3) (k0 := 6) (q_d dX5_believe_0 15 rfl) rfl rfl (by decide) rfl inX3 tyX3 tyX3_ok nmX3 (by decide) rfl wF_X5_121 rfl rfl rfl ?_
      refine T.iload_n (pc' := 32) (q_d dX5_believe_0 16 rfl) rfl rfl rfl ?_
      refine T.callS (pc' := 35) (q_d dX5_believe_0 17 rfl) rfl uJ6_bitCount_0f7a4 wM_X5_124 (c_bitCount (show u < 128 by omega)) rfl rfl (by decide) (Nat.le_of_ble_eq_true rfl) rfl rfl (fun _ => rfl) ?_
      rintro _ _ ⟨rfl, rfl⟩
      dsimp only [Option.toList, List.cons_append, List.nil_append, List.append_nil]
      refine T.iret (q_d dX5_believe_0 18 rfl) rfl rfl rfl ?_
      rw [er]
      exact ⟨rfl, pa2, sw, r1.now (RS_believe r1.2.2.1) (r1.2.2.2.1.believe a1) (Nat.le_refl _) ⟨rfl, fun a h9 => by funext j; rw [qI_ne (Or.inl (by omega)), qI_ne (Or.inl (by omega))]⟩ ((Cy.lbelieve s u).lTb r1.2.2.2.1.1 r1.2.2.2.2.2.2.2.2.2)⟩
    · exact absurd h5 (by rw [if_pos a1]; decide)
  · have er : oBelieve s k was n t u = (4293967295, (s, k, was, n, t)) := by unfold oBelieve; rw [if_neg a1]
    refine T.aload_n (pc' := 1) (q_d dX5_believe_0 0 rfl) rfl rfl rfl ?_
    refine T.iload_n (pc' := 2) (q_d dX5_believe_0 1 rfl) rfl rfl rfl ?_
    refine T.callV (pc' := 5) (ci := 5) (q_d dX5_believe_0 2 rfl) rfl uX5_isSet wM_X5_114 (c_isSet hX.1 hX.2.2.1 hX.2.2.2.1 hu) rfl rfl (by decide) rfl rfl (by decide) (Nat.le_of_ble_eq_true rfl) rfl rfl (fun _ => rfl) ?_
    rintro _ _ ⟨rfl, rfl⟩
    dsimp only [Option.toList, List.cons_append, List.nil_append, List.append_nil]
    refine T.if_neN (tgt := 11) (pc' := 8) (q_d dX5_believe_0 3 rfl) rfl (by decide) (by split <;> decide) (fun h5 => ?_) (fun h5 => ?_)
    · exact absurd (if_neg a1) h5
    · refine T.ldc (pc' := 10) (v := nI 4293967295) (q_d dX5_believe_0 4 rfl) rfl wN_X5_64 ?_
      refine T.iret (q_d dX5_believe_0 5 rfl) rfl rfl rfl ?_
      rw [er]
      exact ⟨rfl, pa, sw, hX⟩
theorem c_check (hX : RX M b s k was n t pa sw) {u v : Nat} (hu : u < 4294967296) (hv : v < 4294967296) : Ct l hdX kX mX5_check [.ref 0, .int (nI u), .int (nI v)] M (OX (b + 1) (oCheck s k was n t u v)) := by
  refine Ct.of [some (.ref 0), some (.int (nI u)), some (.int (nI v)), none] (by decide +kernel) (fun h => absurd h (by decide)) (Nat.le_of_ble_eq_true rfl) rfl ?_
  have w0 := p2_le hX.2.2.2.1.1
  have w6 := hX.2.2.2.1.2.2.2.2.2.1
  have ho : SO 1 := Or.inl rfl
  have o1 := ones_le u
  have e := inS_iff (lo := 0) (hi := 3) hv (by decide) (by decide)
  have h6 : M.1 (1 + 4) 2 = s 6 := hX.2.2.1.2.2.2.2.2.2.1 2 (by decide)
  by_cases a1 : u < 2 ^ s 0 ∧ v ≤ 3 ∧ ones u ≤ s 6
  · have e1 : inS v 0 3 = true := e.mpr ⟨Nat.zero_le _, a1.2.1⟩
    have o2 := ones_le (thn s (s 1) u v)
    have t2 := thn_lt (s := s) (b := s 1) (c := u) (g := v) hX.2.2.2.1.1
    refine T.aload_n (pc' := 1) (q_d dX5_check_0 0 rfl) rfl rfl rfl ?_
    refine T.iload_n (pc' := 2) (q_d dX5_check_0 1 rfl) rfl rfl rfl ?_
    refine T.callV (pc' := 5) (ci := 5) (q_d dX5_check_0 2 rfl) rfl uX5_isSet wM_X5_114 (c_isSet hX.1 hX.2.2.1 hX.2.2.2.1 hu) rfl rfl (by decide) rfl rfl (by decide) (Nat.le_of_ble_eq_true rfl) rfl rfl (fun _ => rfl) ?_
    rintro _ _ ⟨rfl, rfl⟩
    dsimp only [Option.toList, List.cons_append, List.nil_append, List.append_nil]
    refine T.if_eqN (tgt := 17) (pc' := 8) (q_d dX5_check_0 3 rfl) rfl (by decide) (by split <;> decide) (fun h5 => ?_) (fun h5 => ?_)
    · exact absurd h5 (by rw [if_pos a1.1]; decide)
    · refine T.iload_n (pc' := 9) (q_d dX5_check_0 4 rfl) rfl rfl rfl ?_
      refine T.iconst (pc' := 10) (v := nI 0) (q_d dX5_check_0 5 rfl) rfl (by decide) ?_
      refine T.iconst (pc' := 11) (v := nI 3) (q_d dX5_check_0 6 rfl) rfl (by decide) ?_
      refine T.callS (pc' := 14) (q_d dX5_check_0 7 rfl) rfl uX5_isWithin wM_X5_60 (c_isWithin hv (by decide) (hi := 3) (by decide)) rfl rfl (by decide) (Nat.le_of_ble_eq_true rfl) rfl rfl (fun _ => rfl) ?_
      rintro _ _ ⟨rfl, rfl⟩
      dsimp only [Option.toList, List.cons_append, List.nil_append, List.append_nil]
      refine T.if_neN (tgt := 20) (pc' := 17) (q_d dX5_check_0 8 rfl) rfl (by decide) (by split <;> decide) (fun h14 => ?_) (fun h14 => ?_)
      · refine T.iload_n (pc' := 21) (q_d dX5_check_0 11 rfl) rfl rfl rfl ?_
        refine T.callS (pc' := 24) (q_d dX5_check_0 12 rfl) rfl uJ6_bitCount_0f7a4 wM_X5_124 (c_bitCount (show u < 128 by omega)) rfl rfl (by decide) (Nat.le_of_ble_eq_true rfl) rfl rfl (fun _ => rfl) ?_
        rintro _ _ ⟨rfl, rfl⟩
        dsimp only [Option.toList, List.cons_append, List.nil_append, List.append_nil]
        refine T.aload_n (pc' := 25) (q_d dX5_check_0 13 rfl) rfl rfl rfl ?_
        refine T.getR (pc' := 28) (ci := 5) (k0 := 0) (q_d dX5_check_0 14 rfl) rfl rfl (by decide) rfl inX5 (by decide) rfl wF_X5_10 (rP (P := pX _ sw) (by first | exact hG.1 | exact r1.1 | exact hXb.1 | exact hX.1) rfl) ?_
        refine T.getR (pc' := 31) (ci := 3) (k0 := 4) (q_d dX5_check_0 15 rfl) rfl rfl (by decide) rfl inX3 (by decide) rfl wF_X5_111 (rP (P := pX _ sw) (by first | exact hG.1 | exact r1.1 | exact hXb.1 | exact hX.1) rfl) ?_
        refine T.iconst (pc' := 32) (v := nI 2) (q_d dX5_check_0 16 rfl) rfl (by decide) ?_
        refine T.iald (pc' := 33) (q_d dX5_check_0 17 rfl) rfl rfl (by decide) rfl (by omega) (by decide) h6 ?_
        refine T.icmp_leN (tgt := 39) (pc' := 36) (q_d dX5_check_0 18 rfl) rfl (by decide) (by omega) (by omega) (fun h33 => ?_) (fun h33 => ?_)
        · refine T.aload_n (pc' := 40) (q_d dX5_check_0 21 rfl) rfl rfl rfl ?_
          refine T.callV (pc' := 43) (ci := 5) (q_d dX5_check_0 22 rfl) rfl uX5_standingMoves wM_X5_129 (c_standingMoves hX) rfl rfl (by decide) rfl rfl (by decide) (Nat.le_of_ble_eq_true rfl) rfl rfl (fun _ => rfl) ?_
          rintro _ M2 ⟨rfl, e8, e9, e10, f28, fT, hTb⟩
          have hXb := hX.tb fT hTb
          dsimp only [Option.toList, List.cons_append, List.nil_append, List.append_nil]
          refine T.astore_n (pc' := 44) (q_d dX5_check_0 23 rfl) rfl rfl (by decide) rfl rfl ?_
          refine T.aload_n (pc' := 45) (q_d dX5_check_0 24 rfl) rfl rfl rfl ?_
          refine T.getR (pc' := 48) (ci := 5) (k0 := 0) (q_d dX5_check_0 25 rfl) rfl rfl (by decide) rfl inX5 (by decide) rfl wF_X5_10 (rP (P := pX _ sw) (by first | exact hG.1 | exact r1.1 | exact hXb.1 | exact hX.1) rfl) ?_
          refine T.aload_n (pc' := 49) (q_d dX5_check_0 26 rfl) rfl rfl rfl ?_
          refine T.iload_n (pc' := 50) (q_d dX5_check_0 27 rfl) rfl rfl rfl ?_
          refine T.iload_n (pc' := 51) (q_d dX5_check_0 28 rfl) rfl rfl rfl ?_
          refine T.callV (pc' := 54) (ci := 3) (q_d dX5_check_0 29 rfl) rfl uX3_canBeRound wM_X5_133 (c_canBeRound ho hXb.1 hXb.2.2.1 hXb.2.2.2.1 (hTb.2.2.2.1 e8) (show v < 4 by omega)) rfl rfl (by decide) rfl rfl (by decide) (Nat.le_of_ble_eq_true rfl) rfl rfl (fun _ => rfl) ?_
          rintro v51 _ ⟨rfl, hc⟩
          obtain ⟨cv, rfl, cl, hc⟩ := or_num hc
          dsimp only [Option.toList, List.cons_append, List.nil_append, List.append_nil]
          refine T.if_neN (tgt := 60) (pc' := 57) (q_d dX5_check_0 30 rfl) rfl (by decide) (by omega) (fun h54 => ?_) (fun h54 => ?_)
          · have hcd : canR s u v := by
              rcases hc with ⟨-, q⟩ | ⟨q, -⟩
              · exact q
              · exact absurd q h54
            refine T.aload_n (pc' := 61) (q_d dX5_check_0 33 rfl) rfl rfl rfl ?_
            refine T.callV (pc' := 64) (ci := 5) (q_d dX5_check_0 34 rfl) rfl uX5_record wM_X5_70 (c_record hXb) rfl rfl (by decide) rfl rfl (by decide) (Nat.le_of_ble_eq_true rfl) rfl rfl (fun _ => rfl) ?_
            rintro _ M3 ⟨rfl, ⟨pa2, r1⟩, r2, r3, r4⟩
            dsimp only [Option.toList, List.cons_append, List.nil_append, List.append_nil]
            have hT3 : RT M3 s := (hTb.2.2.2.1 e8).mono (fun a a1 a2 => r3 a (by omega) (by omega))
            refine T.aload_n (pc' := 65) (q_d dX5_check_0 35 rfl) rfl rfl rfl ?_
            refine T.getR (pc' := 68) (ci := 5) (k0 := 0) (q_d dX5_check_0 36 rfl) rfl rfl (by decide) rfl inX5 (by decide) rfl wF_X5_10 (rP (P := pX _ sw) (by first | exact hG.1 | exact r1.1 | exact hXb.1 | exact hX.1) rfl) ?_
            refine T.aload_n (pc' := 69) (q_d dX5_check_0 37 rfl) rfl rfl rfl ?_
            refine T.iload_n (pc' := 70) (q_d dX5_check_0 38 rfl) rfl rfl rfl ?_
            refine T.iload_n (pc' := 71) (q_d dX5_check_0 39 rfl) rfl rfl rfl ?_
            refine T.callV (pc' := 74) (ci := 3) (q_d dX5_check_1 0 rfl) rfl uX3_addRound wM_X5_137 (c_addRound ho r1.1 r1.2.2.1 r1.2.2.2.1 (hT3) (show v < 4 by omega)) rfl rfl (by decide) rfl rfl (by decide) (Nat.le_of_ble_eq_true rfl) rfl rfl (fun _ => rfl) ?_
            rintro _ M4 ⟨rfl, e9⟩
            have hG : RX M4 (b + 1) (sRound s u v) (pushK k) (pushW k was s) n t pa2 sw := by rw [e9]; exact r1.now (RS_round r1.2.2.1 r1.2.2.2.1) (r1.2.2.2.1.round hcd) (by omega) ⟨rfl, fun a h9 => by funext j; rw [qI_ne (Or.inl (by omega)), qI_ne (Or.inl (by omega)), qI_ne (Or.inl (by omega)), qI_ne (Or.inl (by omega)), qI_ne (Or.inl (by omega))]⟩ ((Cy.lround s u v).lTb r1.2.2.2.1.1 r1.2.2.2.2.2.2.2.2.2)
            dsimp only [Option.toList, List.cons_append, List.nil_append, List.append_nil]
            refine T.aload_n (pc' := 75) (q_d dX5_check_1 1 rfl) rfl rfl rfl ?_
            refine T.getR (pc' := 78) (ci := 5) (k0 := 0) (q_d dX5_check_1 2 rfl) rfl rfl (by decide) rfl inX5 (by decide) rfl wF_X5_10 (rP (P := pX _ sw) (by first | exact hG.1 | exact r1.1 | exact hXb.1 | exact hX.1) rfl) ?_
            refine T.getI (pc' := 81) (ci := 3) (k0 := 5) (q_d dX5_check_1 3 rfl) rfl rfl (by decide) rfl inX3 (by decide) rfl wF_X5_118 (show M4.1 1 5 = thn s (s 1) u v from hG.2.2.1.2.1) ?_
            refine T.callS (pc' := 84) (q_d dX5_check_1 4 rfl) rfl uJ6_bitCount_0f7a4 wM_X5_124 (c_bitCount (show thn s (s 1) u v < 128 by omega)) rfl rfl (by decide) (Nat.le_of_ble_eq_true rfl) rfl rfl (fun _ => rfl) ?_
            rintro _ _ ⟨rfl, rfl⟩
            dsimp only [Option.toList, List.cons_append, List.nil_append, List.append_nil]
            refine T.iret (q_d dX5_check_1 5 rfl) rfl rfl rfl ?_
            have er : oCheck s k was n t u v = (ones (thn s (s 1) u v), act s k was n t (sRound s u v)) := by unfold oCheck; rw [if_pos a1, if_pos hcd]
            rw [er]
            exact ⟨rfl, pa2, sw, hG⟩
          · refine T.ldc (pc' := 59) (v := nI 4293967294) (q_d dX5_check_0 31 rfl) rfl wN_X5_87 ?_
            refine T.iret (q_d dX5_check_0 32 rfl) rfl rfl rfl ?_
            have hcd : ¬ canR s u v := by
              rcases hc with ⟨q, -⟩ | ⟨-, q⟩
              · exact absurd h54 (by omega)
              · exact q
            have er : oCheck s k was n t u v = (4293967294, (s, k, was, n, t)) := by unfold oCheck; rw [if_pos a1, if_neg hcd]
            rw [er]
            exact ⟨rfl, pa, sw, hXb.le (Nat.le_succ _)⟩
        · exact absurd a1.2.2 (by omega)
      · exact absurd h14 (by rw [if_pos e1]; decide)
  · have er : oCheck s k was n t u v = (4293967295, (s, k, was, n, t)) := by unfold oCheck; rw [if_neg a1]
    have fin : OX (b + 1) (oCheck s k was n t u v) (some (.int (nI 4293967295))) M := by rw [er]; exact ⟨rfl, pa, sw, hX.le (Nat.le_succ _)⟩
    by_cases a2 : u < 2 ^ s 0
    · by_cases a3 : v ≤ 3
      · have e1 : inS v 0 3 = true := e.mpr ⟨Nat.zero_le _, a3⟩
        refine T.aload_n (pc' := 1) (q_d dX5_check_0 0 rfl) rfl rfl rfl ?_
        refine T.iload_n (pc' := 2) (q_d dX5_check_0 1 rfl) rfl rfl rfl ?_
        refine T.callV (pc' := 5) (ci := 5) (q_d dX5_check_0 2 rfl) rfl uX5_isSet wM_X5_114 (c_isSet hX.1 hX.2.2.1 hX.2.2.2.1 hu) rfl rfl (by decide) rfl rfl (by decide) (Nat.le_of_ble_eq_true rfl) rfl rfl (fun _ => rfl) ?_
        rintro _ _ ⟨rfl, rfl⟩
        dsimp only [Option.toList, List.cons_append, List.nil_append, List.append_nil]
        refine T.if_eqN (tgt := 17) (pc' := 8) (q_d dX5_check_0 3 rfl) rfl (by decide) (by split <;> decide) (fun h5 => ?_) (fun h5 => ?_)
        · exact absurd h5 (by rw [if_pos a2]; decide)
        · refine T.iload_n (pc' := 9) (q_d dX5_check_0 4 rfl) rfl rfl rfl ?_
          refine T.iconst (pc' := 10) (v := nI 0) (q_d dX5_check_0 5 rfl) rfl (by decide) ?_
          refine T.iconst (pc' := 11) (v := nI 3) (q_d dX5_check_0 6 rfl) rfl (by decide) ?_
          refine T.callS (pc' := 14) (q_d dX5_check_0 7 rfl) rfl uX5_isWithin wM_X5_60 (c_isWithin hv (by decide) (hi := 3) (by decide)) rfl rfl (by decide) (Nat.le_of_ble_eq_true rfl) rfl rfl (fun _ => rfl) ?_
          rintro _ _ ⟨rfl, rfl⟩
          dsimp only [Option.toList, List.cons_append, List.nil_append, List.append_nil]
          refine T.if_neN (tgt := 20) (pc' := 17) (q_d dX5_check_0 8 rfl) rfl (by decide) (by split <;> decide) (fun h14 => ?_) (fun h14 => ?_)
          · refine T.iload_n (pc' := 21) (q_d dX5_check_0 11 rfl) rfl rfl rfl ?_
            refine T.callS (pc' := 24) (q_d dX5_check_0 12 rfl) rfl uJ6_bitCount_0f7a4 wM_X5_124 (c_bitCount (show u < 128 by omega)) rfl rfl (by decide) (Nat.le_of_ble_eq_true rfl) rfl rfl (fun _ => rfl) ?_
            rintro _ _ ⟨rfl, rfl⟩
            dsimp only [Option.toList, List.cons_append, List.nil_append, List.append_nil]
            refine T.aload_n (pc' := 25) (q_d dX5_check_0 13 rfl) rfl rfl rfl ?_
            refine T.getR (pc' := 28) (ci := 5) (k0 := 0) (q_d dX5_check_0 14 rfl) rfl rfl (by decide) rfl inX5 (by decide) rfl wF_X5_10 (rP hX.1 rfl) ?_
            refine T.getR (pc' := 31) (ci := 3) (k0 := 4) (q_d dX5_check_0 15 rfl) rfl rfl (by decide) rfl inX3 (by decide) rfl wF_X5_111 (rP hX.1 rfl) ?_
            refine T.iconst (pc' := 32) (v := nI 2) (q_d dX5_check_0 16 rfl) rfl (by decide) ?_
            refine T.iald (pc' := 33) (q_d dX5_check_0 17 rfl) rfl rfl (by decide) rfl (by omega) (by decide) h6 ?_
            refine T.icmp_leN (tgt := 39) (pc' := 36) (q_d dX5_check_0 18 rfl) rfl (by decide) (by omega) (by omega) (fun h33 => ?_) (fun h33 => ?_)
            · exact absurd ⟨a2, a3, by omega⟩ a1
            · refine T.ldc (pc' := 38) (v := nI 4293967295) (q_d dX5_check_0 19 rfl) rfl wN_X5_64 ?_
              refine T.iret (q_d dX5_check_0 20 rfl) rfl rfl rfl ?_
              exact fin
          · exact absurd h14 (by rw [if_pos e1]; decide)
      · have e1 : ¬ inS v 0 3 = true := fun q => a3 (e.mp q).2
        refine T.aload_n (pc' := 1) (q_d dX5_check_0 0 rfl) rfl rfl rfl ?_
        refine T.iload_n (pc' := 2) (q_d dX5_check_0 1 rfl) rfl rfl rfl ?_
        refine T.callV (pc' := 5) (ci := 5) (q_d dX5_check_0 2 rfl) rfl uX5_isSet wM_X5_114 (c_isSet hX.1 hX.2.2.1 hX.2.2.2.1 hu) rfl rfl (by decide) rfl rfl (by decide) (Nat.le_of_ble_eq_true rfl) rfl rfl (fun _ => rfl) ?_
        rintro _ _ ⟨rfl, rfl⟩
        dsimp only [Option.toList, List.cons_append, List.nil_append, List.append_nil]
        refine T.if_eqN (tgt := 17) (pc' := 8) (q_d dX5_check_0 3 rfl) rfl (by decide) (by split <;> decide) (fun h5 => ?_) (fun h5 => ?_)
        · exact absurd h5 (by rw [if_pos a2]; decide)
        · refine T.iload_n (pc' := 9) (q_d dX5_check_0 4 rfl) rfl rfl rfl ?_
          refine T.iconst (pc' := 10) (v := nI 0) (q_d dX5_check_0 5 rfl) rfl (by decide) ?_
          refine T.iconst (pc' := 11) (v := nI 3) (q_d dX5_check_0 6 rfl) rfl (by decide) ?_
          refine T.callS (pc' := 14) (q_d dX5_check_0 7 rfl) rfl uX5_isWithin wM_X5_60 (c_isWithin hv (by decide) (hi := 3) (by decide)) rfl rfl (by decide) (Nat.le_of_ble_eq_true rfl) rfl rfl (fun _ => rfl) ?_
          rintro _ _ ⟨rfl, rfl⟩
          dsimp only [Option.toList, List.cons_append, List.nil_append, List.append_nil]
          refine T.if_neN (tgt := 20) (pc' := 17) (q_d dX5_check_0 8 rfl) rfl (by decide) (by split <;> decide) (fun h14 => ?_) (fun h14 => ?_)
          · exact absurd (if_neg e1) h14
          · refine T.ldc (pc' := 19) (v := nI 4293967295) (q_d dX5_check_0 9 rfl) rfl wN_X5_64 ?_
            refine T.iret (q_d dX5_check_0 10 rfl) rfl rfl rfl ?_
            exact fin
    · refine T.aload_n (pc' := 1) (q_d dX5_check_0 0 rfl) rfl rfl rfl ?_
      refine T.iload_n (pc' := 2) (q_d dX5_check_0 1 rfl) rfl rfl rfl ?_
      refine T.callV (pc' := 5) (ci := 5) (q_d dX5_check_0 2 rfl) rfl uX5_isSet wM_X5_114 (c_isSet hX.1 hX.2.2.1 hX.2.2.2.1 hu) rfl rfl (by decide) rfl rfl (by decide) (Nat.le_of_ble_eq_true rfl) rfl rfl (fun _ => rfl) ?_
      rintro _ _ ⟨rfl, rfl⟩
      dsimp only [Option.toList, List.cons_append, List.nil_append, List.append_nil]
      refine T.if_eqN (tgt := 17) (pc' := 8) (q_d dX5_check_0 3 rfl) rfl (by decide) (by split <;> decide) (fun h5 => ?_) (fun h5 => ?_)
      · refine T.ldc (pc' := 19) (v := nI 4293967295) (q_d dX5_check_0 9 rfl) rfl wN_X5_64 ?_
        refine T.iret (q_d dX5_check_0 10 rfl) rfl rfl rfl ?_
        exact fin
      · exact absurd (if_neg a2) h5
end CX5C
