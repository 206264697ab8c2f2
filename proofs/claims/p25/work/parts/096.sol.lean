/-! the rounds that beliefs need: 1000 means not for sure; signals g0 to g1 are told apart -/
def enough (s nd : Nat → Nat) (g0 g1 lv b c : Nat) : Bool := (List.range 5).all fun g => !(decide (g0 ≤ g) && decide (g ≤ g1)) || decide (nd (thn s b c g) < lv)
def goodC (s nd : Nat → Nat) (g0 g1 lv b c : Nat) : Bool := decide (ones c ≤ s 6) && enough s nd g0 g1 lv b c
def fstC (s nd : Nat → Nat) (g0 g1 lv b : Nat) : Option Nat := (List.range (2 ^ s 0)).find? (goodC s nd g0 g1 lv b)
def newly (s nd : Nat → Nat) (g0 g1 lv b : Nat) : Bool := decide (0 < b) && decide (b < 2 ^ s 0) && decide (nd b = 1000) && (fstC s nd g0 g1 lv b).isSome
def solN (s : Nat → Nat) (g0 g1 : Nat) : Nat → (Nat → Nat) × (Nat → Nat)
  | 0 => (fun b => if b = 0 then 0 else 1000, fun _ => 0)
  | k + 1 => (fun b => if newly s (solN s g0 g1 k).1 g0 g1 (k + 1) b = true then k + 1 else (solN s g0 g1 k).1 b, fun b => if newly s (solN s g0 g1 k).1 g0 g1 (k + 1) b = true then (fstC s (solN s g0 g1 k).1 g0 g1 (k + 1) b).getD 0 else (solN s g0 g1 k).2 b)
theorem enough_iff {s nd : Nat → Nat} {g0 g1 lv b c : Nat} (hg : g1 ≤ 4) : enough s nd g0 g1 lv b c = true ↔ ∀ g, g0 ≤ g → g ≤ g1 → nd (thn s b c g) < lv := by
  unfold enough
  rw [List.all_eq_true]
  constructor
  · intro h g h1 h2
    have := h g (List.mem_range.mpr (by omega))
    simpa [h1, h2] using this
  · intro h g _
    by_cases h1 : g0 ≤ g
    · by_cases h2 : g ≤ g1
      · simp [h1, h2, h g h1 h2]
      · simp [h2]
    · simp [h1]
theorem sol_val {s : Nat → Nat} {g0 g1 : Nat} : ∀ k b, (solN s g0 g1 k).1 b = 1000 ∨ (solN s g0 g1 k).1 b ≤ k
  | 0, b => by
    simp only [solN]
    split
    · exact Or.inr (Nat.le_refl _)
    · exact Or.inl rfl
  | k + 1, b => by
    simp only [solN]
    split
    · exact Or.inr (Nat.le_refl _)
    · rcases sol_val (s := s) (g0 := g0) (g1 := g1) k b with h | h
      · exact Or.inl h
      · exact Or.inr (by omega)
theorem newly_pos {s nd : Nat → Nat} {g0 g1 lv b : Nat} (h : newly s nd g0 g1 lv b = true) : 0 < b ∧ b < 2 ^ s 0 ∧ nd b = 1000 ∧ (fstC s nd g0 g1 lv b).isSome = true := by
  simp only [newly, Bool.and_eq_true, decide_eq_true_eq] at h
  exact ⟨h.1.1.1, h.1.1.2, h.1.2, h.2⟩
theorem sol_0 {s : Nat → Nat} {g0 g1 : Nat} : ∀ k, (solN s g0 g1 k).1 0 = 0
  | 0 => rfl
  | k + 1 => by
    simp only [solN]
    rw [if_neg, sol_0 k]
    intro h
    exact absurd (newly_pos h).1 (Nat.lt_irrefl 0)
theorem sol_pos {s : Nat → Nat} {g0 g1 b : Nat} (hb : 0 < b) : ∀ k, 0 < (solN s g0 g1 k).1 b
  | 0 => by simp only [solN]; rw [if_neg (by omega)]; decide
  | k + 1 => by
    simp only [solN]
    split
    · omega
    · exact sol_pos hb k
/-- a part of a belief needs no more rounds -/
theorem sol_sub {s : Nat → Nat} {g0 g1 : Nat} (h7 : s 0 ≤ 7) (hg : g1 ≤ 4) : ∀ k b b', k < 1000 → b < 2 ^ s 0 → (∀ i, b'.testBit i = true → b.testBit i = true) → (solN s g0 g1 k).1 b' ≤ (solN s g0 g1 k).1 b
  | 0, b, b', _, _, h => by
    simp only [solN]
    by_cases e : b = 0
    · subst e
      have : b' = 0 := by
        refine Nat.eq_of_testBit_eq fun i => ?_
        cases hb : b'.testBit i with
        | false => simp
        | true => have := h i hb; simp at this
      rw [this]; exact Nat.le_refl _
    · rw [if_neg e]
      split
      · omega
      · exact Nat.le_refl _
  | k + 1, b, b', hk, hb, h => by
    have ih := sol_sub (g0 := g0) h7 hg k b b' (by omega) hb h
    have hb' : b' < 2 ^ s 0 := bit_lt fun i hi => lt_bit hb (h i hi)
    have v1 := sol_val (s := s) (g0 := g0) (g1 := g1) k b
    have v2 := sol_val (s := s) (g0 := g0) (g1 := g1) k b'
    simp only [solN]
    by_cases n1 : newly s (solN s g0 g1 k).1 g0 g1 (k + 1) b = true
    · rw [if_pos n1]
      obtain ⟨p1, p2, p3, p4⟩ := newly_pos n1
      by_cases e0 : b' = 0
      · subst e0
        rw [if_neg (fun h9 => absurd (newly_pos h9).1 (Nat.lt_irrefl 0)), sol_0]
        omega
      · by_cases e1 : (solN s g0 g1 k).1 b' = 1000
        · obtain ⟨c, hc⟩ := Option.isSome_iff_exists.mp p4
          have hc1 := List.mem_of_find?_eq_some hc
          have hc2 := List.find?_some hc
          have hgood : goodC s (solN s g0 g1 k).1 g0 g1 (k + 1) b' c = true := by
            simp only [goodC, Bool.and_eq_true] at hc2 ⊢
            refine ⟨hc2.1, (enough_iff hg).mpr fun g g2 g3 => ?_⟩
            exact Nat.lt_of_le_of_lt (sol_sub h7 hg k _ _ (by omega) (thn_lt h7) (thn_mono h7 h)) ((enough_iff hg).mp hc2.2 g g2 g3)
          have hsome : (fstC s (solN s g0 g1 k).1 g0 g1 (k + 1) b').isSome = true := by
            unfold fstC
            rw [List.find?_isSome]
            exact ⟨c, hc1, hgood⟩
          have n2 : newly s (solN s g0 g1 k).1 g0 g1 (k + 1) b' = true := by
            simp only [newly, Bool.and_eq_true, decide_eq_true_eq]
            exact ⟨⟨⟨Nat.pos_of_ne_zero e0, hb'⟩, e1⟩, hsome⟩
          rw [if_pos n2]; exact Nat.le_refl _
        · split
          · exact Nat.le_refl _
          · omega
    · rw [if_neg n1]
      split
      · next n2 =>
        have := (newly_pos n2).2.2.1
        omega
      · exact ih
/-- a level that settles nothing ends it -/
theorem sol_stop {s : Nat → Nat} {g0 g1 : Nat} (hg : g1 ≤ 4) {k : Nat} (h : ∀ b, newly s (solN s g0 g1 k).1 g0 g1 (k + 1) b = false) : ∀ j, k + j < 999 → solN s g0 g1 (k + j) = solN s g0 g1 k
  | 0, _ => rfl
  | j + 1, hj => by
    have ih := sol_stop hg h j (by omega)
    have key : ∀ b, newly s (solN s g0 g1 (k + j)).1 g0 g1 (k + j + 1) b = false := by
      intro b
      rw [ih]
      have h1 := h b
      have e : ∀ c, goodC s (solN s g0 g1 k).1 g0 g1 (k + j + 1) b c = goodC s (solN s g0 g1 k).1 g0 g1 (k + 1) b c := by
        intro c
        have e2 : enough s (solN s g0 g1 k).1 g0 g1 (k + j + 1) b c = enough s (solN s g0 g1 k).1 g0 g1 (k + 1) b c := by
          rw [Bool.eq_iff_iff, enough_iff hg, enough_iff hg]
          constructor
          · intro q g a1 a2
            have := q g a1 a2
            rcases sol_val (s := s) (g0 := g0) (g1 := g1) k (thn s b c g) with v | v <;> omega
          · intro q g a1 a2
            have := q g a1 a2
            omega
        unfold goodC
        rw [e2]
      have e3 : fstC s (solN s g0 g1 k).1 g0 g1 (k + j + 1) b = fstC s (solN s g0 g1 k).1 g0 g1 (k + 1) b := by
        unfold fstC
        congr 1
        exact funext e
      unfold newly at h1 ⊢
      rw [e3]
      exact h1
    show solN s g0 g1 (k + j + 1) = _
    have : solN s g0 g1 (k + j + 1) = solN s g0 g1 (k + j) := by
      refine Prod.ext (funext fun b => ?_) (funext fun b => ?_)
      · simp only [solN]; rw [key b]; simp
      · simp only [solN]; rw [key b]; simp
    rw [this, ih]
theorem sol_end {s : Nat → Nat} {g0 g1 : Nat} (hg : g1 ≤ 4) {k j : Nat} (h : ∀ b, newly s (solN s g0 g1 k).1 g0 g1 (k + 1) b = false) (hk : k ≤ j) (hj : j < 999) : solN s g0 g1 j = solN s g0 g1 k := by
  have := sol_stop hg h (j - k) (by omega)
  rwa [show k + (j - k) = j by omega] at this
/-- how many beliefs are settled -/
def nset (nd : Nat → Nat) (n : Nat) : Nat := sumTo (fun b => if nd (b + 1) = 1000 then 0 else 1) n
theorem nset_le {nd : Nat → Nat} {n : Nat} : nset nd n ≤ n := by
  have := sumTo_le (f := fun b => if nd (b + 1) = 1000 then 0 else 1) (m := 1) (fun i => by split <;> decide) n
  unfold nset
  omega
theorem sumTo_mono {f g : Nat → Nat} : ∀ n, (∀ i, i < n → f i ≤ g i) → sumTo f n ≤ sumTo g n
  | 0, _ => Nat.le_refl _
  | n + 1, h => by
    have h1 := sumTo_mono n (fun i hi => h i (by omega))
    have h2 := h n (by omega)
    simp only [sumTo]
    omega
theorem sumTo_lt {f g : Nat → Nat} {j : Nat} : ∀ n, (∀ i, i < n → f i ≤ g i) → j < n → f j < g j → sumTo f n < sumTo g n
  | 0, _, h, _ => by omega
  | n + 1, h, hj, hlt => by
    have h1 := sumTo_mono n (fun i hi => h i (by omega))
    have h2 := h n (by omega)
    simp only [sumTo]
    by_cases e : j = n
    · subst e; omega
    · have := sumTo_lt n (fun i hi => h i (by omega)) (by omega : j < n) hlt
      omega
theorem sol_grow {s : Nat → Nat} {g0 g1 k b : Nat} (hk : k < 999) (h7 : s 0 ≤ 7) (h : newly s (solN s g0 g1 k).1 g0 g1 (k + 1) b = true) : nset (solN s g0 g1 k).1 127 < nset (solN s g0 g1 (k + 1)).1 127 := by
  obtain ⟨h1, h2, h3, h4⟩ := newly_pos h
  have := p2_le h7
  have e1 : ∀ x, newly s (solN s g0 g1 k).1 g0 g1 (k + 1) x = true → (solN s g0 g1 (k + 1)).1 x = k + 1 := fun x n1 => by simp only [solN]; rw [if_pos n1]
  have e2 : ∀ x, ¬ newly s (solN s g0 g1 k).1 g0 g1 (k + 1) x = true → (solN s g0 g1 (k + 1)).1 x = (solN s g0 g1 k).1 x := fun x n1 => by simp only [solN]; rw [if_neg n1]
  refine sumTo_lt (j := b - 1) 127 (fun i _ => ?_) (by omega) ?_
  · by_cases n1 : newly s (solN s g0 g1 k).1 g0 g1 (k + 1) (i + 1) = true
    · rw [e1 _ n1, if_neg (show ¬ k + 1 = 1000 by omega)]
      split <;> decide
    · rw [e2 _ n1]; exact Nat.le_refl _
  · rw [show b - 1 + 1 = b by omega, e1 _ h, if_pos h3, if_neg (show ¬ k + 1 = 1000 by omega)]
    decide
