/-! sets as bits -/
theorem orTo_bit {f : Nat → Nat} {i : Nat} : ∀ n, (orTo f n).testBit i = true ↔ ∃ k, k < n ∧ (f k).testBit i = true
  | 0 => by simp [orTo]
  | n + 1 => by
    rw [orTo, Nat.testBit_or, Bool.or_eq_true, orTo_bit n]
    constructor
    · rintro (⟨k, h1, h2⟩ | h)
      · exact ⟨k, by omega, h2⟩
      · exact ⟨n, by omega, h⟩
    · rintro ⟨k, h1, h2⟩
      by_cases e : k = n
      · subst e; exact Or.inr h2
      · exact Or.inl ⟨k, by omega, h2⟩
theorem one_bit {q i : Nat} : (1 <<< q).testBit i = true ↔ i = q := by
  rw [Nat.one_shiftLeft, Nat.testBit_two_pow, decide_eq_true_eq]
  exact eq_comm
theorem dif_bit {a b i : Nat} (hi : i < 32) : (dif a b).testBit i = true ↔ a.testBit i = true ∧ b.testBit i = false := by
  unfold dif
  rw [Nat.testBit_and, Nat.testBit_xor, show (4294967295 : Nat) = 2 ^ 32 - 1 from rfl, Nat.testBit_two_pow_sub_one, Bool.and_eq_true]
  simp [hi]
theorem lt_bit {a n i : Nat} (h : a < 2 ^ n) (hb : a.testBit i = true) : i < n := by
  refine Nat.lt_of_not_le fun h2 => ?_
  rw [Nat.testBit_lt_two_pow (Nat.lt_of_lt_of_le h (Nat.pow_le_pow_right (by decide) h2))] at hb
  cases hb
theorem bit_lt {a n : Nat} (h : ∀ i, a.testBit i = true → i < n) : a < 2 ^ n := by
  refine Nat.lt_pow_two_of_testBit a (fun i hi => ?_)
  cases hb : a.testBit i with
  | false => rfl
  | true => exact absurd (h i hb) (by omega)
theorem dif_lt {a b n : Nat} (h : a < n) : dif a b < n := Nat.lt_of_le_of_lt Nat.and_le_left h
theorem bit_ext {a b : Nat} (h : ∀ i, a.testBit i = true ↔ b.testBit i = true) : a = b :=
  Nat.eq_of_testBit_eq fun i => Bool.eq_iff_iff.mpr (h i)
theorem goes_lt {b : Nat} {s : Nat → Nat} (hw : WF b s) {p c : Nat} (hp : p < s 0) : goes s p c < 2 ^ s 0 := by
  have h1 := hw.2.2.2.2.2.2.2.2.1
  have h7 := hw.1
  have hp2 : 1 <<< p < 2 ^ s 0 := by rw [Nat.one_shiftLeft]; exact Nat.pow_lt_pow_right (by decide) hp
  have hn := h1 p (by omega)
  unfold goes
  split
  · split
    · exact hp2
    · exact hn
  · split
    · exact Nat.or_lt_two_pow hn hp2
    · split
      · split
        · exact hp2
        · refine Nat.or_lt_two_pow hn (bit_lt fun i hi => ?_)
          obtain ⟨k, hk, hk2⟩ := (orTo_bit _).mp hi
          split at hk2
          · exact lt_bit (h1 k (by omega)) hk2
          · simp at hk2
      · exact Nat.or_lt_two_pow (dif_lt hn) hp2
theorem thn_bit {b c g q : Nat} {s : Nat → Nat} (h7 : s 0 ≤ 7) : (thn s b c g).testBit q = true ↔ q < s 0 ∧ ∃ p, p < s 0 ∧ b.testBit p = true ∧ c.testBit p = false ∧ (goes s p c).testBit q = true ∧ (g = 4 ∨ hears s p q = g) := by
  unfold thn
  rw [orTo_bit]
  constructor
  · rintro ⟨p, hp, h⟩
    obtain ⟨k, hk, h2⟩ := (orTo_bit _).mp h
    by_cases h3 : (if dif b c >>> p &&& 1 = 1 then goes s p c else 0) >>> k &&& 1 = 1 ∧ (g = 4 ∨ hears s p k = g)
    · rw [if_pos h3] at h2
      have e := one_bit.mp h2
      subst e
      obtain ⟨h4, h5⟩ := h3
      by_cases h6 : dif b c >>> p &&& 1 = 1
      · rw [if_pos h6] at h4
        have h8 := (dif_bit (by omega)).mp ((bit_iff _ _).mp h6)
        exact ⟨hk, p, hp, h8.1, h8.2, (bit_iff _ _).mp h4, h5⟩
      · rw [if_neg h6] at h4
        simp at h4
    · rw [if_neg h3] at h2
      simp at h2
  · rintro ⟨hq, p, hp, h1, h2, h3, h4⟩
    refine ⟨p, hp, (orTo_bit _).mpr ⟨q, hq, ?_⟩⟩
    rw [if_pos]
    · exact one_bit.mpr rfl
    · refine ⟨?_, h4⟩
      rw [if_pos ((bit_iff _ _).mpr ((dif_bit (by omega)).mpr ⟨h1, h2⟩))]
      exact (bit_iff _ _).mpr h3
theorem thn_lt {b c g : Nat} {s : Nat → Nat} (h7 : s 0 ≤ 7) : thn s b c g < 2 ^ s 0 := bit_lt fun i hi => ((thn_bit h7).mp hi).1
theorem thn_mono {b b' c g : Nat} {s : Nat → Nat} (h7 : s 0 ≤ 7) (h : ∀ i, b'.testBit i = true → b.testBit i = true) : ∀ i, (thn s b' c g).testBit i = true → (thn s b c g).testBit i = true := by
  intro i hi
  obtain ⟨h1, p, h2, h3, h4⟩ := (thn_bit h7).mp hi
  exact (thn_bit h7).mpr ⟨h1, p, h2, h p h3, h4⟩
/-- where a hare from p can be, of which the signal g is heard -/
def tgt (s : Nat → Nat) (p g : Nat) : Nat := orTo (fun q => if goes s p 0 >>> q &&& 1 = 1 ∧ (g = 4 ∨ hears s p q = g) then 1 <<< q else 0) (s 0)
/-- where it can be, from the places below n of a set -/
def gon (s : Nat → Nat) (g b : Nat) : Nat → Nat
  | 0 => 0
  | n + 1 => if b >>> n &&& 1 = 1 then gon s g b n ||| tgt s n g else gon s g b n
theorem tgt_bit {s : Nat → Nat} {p g i : Nat} : (tgt s p g).testBit i = true ↔ i < s 0 ∧ (goes s p 0).testBit i = true ∧ (g = 4 ∨ hears s p i = g) := by
  unfold tgt
  rw [orTo_bit]
  constructor
  · rintro ⟨k, hk, h2⟩
    split at h2
    · next h3 =>
      have e := one_bit.mp h2
      subst e
      exact ⟨hk, (bit_iff _ _).mp h3.1, h3.2⟩
    · simp at h2
  · rintro ⟨h1, h2, h3⟩
    exact ⟨i, h1, by rw [if_pos ⟨(bit_iff _ _).mpr h2, h3⟩]; exact one_bit.mpr rfl⟩
theorem tgt_4 {b : Nat} {s : Nat → Nat} (hw : WF b s) {p : Nat} (hp : p < s 0) : tgt s p 4 = goes s p 0 := by
  refine bit_ext fun i => ?_
  rw [tgt_bit]
  constructor
  · exact fun h => h.2.1
  · exact fun h => ⟨lt_bit (goes_lt hw hp) h, h, Or.inl rfl⟩
theorem gon_bit {s : Nat → Nat} {g b i : Nat} : ∀ n, (gon s g b n).testBit i = true ↔ ∃ p, p < n ∧ b.testBit p = true ∧ (tgt s p g).testBit i = true
  | 0 => by simp [gon]
  | n + 1 => by
    unfold gon
    by_cases h : b >>> n &&& 1 = 1
    · rw [if_pos h, Nat.testBit_or, Bool.or_eq_true, gon_bit n]
      constructor
      · rintro (⟨p, h1, h2⟩ | h3)
        · exact ⟨p, by omega, h2⟩
        · exact ⟨n, by omega, (bit_iff _ _).mp h, h3⟩
      · rintro ⟨p, h1, h2, h3⟩
        by_cases e : p = n
        · subst e; exact Or.inr h3
        · exact Or.inl ⟨p, by omega, h2, h3⟩
    · rw [if_neg h, gon_bit n]
      constructor
      · rintro ⟨p, h1, h2⟩
        exact ⟨p, by omega, h2⟩
      · rintro ⟨p, h1, h2, h3⟩
        by_cases e : p = n
        · subst e; exact absurd ((bit_iff _ _).mpr h2) h
        · exact ⟨p, by omega, h2, h3⟩
theorem gon_lt {s : Nat → Nat} {g b n : Nat} : gon s g b n < 2 ^ s 0 := bit_lt fun i hi => by
  obtain ⟨p, -, -, h⟩ := (gon_bit n).mp hi
  exact (tgt_bit.mp h).1
/-- the sets whose highest place is n, from those of the lower places -/
theorem gon_spread {s : Nat → Nat} {g a n : Nat} (ha : a < 2 ^ n) : gon s g (a ||| 1 <<< n) (n + 1) = gon s g a n ||| tgt s n g := by
  have hb : ∀ p, (a ||| 1 <<< n).testBit p = true ↔ a.testBit p = true ∨ p = n := fun p => by rw [Nat.testBit_or, Bool.or_eq_true, one_bit]
  refine bit_ext fun i => ?_
  rw [gon_bit, Nat.testBit_or, Bool.or_eq_true, gon_bit]
  constructor
  · rintro ⟨p, h1, h2, h3⟩
    rcases (hb p).mp h2 with h | h
    · exact Or.inl ⟨p, lt_bit ha h, h, h3⟩
    · subst h; exact Or.inr h3
  · rintro (⟨p, h1, h2, h3⟩ | h)
    · exact ⟨p, by omega, (hb p).mpr (Or.inl h2), h3⟩
    · exact ⟨n, by omega, (hb n).mpr (Or.inr rfl), h⟩
theorem gon_more {s : Nat → Nat} {g a n m : Nat} (ha : a < 2 ^ n) (h : n ≤ m) : gon s g a m = gon s g a n := by
  refine bit_ext fun i => ?_
  rw [gon_bit, gon_bit]
  constructor
  · rintro ⟨p, h1, h2, h3⟩
    exact ⟨p, lt_bit ha h2, h2, h3⟩
  · rintro ⟨p, h1, h2, h3⟩
    exact ⟨p, by omega, h2, h3⟩
/-- the belief behind a round, as the tables tell it -/
def aft (s : Nat → Nat) (b c g : Nat) : Nat := if s 4 = 3 then dif (gon s g (dif b c) (s 0)) c else gon s g (dif b c) (s 0)
theorem goes_c {s : Nat → Nat} {p c : Nat} (h : s 4 ≠ 3) (h4 : s 4 ≤ 3) : goes s p c = goes s p 0 := by
  unfold goes
  split
  · rfl
  · split
    · rfl
    · split
      · rfl
      · omega
theorem aft_eq {bb : Nat} {s : Nat → Nat} (hw : WF bb s) {b c g : Nat} : aft s b c g = thn s b c g := by
  have h7 := hw.1
  have h4 := hw.2.2.2.1
  refine bit_ext fun i => ?_
  rw [thn_bit h7]
  unfold aft
  by_cases h3 : s 4 = 3
  · rw [if_pos h3]
    have key : ∀ p, p < s 0 → c.testBit p = false → i < 32 → (((goes s p 0).testBit i = true ∧ c.testBit i = false) ↔ (goes s p c).testBit i = true) := by
      intro p hp hc hi
      unfold goes
      rw [if_neg (by omega), if_neg (by omega), if_neg (by omega), if_neg (by omega), if_neg (by omega), if_neg (by omega), Nat.testBit_or, Nat.testBit_or, Bool.or_eq_true, Bool.or_eq_true, dif_bit hi, dif_bit hi, one_bit]
      constructor
      · rintro ⟨h1 | h1, h2⟩
        · exact Or.inl ⟨h1.1, h2⟩
        · exact Or.inr h1
      · rintro (h1 | h1)
        · exact ⟨Or.inl ⟨h1.1, by simp⟩, h1.2⟩
        · subst h1; exact ⟨Or.inr rfl, hc⟩
    constructor
    · intro h
      have hi : i < 7 := Nat.lt_of_lt_of_le (lt_bit (dif_lt gon_lt) h) h7
      obtain ⟨h1, h2⟩ := (dif_bit (by omega)).mp h
      obtain ⟨p, hp, h5, h6⟩ := (gon_bit _).mp h1
      obtain ⟨h8, h9, h10⟩ := tgt_bit.mp h6
      obtain ⟨h11, h12⟩ := (dif_bit (by omega)).mp h5
      exact ⟨h8, p, hp, h11, h12, (key p hp h12 (by omega)).mp ⟨h9, h2⟩, h10⟩
    · rintro ⟨hi, p, hp, h1, h2, h5, h6⟩
      have h8 := (key p hp h2 (by omega)).mpr h5
      exact (dif_bit (by omega)).mpr ⟨(gon_bit _).mpr ⟨p, hp, (dif_bit (by omega)).mpr ⟨h1, h2⟩, tgt_bit.mpr ⟨hi, h8.1, h6⟩⟩, h8.2⟩
  · rw [if_neg h3, gon_bit]
    constructor
    · rintro ⟨p, hp, h5, h6⟩
      obtain ⟨h8, h9, h10⟩ := tgt_bit.mp h6
      obtain ⟨h11, h12⟩ := (dif_bit (by omega)).mp h5
      exact ⟨h8, p, hp, h11, h12, by rw [goes_c h3 h4]; exact h9, h10⟩
    · rintro ⟨hi, p, hp, h1, h2, h5, h6⟩
      exact ⟨p, hp, (dif_bit (by omega)).mpr ⟨h1, h2⟩, tgt_bit.mpr ⟨hi, by rw [← goes_c h3 h4 (c := c)]; exact h5, h6⟩⟩
theorem hears_lt {b : Nat} {s : Nat → Nat} (hw : WF b s) {p q : Nat} (hq : q < 7) : hears s p q < 4 := by
  have h1 := hw.2.2.2.2.2.2.1 q hq
  unfold hears
  split
  · decide
  · split
    · omega
    · split
      · split <;> decide
      · split <;> omega
