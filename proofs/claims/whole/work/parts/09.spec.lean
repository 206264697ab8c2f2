/-! what both sides mean: a state is the numbers s: 0 places, 1 belief, 2 rounds, 3 caught, 4 hare, 5 signals, 6 budget, 7.. colors, 14.. roads, 21.. those not shut, 28.. the last eight rounds (places, signal, belief behind), the newest first -/
def sumTo (f : Nat → Nat) : Nat → Nat
  | 0 => 0
  | n + 1 => sumTo f n + f n
def orTo (f : Nat → Nat) : Nat → Nat
  | 0 => 0
  | n + 1 => orTo f n ||| f n
def ones (x : Nat) : Nat := sumTo (fun k => x >>> k &&& 1) 7
def dif (a b : Nat) : Nat := a &&& (b ^^^ 4294967295)
def goes (s : Nat → Nat) (p c : Nat) : Nat :=
  if s 4 = 0 then (if s (21 + p) = 0 then 1 <<< p else s (21 + p))
  else if s 4 = 1 then s (21 + p) ||| 1 <<< p
  else if s 4 = 2 then (if s (21 + p) = 0 then 1 <<< p else s (21 + p) ||| orTo (fun q => if s (21 + p) >>> q &&& 1 = 1 then s (21 + q) else 0) (s 0))
  else dif (s (21 + p)) c ||| 1 <<< p
def hears (s : Nat → Nat) (f t : Nat) : Nat :=
  if s 5 = 0 then 0 else if s 5 = 1 then s (7 + t) else if s 5 = 2 then (if f = t then 0 else 1) else (if 3 < ones (s (21 + t)) then 3 else ones (s (21 + t)))
/-- the belief behind a round; g = 4: of all signals -/
def thn (s : Nat → Nat) (b c g : Nat) : Nat :=
  orTo (fun p => orTo (fun q => if (if dif b c >>> p &&& 1 = 1 then goes s p c else 0) >>> q &&& 1 = 1 ∧ (g = 4 ∨ hears s p q = g) then 1 <<< q else 0) (s 0)) (s 0)
def WF (b : Nat) (s : Nat → Nat) : Prop :=
  s 0 ≤ 7 ∧ s 1 < 2 ^ s 0 ∧ s 2 ≤ b ∧ s 4 ≤ 3 ∧ s 5 ≤ 3 ∧ (s 6 = 1 ∨ s 6 = 2) ∧ (∀ i, i < 7 → s (7 + i) ≤ 3) ∧ (∀ i, i < 7 → s (14 + i) < 2 ^ s 0) ∧ (∀ i, i < 7 → s (21 + i) < 2 ^ s 0) ∧
  (∀ i, s 0 ≤ i → i < 7 → s (14 + i) = 0 ∧ s (21 + i) = 0) ∧ (s 3 = if 0 < s 2 ∧ s 1 = 0 then 1 else 0)
/-- a State's cells hold s -/
def RS (M : qM) (o : Nat) (s : Nat → Nat) : Prop :=
  M.1 o 0 = s 0 ∧ M.1 o 5 = s 1 ∧ M.1 o 6 = s 2 ∧ (∀ i, i < 7 → M.1 (o + 1) i = s (7 + i)) ∧ (∀ i, i < 7 → M.1 (o + 2) i = s (14 + i)) ∧ (∀ i, i < 7 → M.1 (o + 3) i = s (21 + i)) ∧ (∀ i, i < 3 → M.1 (o + 4) i = s (4 + i)) ∧
  (∀ k, k < 8 → k < s 2 → M.1 (o + 5) ((s 2 - 1 - k) % 8) = s (28 + 3 * k) ∧ M.1 (o + 6) ((s 2 - 1 - k) % 8) = s (29 + 3 * k) ∧ M.1 (o + 7) ((s 2 - 1 - k) % 8) = s (30 + 3 * k))
theorem p2_le {n : Nat} (h : n ≤ 7) : 2 ^ n ≤ 128 := Nat.le_trans (Nat.pow_le_pow_right (by decide) h) (by decide)
theorem shr_lt {a k : Nat} {n : Nat} (h : a < n) : a >>> k < n := Nat.lt_of_le_of_lt (by rw [Nat.shiftRight_eq_div_pow]; exact Nat.div_le_self _ _) h
theorem and1_lt (a : Nat) : a &&& 1 < 2 := Nat.lt_of_le_of_lt Nat.and_le_right (by decide)
theorem and1_01 (a : Nat) : a &&& 1 = 0 ∨ a &&& 1 = 1 := by have := and1_lt a; omega
theorem bit_iff (a k : Nat) : a >>> k &&& 1 = 1 ↔ a.testBit k = true := by
  rw [Nat.testBit, bne_iff_ne, Nat.and_comm]
  have := and1_01 (a >>> k)
  rw [Nat.and_comm] at this ⊢
  omega
