/-! what both sides mean: a state is the numbers s: 0 places, 1 belief, 2 rounds, 3 caught, 4 hare, 5 signals, 6 budget, 7.. colors, 14.. roads, 21.. those not shut, 28.. the last eight rounds (places, signal, belief behind), the newest first -/
def sumTo (f : Nat → Nat) : Nat → Nat
  | 0 => 0
  | n + 1 => sumTo f n + f n
def orTo (f : Nat → Nat) : Nat → Nat
  | 0 => 0
  | n + 1 => orTo f n ||| f n
def ones (x : Nat) : Nat := sumTo (fun k => x >>> k &&& 1) 7
def dif (a b : Nat) : Nat := a &&& (b ^^^ 4294967295)
def goes (s : Nat → Nat) (p c : Nat) : Nat :=
  if s 4 = 0 then (if s (21 + p) = 0 then 1 <<< p else s (21 + p))
  else if s 4 = 1 then s (21 + p) ||| 1 <<< p
  else if s 4 = 2 then (if s (21 + p) = 0 then 1 <<< p else s (21 + p) ||| orTo (fun q => if s (21 + p) >>> q &&& 1 = 1 then s (21 + q) else 0) (s 0))
  else dif (s (21 + p)) c ||| 1 <<< p
def hears (s : Nat → Nat) (f t : Nat) : Nat :=
  if s 5 = 0 then 0 else if s 5 = 1 then s (7 + t) else if s 5 = 2 then (if f = t then 0 else 1) else (if 3 < ones (s (21 + t)) then 3 else ones (s (21 + t)))
/-- the belief behind a round; g = 4: of all signals -/
def thn (s : Nat → Nat) (b c g : Nat) : Nat :=
  orTo (fun p => orTo (fun q => if (if dif b c >>> p &&& 1 = 1 then goes s p c else 0) >>> q &&& 1 = 1 ∧ (g = 4 ∨ hears s p q = g) then 1 <<< q else 0) (s 0)) (s 0)
def WF (b : Nat) (s : Nat → Nat) : Prop :=
  s 0 ≤ 7 ∧ s 1 < 2 ^ s 0 ∧ s 2 ≤ b ∧ s 4 ≤ 3 ∧ s 5 ≤ 3 ∧ (s 6 = 1 ∨ s 6 = 2) ∧ (∀ i, i < 7 → s (7 + i) ≤ 3) ∧ (∀ i, i < 7 → s (14 + i) < 2 ^ s 0) ∧ (∀ i, i < 7 → s (21 + i) < 2 ^ s 0) ∧
  (∀ i, s 0 ≤ i → i < 7 → s (14 + i) = 0 ∧ s (21 + i) = 0) ∧ (s 3 = if 0 < s 2 ∧ s 1 = 0 then 1 else 0) ∧
  (∀ i j, i < 7 → j < 7 → (s (14 + i)).testBit j = (s (14 + j)).testBit i) ∧ (∀ i j, i < 7 → (s (21 + i)).testBit j = true → (s (14 + i)).testBit j = true)
/-- a State's cells hold s -/
def RS (M : qM) (o : Nat) (s : Nat → Nat) : Prop :=
  M.1 o 0 = s 0 ∧ M.1 o 5 = s 1 ∧ M.1 o 6 = s 2 ∧ (∀ i, i < 7 → M.1 (o + 1) i = s (7 + i)) ∧ (∀ i, i < 7 → M.1 (o + 2) i = s (14 + i)) ∧ (∀ i, i < 7 → M.1 (o + 3) i = s (21 + i)) ∧ (∀ i, i < 3 → M.1 (o + 4) i = s (4 + i)) ∧
  (∀ k, k < 8 → k < s 2 → M.1 (o + 5) ((s 2 - 1 - k) % 8) = s (28 + 3 * k) ∧ M.1 (o + 6) ((s 2 - 1 - k) % 8) = s (29 + 3 * k) ∧ M.1 (o + 7) ((s 2 - 1 - k) % 8) = s (30 + 3 * k))
theorem p2_le {n : Nat} (h : n ≤ 7) : 2 ^ n ≤ 128 := Nat.le_trans (Nat.pow_le_pow_right (by decide) h) (by decide)
theorem shr_lt {a k : Nat} {n : Nat} (h : a < n) : a >>> k < n := Nat.lt_of_le_of_lt (by rw [Nat.shiftRight_eq_div_pow]; exact Nat.div_le_self _ _) h
theorem and1_lt (a : Nat) : a &&& 1 < 2 := Nat.lt_of_le_of_lt Nat.and_le_right (by decide)
theorem and1_01 (a : Nat) : a &&& 1 = 0 ∨ a &&& 1 = 1 := by have := and1_lt a; omega
theorem bit_iff (a k : Nat) : a >>> k &&& 1 = 1 ↔ a.testBit k = true := by
  rw [Nat.testBit_eq_decide_div_mod_eq, decide_eq_true_eq, Nat.and_one_is_mod, Nat.shiftRight_eq_div_pow]
theorem ones_le (x : Nat) : ones x ≤ 7 := by
  have h := fun k => and1_lt (x >>> k)
  have h0 := h 0; have h1 := h 1; have h2 := h 2; have h3 := h 3; have h4 := h 4; have h5 := h 5; have h6 := h 6
  simp only [ones, sumTo]
  omega
theorem sumTo_le {f : Nat → Nat} {m : Nat} (h : ∀ i, f i ≤ m) : ∀ n, sumTo f n ≤ m * n
  | 0 => Nat.le_refl _
  | n + 1 => by
    have := sumTo_le h n
    have := h n
    simp only [sumTo, Nat.mul_add, Nat.mul_one]
    omega
theorem dif_zero {a : Nat} (h : a < 2 ^ 32) : dif a 0 = a := by
  unfold dif
  rw [Nat.zero_xor, show (4294967295 : Nat) = 2 ^ 32 - 1 from rfl, Nat.and_two_pow_sub_one_eq_mod, Nat.mod_eq_of_lt h]
def up (s : Nat → Nat) (k v : Nat) : Nat → Nat := fun j => if j = k then v else s j
theorem up_eq {s : Nat → Nat} {k v : Nat} : up s k v k = v := if_pos rfl
theorem up_ne {s : Nat → Nat} {k v j : Nat} (h : j ≠ k) : up s k v j = s j := if_neg h
theorem qI_eq {M : qM} {a k x : Nat} : (qI M a k x).1 a k = x := by simp [qI]
theorem qI_ne {M : qM} {a k x b j : Nat} (h : b ≠ a ∨ j ≠ k) : (qI M a k x).1 b j = M.1 b j := by
  simp only [qI]
  rw [if_neg]
  rintro ⟨h1, h2⟩
  rcases h with h | h
  · exact h h1
  · exact h h2
/-- a read-only method that answers the number x -/
def RI (M : qM) (x : Nat) : Option Value → qM → Prop := fun v M' => M = M' ∧ v = some (.int (nI x))
/-- only the eight cells from o on may have changed -/
def Fr (M M' : qM) (o : Nat) : Prop := M'.2 = M.2 ∧ ∀ a, (a < o ∨ o + 8 ≤ a) → M'.1 a = M.1 a
theorem RS.mono {M M' : qM} {o : Nat} {s : Nat → Nat} (h : RS M o s) (he : ∀ a, o ≤ a → a < o + 8 → M'.1 a = M.1 a) : RS M' o s := by
  unfold RS at *
  rw [he o (by omega) (by omega), he (o + 1) (by omega) (by omega), he (o + 2) (by omega) (by omega), he (o + 3) (by omega) (by omega), he (o + 4) (by omega) (by omega), he (o + 5) (by omega) (by omega), he (o + 6) (by omega) (by omega), he (o + 7) (by omega) (by omega)]
  exact h
theorem or_num {v : Option Value} {A B : Prop} (h : (v = some (.int (nI 1)) ∧ A) ∨ (v = some (.int (nI 0)) ∧ B)) : ∃ z, v = some (.int (nI z)) ∧ z < 2 ∧ ((z = 1 ∧ A) ∨ (z = 0 ∧ B)) := by
  rcases h with ⟨e, h⟩ | ⟨e, h⟩
  · exact ⟨1, e, by decide, Or.inl ⟨rfl, h⟩⟩
  · exact ⟨0, e, by decide, Or.inr ⟨rfl, h⟩⟩
