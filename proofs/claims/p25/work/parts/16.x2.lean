/-! BlindHunts$RoundText: the text, n signs -/
def TX (M : qM) (n : Nat) (t : Nat → Nat) : Prop := M.1 18 1 = n ∧ ∀ i, i < n → M.1 19 i = t i
def WT (n : Nat) (t : Nat → Nat) : Prop := n ≤ 60 ∧ ∀ i, i < n → 32 ≤ t i ∧ t i ≤ 126
