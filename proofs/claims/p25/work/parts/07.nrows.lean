/-! ints that are numbers: what the machine's operations make of them -/
theorem nN_and (a b : Nat) : nI a &&& nI b = nI (a &&& b) := by
  apply Int32.toBitVec_inj.1
  show BitVec.ofNat 32 a &&& BitVec.ofNat 32 b = BitVec.ofNat 32 (a &&& b)
  apply BitVec.eq_of_getLsbD_eq
  intro i hi
  simp [hi]
theorem nN_or (a b : Nat) : nI a ||| nI b = nI (a ||| b) := by
  apply Int32.toBitVec_inj.1
  show BitVec.ofNat 32 a ||| BitVec.ofNat 32 b = BitVec.ofNat 32 (a ||| b)
  apply BitVec.eq_of_getLsbD_eq
  intro i hi
  simp [hi]
theorem nN_xor (a b : Nat) : nI a ^^^ nI b = nI (a ^^^ b) := by
  apply Int32.toBitVec_inj.1
  show BitVec.ofNat 32 a ^^^ BitVec.ofNat 32 b = BitVec.ofNat 32 (a ^^^ b)
  apply BitVec.eq_of_getLsbD_eq
  intro i hi
  simp [hi]
theorem nN_sm : ∀ k : Fin 32, ((nI k.val &&& 31).toBitVec.smod 32).toNat = k.val := by decide +kernel
theorem nN_shl {k : Nat} (a : Nat) (hk : k < 32) : nI a <<< (nI k &&& 31) = nI (a <<< k) := by
  apply Int32.toBitVec_inj.1
  rw [Int32.toBitVec_shiftLeft]
  show BitVec.ofNat 32 a <<< ((nI k &&& 31).toBitVec.smod 32) = BitVec.ofNat 32 (a <<< k)
  rw [BitVec.shiftLeft_eq', nN_sm ⟨k, hk⟩]
  apply BitVec.eq_of_toNat_eq
  simp [BitVec.toNat_shiftLeft, Nat.shiftLeft_eq]
theorem nN_shr {a k : Nat} (ha : a < 2 ^ 31) (hk : k < 32) : nI a >>> (nI k &&& 31) = nI (a >>> k) := by
  have h : a >>> k ≤ a := by rw [Nat.shiftRight_eq_div_pow]; exact Nat.div_le_self _ _
  apply Int32.toInt_inj.1
  rw [nI_toInt (by omega), pk_shr _ _ k (nN_sm ⟨k, hk⟩), nI_toInt ha]
  rfl
theorem nN_sub {a b : Nat} (h : b ≤ a) : nI a - nI b = nI (a - b) := pk_sub h
theorem nN_m1 {a : Nat} (h : 1 ≤ a) : nI a + Int32.ofInt (-1) = nI (a - 1) := by
  obtain ⟨b, rfl⟩ : ∃ b, a = b + 1 := ⟨a - 1, by omega⟩
  show nI (b + 1) + (-1) = nI b
  exact pk_m1 b
theorem nN_p (a n : Nat) : nI a + Int32.ofInt (n : Int) = nI (a + n) := nI_add a n
/-- a number of 32 bits, as the machine compares it -/
theorem nN_lt {a b : Nat} (ha : a < 2 ^ 31) (hb : b < 2 ^ 31) : nI a < nI b ↔ a < b := nI_ltI ha hb
theorem nN_le {a b : Nat} (ha : a < 2 ^ 31) (hb : b < 2 ^ 31) : nI a ≤ nI b ↔ a ≤ b := nI_leI ha hb
theorem nN_eq {a b : Nat} (ha : a < 2 ^ 32) (hb : b < 2 ^ 32) : nI a = nI b ↔ a = b := by
  constructor
  · intro h
    have h1 := congrArg (fun x : Int32 => x.toBitVec.toNat) h
    simpa [pk_tn ha, pk_tn hb] using h1
  · intro h; rw [h]
theorem nN_neg {a : Nat} (h1 : 2 ^ 31 ≤ a) (h2 : a < 2 ^ 32) : (nI a).toInt = (a : Int) - 2 ^ 32 := by
  have : (nI a).toInt = (BitVec.ofNat 32 a).toInt := rfl
  rw [this, BitVec.toInt_eq_toNat_cond]
  simp only [BitVec.toNat_ofNat]
  rw [Nat.mod_eq_of_lt (by omega), if_neg (by omega)]
  rfl
theorem nN_of (x : Int32) : ∃ a, a < 2 ^ 32 ∧ x = nI a := ⟨x.toBitVec.toNat, x.toBitVec.isLt, by
  apply Int32.toBitVec_inj.1
  show x.toBitVec = BitVec.ofNat 32 x.toBitVec.toNat
  simp⟩
/-- the number that is in the range, or the machine sees it outside -/
theorem nN_in {a : Nat} (ha : a < 2 ^ 32) : a < 2 ^ 31 ∨ nI a < nI 0 := by
  by_cases h : a < 2 ^ 31
  · exact Or.inl h
  · refine Or.inr ?_
    rw [Int32.lt_iff_toInt_lt, nN_neg (by omega) ha, nI_toInt (by decide)]
    omega
section NRows
variable {l : Launch} {hd : qH} {κ : qG} {μ : qMI} {Q : Option Value → qM → Prop} {cs sl pc pc' tgt : Nat} {loc : List (Option Value)} {st : List Value} {M : qM} {a b : Nat} {off : Int}
theorem T.icmp_eqN (d : decode μ.1 pc = .ok (.if_icmp .eq off, 3)) (hp : pc + 3 = pc') (ht : (pc : Int) + off = (tgt : Int)) (ha : a < 2 ^ 32) (hb : b < 2 ^ 32) (kt : a = b → T l hd κ μ Q cs sl tgt loc st M) (kf : a ≠ b → T l hd κ μ Q cs sl pc' loc st M) : T l hd κ μ Q cs sl pc loc (.int (nI b) :: .int (nI a) :: st) M :=
  T.icmp_eq d hp ht (fun h => kt ((nN_eq ha hb).mp h)) (fun h => kf (fun h2 => h ((nN_eq ha hb).mpr h2)))
theorem T.icmp_neN (d : decode μ.1 pc = .ok (.if_icmp .ne off, 3)) (hp : pc + 3 = pc') (ht : (pc : Int) + off = (tgt : Int)) (ha : a < 2 ^ 32) (hb : b < 2 ^ 32) (kt : a ≠ b → T l hd κ μ Q cs sl tgt loc st M) (kf : a = b → T l hd κ μ Q cs sl pc' loc st M) : T l hd κ μ Q cs sl pc loc (.int (nI b) :: .int (nI a) :: st) M :=
  T.icmp_ne d hp ht (fun h => kt (fun h2 => h ((nN_eq ha hb).mpr h2))) (fun h => kf ((nN_eq ha hb).mp h))
theorem T.icmp_ltN (d : decode μ.1 pc = .ok (.if_icmp .lt off, 3)) (hp : pc + 3 = pc') (ht : (pc : Int) + off = (tgt : Int)) (ha : a < 2 ^ 31) (hb : b < 2 ^ 31) (kt : a < b → T l hd κ μ Q cs sl tgt loc st M) (kf : b ≤ a → T l hd κ μ Q cs sl pc' loc st M) : T l hd κ μ Q cs sl pc loc (.int (nI b) :: .int (nI a) :: st) M :=
  T.icmp_lt d hp ht (fun h => kt ((nN_lt ha hb).mp h)) (fun h => kf (Nat.not_lt.mp (fun h2 => h ((nN_lt ha hb).mpr h2))))
theorem T.icmp_geN (d : decode μ.1 pc = .ok (.if_icmp .ge off, 3)) (hp : pc + 3 = pc') (ht : (pc : Int) + off = (tgt : Int)) (ha : a < 2 ^ 31) (hb : b < 2 ^ 31) (kt : b ≤ a → T l hd κ μ Q cs sl tgt loc st M) (kf : a < b → T l hd κ μ Q cs sl pc' loc st M) : T l hd κ μ Q cs sl pc loc (.int (nI b) :: .int (nI a) :: st) M :=
  T.icmp_ge d hp ht (fun h => kt ((nN_le hb ha).mp h)) (fun h => kf (Nat.not_le.mp (fun h2 => h ((nN_le hb ha).mpr h2))))
theorem T.icmp_gtN (d : decode μ.1 pc = .ok (.if_icmp .gt off, 3)) (hp : pc + 3 = pc') (ht : (pc : Int) + off = (tgt : Int)) (ha : a < 2 ^ 31) (hb : b < 2 ^ 31) (kt : b < a → T l hd κ μ Q cs sl tgt loc st M) (kf : a ≤ b → T l hd κ μ Q cs sl pc' loc st M) : T l hd κ μ Q cs sl pc loc (.int (nI b) :: .int (nI a) :: st) M :=
  T.icmp_gt d hp ht (fun h => kt ((nN_lt hb ha).mp h)) (fun h => kf (Nat.not_lt.mp (fun h2 => h ((nN_lt hb ha).mpr h2))))
theorem T.icmp_leN (d : decode μ.1 pc = .ok (.if_icmp .le off, 3)) (hp : pc + 3 = pc') (ht : (pc : Int) + off = (tgt : Int)) (ha : a < 2 ^ 31) (hb : b < 2 ^ 31) (kt : a ≤ b → T l hd κ μ Q cs sl tgt loc st M) (kf : b < a → T l hd κ μ Q cs sl pc' loc st M) : T l hd κ μ Q cs sl pc loc (.int (nI b) :: .int (nI a) :: st) M :=
  T.icmp_le d hp ht (fun h => kt ((nN_le ha hb).mp h)) (fun h => kf (Nat.not_le.mp (fun h2 => h ((nN_le ha hb).mpr h2))))
theorem T.if_eqN (d : decode μ.1 pc = .ok (.ifCond .eq off, 3)) (hp : pc + 3 = pc') (ht : (pc : Int) + off = (tgt : Int)) (ha : a < 2 ^ 32) (kt : a = 0 → T l hd κ μ Q cs sl tgt loc st M) (kf : a ≠ 0 → T l hd κ μ Q cs sl pc' loc st M) : T l hd κ μ Q cs sl pc loc (.int (nI a) :: st) M :=
  T.if_eq d hp ht (fun h => kt ((nN_eq ha (by decide)).mp (h.trans nI_0.symm))) (fun h => kf (fun h2 => h (by rw [h2]; exact nI_0)))
theorem T.if_neN (d : decode μ.1 pc = .ok (.ifCond .ne off, 3)) (hp : pc + 3 = pc') (ht : (pc : Int) + off = (tgt : Int)) (ha : a < 2 ^ 32) (kt : a ≠ 0 → T l hd κ μ Q cs sl tgt loc st M) (kf : a = 0 → T l hd κ μ Q cs sl pc' loc st M) : T l hd κ μ Q cs sl pc loc (.int (nI a) :: st) M :=
  T.if_ne d hp ht (fun h => kt (fun h2 => h (by rw [h2]; exact nI_0))) (fun h => kf ((nN_eq ha (by decide)).mp (h.trans nI_0.symm)))
theorem T.if_geN (d : decode μ.1 pc = .ok (.ifCond .ge off, 3)) (hp : pc + 3 = pc') (ht : (pc : Int) + off = (tgt : Int)) (ha : a < 2 ^ 31) (kt : T l hd κ μ Q cs sl tgt loc st M) : T l hd κ μ Q cs sl pc loc (.int (nI a) :: st) M :=
  T.if_ge d hp ht (fun _ => kt) (fun h => absurd (nI_pos' ha) h)
theorem T.if_ltN (d : decode μ.1 pc = .ok (.ifCond .lt off, 3)) (hp : pc + 3 = pc') (ht : (pc : Int) + off = (tgt : Int)) (ha : a < 2 ^ 31) (kf : T l hd κ μ Q cs sl pc' loc st M) : T l hd κ μ Q cs sl pc loc (.int (nI a) :: st) M :=
  T.if_lt d hp ht (fun h => absurd h (nI_pos ha)) (fun _ => kf)
theorem T.if_leN (d : decode μ.1 pc = .ok (.ifCond .le off, 3)) (hp : pc + 3 = pc') (ht : (pc : Int) + off = (tgt : Int)) (ha : a < 2 ^ 31) (kt : a = 0 → T l hd κ μ Q cs sl tgt loc st M) (kf : 0 < a → T l hd κ μ Q cs sl pc' loc st M) : T l hd κ μ Q cs sl pc loc (.int (nI a) :: st) M :=
  T.if_le d hp ht (fun h => kt (Classical.byContradiction fun h2 => nI_nle (by omega) ha h)) (fun h => kf (Nat.pos_of_ne_zero (fun h2 => h (by rw [h2]; exact Int32.le_refl _))))
theorem T.if_gtN (d : decode μ.1 pc = .ok (.ifCond .gt off, 3)) (hp : pc + 3 = pc') (ht : (pc : Int) + off = (tgt : Int)) (ha : a < 2 ^ 31) (kt : 0 < a → T l hd κ μ Q cs sl tgt loc st M) (kf : a = 0 → T l hd κ μ Q cs sl pc' loc st M) : T l hd κ μ Q cs sl pc loc (.int (nI a) :: st) M :=
  T.if_gt d hp ht (fun h => kt (Nat.pos_of_ne_zero (fun h2 => by rw [h2] at h; exact absurd h (by decide)))) (fun h => kf (Classical.byContradiction fun h2 => h (by
    have := (nN_lt (a := 0) (by decide) ha).mpr (by omega)
    rwa [nI_0] at this)))
end NRows
