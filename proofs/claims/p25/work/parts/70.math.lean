/-! p25: what its law's words mean over the states' numbers -/
section More
variable {l : Launch} {hd : qH} {κ : qG} {μ : qMI} {Q : Option Value → qM → Prop} {cs sl pc pc' : Nat} {loc : List (Option Value)} {st : List Value} {M : qM}
theorem T.irem {x y z : Int32} (d : decode μ.1 pc = .ok (.irem, 1)) (hp : pc + 1 = pc') (hne : ¬ y = 0) (hz : x - x / y * y = z) (k : T l hd κ μ Q cs sl pc' loc (.int z :: st) M) : T l hd κ μ Q cs sl pc loc (.int y :: .int x :: st) M := by
  subst hp; subst hz
  intro p e s m args below meth c H locs ls D tc B E hK hP hS hZ hL
  exact lv_irem E.1 E.2.1 d hne (k p e s m args below meth c H locs ls D tc B E hK hP hS hZ hL)
end More
theorem ones_half : ∀ k, k < 128 → ones k = k % 2 + ones (k / 2) := by decide +kernel
theorem ones_zero : ones 0 = 0 := by decide +kernel
theorem ones_pos : ∀ x, x < 128 → x ≠ 0 → 0 < ones x := by decide +kernel
theorem ones_put : ∀ a, a < 128 → ∀ j, j < 7 → a >>> j &&& 1 = 0 → ones (a ||| 1 <<< j) = ones a + 1 := by decide +kernel
theorem ones_flip0 : ∀ a, a < 128 → ∀ j, j < 7 → a >>> j &&& 1 = 0 → ones (a ^^^ 1 <<< j) = ones a + 1 := by decide +kernel
theorem ones_flip1 : ∀ a, a < 128 → ∀ j, j < 7 → a >>> j &&& 1 = 1 → ones (a ^^^ 1 <<< j) + 1 = ones a := by decide +kernel
theorem ones_some : ∀ a, a < 128 → ∀ j, j < 7 → 1 ≤ ones (a ||| 1 <<< j) := by decide +kernel
theorem ones_sub {a b : Nat} (h : ∀ i, a.testBit i = true → b.testBit i = true) : ones a ≤ ones b := by
  refine sumTo_mono 7 (fun i _ => ?_)
  rcases and1_01 (a >>> i) with e | e
  · rw [e]; exact Nat.zero_le _
  · rw [e, (bit_iff b i).mpr (h i ((bit_iff a i).mp e))]; exact Nat.le_refl _
theorem sumTo_congr {f g : Nat → Nat} : ∀ n, (∀ i, i < n → f i = g i) → sumTo f n = sumTo g n
  | 0, _ => rfl
  | n + 1, h => by simp only [sumTo]; rw [sumTo_congr n (fun i hi => h i (by omega)), h n (by omega)]
theorem sumTo_plus {f g : Nat → Nat} : ∀ n, sumTo (fun i => f i + g i) n = sumTo f n + sumTo g n
  | 0 => rfl
  | n + 1 => by simp only [sumTo]; rw [sumTo_plus n]; omega
def dlt (u i : Nat) : Nat := if i = u then 1 else 0
theorem dlt_out {u : Nat} : ∀ n, n ≤ u → sumTo (dlt u) n = 0
  | 0, _ => rfl
  | n + 1, h => by simp only [sumTo]; rw [dlt_out n (by omega), dlt, if_neg (by omega)]
theorem dlt_sum {u : Nat} : ∀ n, u < n → sumTo (dlt u) n = 1
  | 0, h => absurd h (Nat.not_lt_zero _)
  | n + 1, h => by
    simp only [sumTo]
    by_cases e : u = n
    · subst e; rw [dlt_out u (Nat.le_refl _), dlt, if_pos rfl]
    · rw [dlt_sum n (by omega), dlt, if_neg (by omega)]
theorem sumTo_two {f g : Nat → Nat} {u v n : Nat} (hu : u < n) (hv : v < n) (h : ∀ i, i < n → g i = f i + (dlt u i + dlt v i)) : sumTo g n = sumTo f n + 2 := by
  rw [sumTo_congr n h, sumTo_plus, sumTo_plus, dlt_sum n hu, dlt_sum n hv]
/-- roads that are not shut go both ways; no road from a place to itself -/
def IN (s : Nat → Nat) : Prop := (∀ i j, i < 7 → j < 7 → (s (21 + i)).testBit j = (s (21 + j)).testBit i) ∧ ∀ i, i < 7 → (s (14 + i)).testBit i = false
theorem IN.cy {s s' : Nat → Nat} (h : IN s) (hc : ∀ x, 14 ≤ x → x < 28 → s' x = s x) : IN s' :=
  ⟨fun i j hi hj => by rw [hc (21 + i) (by omega) (by omega), hc (21 + j) (by omega) (by omega)]; exact h.1 i j hi hj, fun i hi => by rw [hc (14 + i) (by omega) (by omega)]; exact h.2 i hi⟩
theorem IN.Cy {s s' : Nat → Nat} (h : IN s) (hc : Cy s s') : IN s' := h.cy (fun x h1 h2 => hc x (by omega) (by omega) (by omega) h2)
theorem IN_00 : IN s00 := ⟨fun i j _ _ => by rw [show s00 (21 + i) = 0 from if_neg (by omega), show s00 (21 + j) = 0 from if_neg (by omega), Nat.zero_testBit, Nat.zero_testBit], fun i _ => by rw [show s00 (14 + i) = 0 from if_neg (by omega), Nat.zero_testBit]⟩
theorem IN.place {s : Nat → Nat} (h : IN s) (h7 : s 0 < 7) {c : Nat} : IN (sPlace s c) := h.cy (fun x h1 h2 => by unfold sPlace; rw [if_neg (by omega), if_neg (by omega)])
theorem IN.set {s : Nat → Nat} (h : IN s) {u v : Nat} (hu : u ≤ 2) : IN (up s (4 + u) v) := h.cy (fun x h1 h2 => up_ne (by omega))
theorem pt_sym {i j a x : Nat} (hij : i ≠ j) : (pt i j a).testBit x = (pt i j x).testBit a := by
  rw [Bool.eq_iff_iff, pt_bit hij, pt_bit hij]
  constructor <;> (rintro (⟨h1, h2⟩ | ⟨h1, h2⟩) <;> omega)
theorem pt_self {i j a : Nat} (hij : i ≠ j) : (pt i j a).testBit a = false := by
  cases e : (pt i j a).testBit a with
  | false => rfl
  | true => have := (pt_bit hij).mp e; omega
theorem IN.road {s : Nat → Nat} (h : IN s) {i j : Nat} (hij : i ≠ j) : IN (sRoad s i j) := by
  refine ⟨fun a c ha hc => ?_, fun a ha => ?_⟩
  · rw [sRoad_21 ha, sRoad_21 hc, Nat.testBit_or, Nat.testBit_or, h.1 a c ha hc, pt_sym hij]
  · rw [sRoad_14 ha, Nat.testBit_or, h.2 a ha, pt_self hij]; rfl
theorem IN.shut {s : Nat → Nat} (h : IN s) {i j : Nat} (hij : i ≠ j) : IN (sShut s i j) := by
  refine ⟨fun a c ha hc => ?_, fun a ha => ?_⟩
  · rw [sShut_21 ha, sShut_21 hc, Nat.testBit_xor, Nat.testBit_xor, h.1 a c ha hc, pt_sym hij]
  · rw [sShut_out (by omega)]; exact h.2 a ha
/-! how many roads -/
section Roads
variable {b : Nat} {s : Nat → Nat}
theorem rd_lt {o i : Nat} (hw : WF b s) (hi : i < s 0) : s (14 + i) < 128 ∧ s (21 + i) < 128 := by
  have w0 := p2_le hw.1
  have w7 := hw.1
  have h1 := hw.2.2.2.2.2.2.2.1 i (by omega)
  have h2 := hw.2.2.2.2.2.2.2.2.1 i (by omega)
  omega
theorem rd_road14 (hw : WF b s) {u v : Nat} (hu : u < s 0) (hv : v < s 0) (huv : u ≠ v) (h0 : s (14 + u) >>> v &&& 1 = 0) : rdN (sRoad s u v) 14 = rdN s 14 + 1 := by
  have w7 := hw.1
  have hs := hw.2.2.2.2.2.2.2.2.2.2.2.1 u v (by omega) (by omega)
  have h1 : s (14 + v) >>> u &&& 1 = 0 := (sh_bit _ _).mpr (by rw [← hs]; exact (sh_bit _ _).mp h0)
  have e0 : sRoad s u v 0 = s 0 := sRoad_out (by omega)
  unfold rdN
  rw [e0, sumTo_two (f := fun i => ones (s (14 + i))) hu hv (fun i hi => ?_)]
  · omega
  · have hl := rd_lt (o := 0) hw hi
    show ones (sRoad s u v (14 + i)) = _
    rw [sRoad_14 (by omega)]
    unfold dlt
    by_cases e1 : i = u
    · subst e1
      rw [pt_i, ones_put _ hl.1 v (by omega) h0, if_pos rfl, if_neg huv]
    · by_cases e2 : i = v
      · subst e2
        rw [pt_j huv, ones_put _ hl.1 u (by omega) h1, if_neg e1, if_pos rfl]
      · rw [pt_0 e1 e2, Nat.or_zero, if_neg e1, if_neg e2]; rfl
theorem rd_road21 (hw : WF b s) {u v : Nat} (hu : u < s 0) (hv : v < s 0) (huv : u ≠ v) : 1 ≤ rdN (sRoad s u v) 21 := by
  have w7 := hw.1
  have e0 : sRoad s u v 0 = s 0 := sRoad_out (by omega)
  have h2 : sumTo (fun i => dlt u i + dlt v i) (s 0) = 2 := by rw [sumTo_plus, dlt_sum _ hu, dlt_sum _ hv]
  have h3 : sumTo (fun i => dlt u i + dlt v i) (s 0) ≤ sumTo (fun i => ones (sRoad s u v (21 + i))) (s 0) := by
    refine sumTo_mono _ (fun i hi => ?_)
    have hl := rd_lt (o := 0) hw hi
    show _ ≤ ones (sRoad s u v (21 + i))
    rw [sRoad_21 (by omega)]
    unfold dlt
    by_cases e1 : i = u
    · subst e1
      rw [pt_i, if_pos rfl, if_neg huv]
      exact ones_some _ hl.2 v (by omega)
    · by_cases e2 : i = v
      · subst e2
        rw [pt_j huv, if_neg e1, if_pos rfl]
        exact ones_some _ hl.2 u (by omega)
      · rw [if_neg e1, if_neg e2]; exact Nat.zero_le _
  unfold rdN
  rw [e0]
  omega
theorem rd_shut1 (hw : WF b s) (hi : IN s) {u v : Nat} (hu : u < s 0) (hv : v < s 0) (huv : u ≠ v) (h0 : s (21 + u) >>> v &&& 1 = 1) : rdN (sShut s u v) 21 + 1 = rdN s 21 := by
  have w7 := hw.1
  have hs := hi.1 u v (by omega) (by omega)
  have h1 : s (21 + v) >>> u &&& 1 = 1 := (bit_iff _ _).mpr (by rw [← hs]; exact (bit_iff _ _).mp h0)
  have e0 : sShut s u v 0 = s 0 := sShut_out (by omega)
  unfold rdN
  rw [e0, sumTo_two (f := fun i => ones (sShut s u v (21 + i))) (g := fun i => ones (s (21 + i))) hu hv (fun i hi => ?_)]
  · omega
  · have hl := rd_lt (o := 0) hw hi
    show ones (s (21 + i)) = ones (sShut s u v (21 + i)) + _
    rw [sShut_21 (by omega)]
    unfold dlt
    by_cases e1 : i = u
    · subst e1
      rw [pt_i, ← ones_flip1 _ hl.2 v (by omega) h0, if_pos rfl, if_neg huv]
    · by_cases e2 : i = v
      · subst e2
        rw [pt_j huv, ← ones_flip1 _ hl.2 u (by omega) h1, if_neg e1, if_pos rfl]
      · rw [pt_0 e1 e2, Nat.xor_zero, if_neg e1, if_neg e2]; rfl
theorem rd_shut0 (hw : WF b s) (hi : IN s) {u v : Nat} (hu : u < s 0) (hv : v < s 0) (huv : u ≠ v) (h0 : s (21 + u) >>> v &&& 1 = 0) : rdN (sShut s u v) 21 = rdN s 21 + 1 := by
  have w7 := hw.1
  have hs := hi.1 u v (by omega) (by omega)
  have h1 : s (21 + v) >>> u &&& 1 = 0 := (sh_bit _ _).mpr (by rw [← hs]; exact (sh_bit _ _).mp h0)
  have e0 : sShut s u v 0 = s 0 := sShut_out (by omega)
  unfold rdN
  rw [e0, sumTo_two (f := fun i => ones (s (21 + i))) hu hv (fun i hi => ?_)]
  · omega
  · have hl := rd_lt (o := 0) hw hi
    show ones (sShut s u v (21 + i)) = _
    rw [sShut_21 (by omega)]
    unfold dlt
    by_cases e1 : i = u
    · subst e1
      rw [pt_i, ones_flip0 _ hl.2 v (by omega) h0, if_pos rfl, if_neg huv]
    · by_cases e2 : i = v
      · subst e2
        rw [pt_j huv, ones_flip0 _ hl.2 u (by omega) h1, if_neg e1, if_pos rfl]
      · rw [pt_0 e1 e2, Nat.xor_zero, if_neg e1, if_neg e2]; rfl
theorem rd_le (hw : WF b s) : rdN s 21 ≤ rdN s 14 := by
  have w7 := hw.1
  refine Nat.div_le_div_right (sumTo_mono _ (fun i hi => ones_sub (fun j hj => ?_)))
  exact hw.2.2.2.2.2.2.2.2.2.2.2.2 i j (by omega) hj
end Roads
/-! beliefs -/
section Bel
variable {b : Nat} {s : Nat → Nat}
theorem goes_ne {p c : Nat} : goes s p c ≠ 0 := by
  have h1 : (1 : Nat) <<< p ≠ 0 := fun e => by
    have : (1 <<< p).testBit p = true := one_bit.mpr rfl
    rw [e, Nat.zero_testBit] at this
    exact absurd this (by decide)
  have h2 : ∀ a : Nat, a ||| 1 <<< p ≠ 0 := fun a e => by
    have : (a ||| 1 <<< p).testBit p = true := by rw [Nat.testBit_or, one_bit.mpr rfl, Bool.or_true]
    rw [e, Nat.zero_testBit] at this
    exact absurd this (by decide)
  have h3 : ∀ a d : Nat, a ≠ 0 → a ||| d ≠ 0 := fun a d h e => by
    refine h (Nat.eq_of_testBit_eq fun i => ?_)
    have : (a ||| d).testBit i = false := by rw [e, Nat.zero_testBit]
    rw [Nat.testBit_or, Bool.or_eq_false_iff] at this
    rw [this.1, Nat.zero_testBit]
  unfold goes
  split
  · split
    · exact h1
    · next h => exact h
  · split
    · exact h2 _
    · split
      · split
        · exact h1
        · next h => exact h3 _ _ h
      · exact h2 _
theorem goes_open (hw : WF b s) {p i : Nat} (hp : p < 7) (h : (s (21 + p)).testBit i = true) : (goes s p 0).testBit i = true := by
  have h7 := hw.1
  have hi : i < s 0 := lt_bit (hw.2.2.2.2.2.2.2.2.1 p hp) h
  have hne : s (21 + p) ≠ 0 := fun e => by rw [e, Nat.zero_testBit] at h; exact absurd h (by decide)
  unfold goes
  rw [if_neg hne, if_neg hne]
  split
  · exact h
  · split
    · rw [Nat.testBit_or, h, Bool.true_or]
    · split
      · rw [Nat.testBit_or, h, Bool.true_or]
      · rw [Nat.testBit_or, (dif_bit (by omega)).mpr ⟨h, Nat.zero_testBit _⟩, Bool.true_or]
theorem goes_and (hw : WF b s) {p : Nat} (hp : p < 7) : goes s p 0 &&& s (21 + p) = s (21 + p) := by
  refine bit_ext fun i => ?_
  rw [Nat.testBit_and, Bool.and_eq_true]
  exact ⟨fun h => h.2, fun h => ⟨goes_open hw hp h, h⟩⟩
theorem thn_one (hw : WF b s) {p c : Nat} (hp : p < s 0) (hc : c.testBit p = false) : thn s (1 <<< p) c 4 = goes s p c := by
  refine bit_ext fun i => ?_
  rw [thn_bit hw.1]
  constructor
  · rintro ⟨h1, q, h2, h3, h4, h5, h6⟩
    rw [one_bit.mp h3] at h5
    exact h5
  · intro h
    exact ⟨lt_bit (goes_lt hw hp) h, p, hp, one_bit.mpr rfl, hc, h, Or.inl rfl⟩
theorem dif_self {a : Nat} (h : a < 128) : dif a a = 0 := by
  have key : ∀ x, x < 128 → dif x x = 0 := by decide +kernel
  exact key a h
theorem thn_self (hw : WF b s) {p : Nat} (hp : p < s 0) : thn s (1 <<< p) (1 <<< p) 4 = 0 := by
  have h7 := hw.1
  refine thn_none h7 (dif_self ?_)
  rw [Nat.one_shiftLeft]
  exact Nat.lt_of_lt_of_le (Nat.pow_lt_pow_right (by decide) (show p < 7 by omega)) (by decide)
theorem dif_all {a : Nat} (h : a < 2 ^ s 0) (h7 : s 0 ≤ 7) : dif a (2 ^ s 0 - 1) = 0 := by
  refine Nat.eq_of_testBit_eq fun i => ?_
  rw [Nat.zero_testBit]
  cases e : (dif a (2 ^ s 0 - 1)).testBit i with
  | false => rfl
  | true =>
    have hi : i < s 0 := lt_bit (dif_lt h) e
    have := ((dif_bit (by omega)).mp e).2
    rw [Nat.testBit_two_pow_sub_one, decide_eq_false_iff_not] at this
    exact absurd hi this
theorem dif_sub {a c : Nat} (h7 : a < 128) (h : ∀ i, a.testBit i = true → c.testBit i = true) : dif a c = 0 := by
  refine Nat.eq_of_testBit_eq fun i => ?_
  rw [Nat.zero_testBit]
  cases e : (dif a c).testBit i with
  | false => rfl
  | true =>
    have hi : i < 7 := lt_bit (n := 7) (dif_lt h7) e
    have h2 := (dif_bit (by omega)).mp e
    rw [h i h2.1] at h2
    exact absurd h2.2 (by decide)
/-- the signals together -/
theorem thn_parts (hw : WF b s) {x c : Nat} : orTo (fun g => thn s x c g) 4 = thn s x c 4 := by
  have h7 := hw.1
  refine bit_ext fun i => ?_
  rw [orTo_bit]
  constructor
  · rintro ⟨g, hg, h⟩
    obtain ⟨h1, p, h2, h3, h4, h5, -⟩ := (thn_bit h7).mp h
    exact (thn_bit h7).mpr ⟨h1, p, h2, h3, h4, h5, Or.inl rfl⟩
  · intro h
    obtain ⟨h1, p, h2, h3, h4, h5, -⟩ := (thn_bit h7).mp h
    exact ⟨hears s p i, hears_lt hw (by omega), (thn_bit h7).mpr ⟨h1, p, h2, h3, h4, h5, Or.inr rfl⟩⟩
theorem thn_le4 (h7 : s 0 ≤ 7) {x c g i : Nat} (h : (thn s x c g).testBit i = true) : (thn s x c 4).testBit i = true := by
  obtain ⟨h1, p, h2, h3, h4, h5, -⟩ := (thn_bit h7).mp h
  exact (thn_bit h7).mpr ⟨h1, p, h2, h3, h4, h5, Or.inl rfl⟩
/-- hearing never makes more rounds necessary -/
theorem sol_deaf (h7 : s 0 ≤ 7) : ∀ k x, k < 1000 → x < 2 ^ s 0 → (solN s 0 3 k).1 x ≤ (solN s 4 4 k).1 x
  | 0, x, _, _ => by simp only [solN]; exact Nat.le_refl _
  | k + 1, x, hk, hx => by
    have ih := sol_deaf h7 k x (by omega) hx
    have v1 := sol_val (s := s) (g0 := 0) (g1 := 3) k x
    simp only [solN]
    by_cases n1 : newly s (solN s 4 4 k).1 4 4 (k + 1) x = true
    · rw [if_pos n1]
      obtain ⟨p1, p2, p3, p4⟩ := newly_pos n1
      by_cases e1 : (solN s 0 3 k).1 x = 1000
      · obtain ⟨c, hc⟩ := Option.isSome_iff_exists.mp p4
        have hc1 := List.mem_of_find?_eq_some hc
        have hc2 := List.find?_some hc
        have hgood : goodC s (solN s 0 3 k).1 0 3 (k + 1) x c = true := by
          simp only [goodC, Bool.and_eq_true] at hc2 ⊢
          refine ⟨hc2.1, (enough_iff (by decide)).mpr fun g g2 g3 => ?_⟩
          have h4 := (enough_iff (by decide)).mp hc2.2 4 (by decide) (by decide)
          have h5 := sol_deaf h7 k (thn s x c 4) (by omega) (thn_lt h7)
          have h6 := sol_sub (g0 := 0) (g1 := 3) h7 (by decide) k (thn s x c 4) (thn s x c g) (by omega) (thn_lt h7) (fun i hi => thn_le4 h7 hi)
          omega
        have hsome : (fstC s (solN s 0 3 k).1 0 3 (k + 1) x).isSome = true := by
          unfold fstC
          rw [List.find?_isSome]
          exact ⟨c, hc1, hgood⟩
        have n2 : newly s (solN s 0 3 k).1 0 3 (k + 1) x = true := by
          simp only [newly, Bool.and_eq_true, decide_eq_true_eq]
          exact ⟨⟨⟨p1, p2⟩, e1⟩, hsome⟩
        rw [if_pos n2]; exact Nat.le_refl _
      · split
        · exact Nat.le_refl _
        · omega
    · rw [if_neg n1]
      split
      · next n2 =>
        have := (newly_pos n2).2.2.1
        omega
      · exact ih
/-- behind the best check each signal's belief needs less -/
theorem sol_best (h7 : s 0 ≤ 7) : ∀ k x, k < 1000 → 0 < x → (solN s 0 3 k).1 x ≠ 1000 → x < 2 ^ s 0 ∧ (solN s 0 3 k).2 x < 2 ^ s 0 ∧ ones ((solN s 0 3 k).2 x) ≤ s 6 ∧ ∀ g, g ≤ 3 → (solN s 0 3 k).1 (thn s x ((solN s 0 3 k).2 x) g) < (solN s 0 3 k).1 x
  | 0, x, _, hx, h => by simp only [solN] at h; rw [if_neg (by omega)] at h; exact absurd rfl h
  | k + 1, x, hk, hx, h => by
    have stay : ∀ y, (solN s 0 3 k).1 y ≠ 1000 → (if newly s (solN s 0 3 k).1 0 3 (k + 1) y = true then k + 1 else (solN s 0 3 k).1 y) = (solN s 0 3 k).1 y := fun y hy => if_neg (fun q => hy (newly_pos q).2.2.1)
    simp only [solN] at h ⊢
    by_cases n1 : newly s (solN s 0 3 k).1 0 3 (k + 1) x = true
    · rw [if_pos n1, if_pos n1]
      obtain ⟨p1, p2, p3, p4⟩ := newly_pos n1
      obtain ⟨c, hc⟩ := Option.isSome_iff_exists.mp p4
      have hc1 := List.mem_of_find?_eq_some hc
      have hc2 := List.find?_some hc
      rw [hc]
      simp only [goodC, Bool.and_eq_true, decide_eq_true_eq] at hc2
      refine ⟨p2, List.mem_range.mp hc1, hc2.1, fun g hg => ?_⟩
      have h4 := (enough_iff (by decide)).mp hc2.2 g (Nat.zero_le _) hg
      show (if newly s (solN s 0 3 k).1 0 3 (k + 1) (thn s x c g) = true then k + 1 else (solN s 0 3 k).1 (thn s x c g)) < _
      rw [stay _ (by omega)]
      exact h4
    · rw [if_neg n1] at h
      rw [if_neg n1, if_neg n1]
      obtain ⟨q1, q2, q3, q4⟩ := sol_best h7 k x (by omega) hx h
      have v1 := sol_val (s := s) (g0 := 0) (g1 := 3) k x
      refine ⟨q1, q2, q3, fun g hg => ?_⟩
      have h4 := q4 g hg
      rw [stay _ (by omega)]
      exact h4
theorem nset_deaf (h7 : s 0 ≤ 7) {n : Nat} (hn : n < 2 ^ s 0) : nset (solN s 4 4 127).1 n ≤ nset (solN s 0 3 127).1 n := by
  refine sumTo_mono n (fun i hi => ?_)
  have h := sol_deaf h7 127 (i + 1) (by decide) (by omega)
  have v1 := sol_val (s := s) (g0 := 0) (g1 := 3) 127 (i + 1)
  by_cases e : (solN s 4 4 127).1 (i + 1) = 1000
  · rw [if_pos e]; exact Nat.zero_le _
  · have v2 := sol_val (s := s) (g0 := 4) (g1 := 4) 127 (i + 1)
    rw [if_neg e, if_neg (by omega)]; exact Nat.le_refl _
/-- this belief is one of those that come -/
theorem mark_keep {x c : Nat} {sn : Nat → Bool} {y : Nat} (h : sn y = true) : ∀ g, markN s x c sn g y = true
  | 0 => h
  | g + 1 => by
    show (markN s x c sn g y || decide (y = thn s x c g)) = true
    rw [mark_keep h g, Bool.true_or]
theorem cmB_keep {nd bs : Nat → Nat} {L : Nat} {st : (Nat → Bool) × Nat} {y : Nat} (h : st.1 y = true) : ∀ k, (cmB s nd bs L k st).1 y = true
  | 0 => h
  | k + 1 => by
    have ih := cmB_keep (nd := nd) (bs := bs) (L := L) h k
    rw [cmB]
    split
    · exact mark_keep ih 4
    · exact ih
theorem cmB_grow {nd bs : Nat → Nat} {L : Nat} {st : (Nat → Bool) × Nat} : ∀ k, st.2 ≤ (cmB s nd bs L k st).2
  | 0 => Nat.le_refl _
  | k + 1 => by
    have ih := cmB_grow (nd := nd) (bs := bs) (L := L) (st := st) k
    rw [cmB]
    split
    · exact Nat.le_succ_of_le ih
    · exact ih
theorem cmB_one {nd bs : Nat → Nat} {L : Nat} {st : (Nat → Bool) × Nat} {y : Nat} (h : st.1 y = true) (hy : 0 < y) (hL : nd y = L) : ∀ k, y ≤ k → 1 ≤ (cmB s nd bs L k st).2
  | 0, hk => by omega
  | k + 1, hk => by
    by_cases e : y = k + 1
    · subst e
      rw [cmB, if_pos ⟨cmB_keep h k, hL⟩]
      exact Nat.le_add_left _ _
    · have ih := cmB_one (nd := nd) (bs := bs) (L := L) h hy hL k (by omega)
      rw [cmB]
      split
      · exact Nat.le_succ_of_le ih
      · exact ih
theorem cmL_grow {nd bs : Nat → Nat} : ∀ L (st : (Nat → Bool) × Nat), st.2 ≤ (cmL s nd bs L st).2
  | 0, st => Nat.le_refl _
  | L + 1, st => by
    rw [cmL]
    exact Nat.le_trans (cmB_grow _) (cmL_grow L _)
theorem coming_pos {nd bs : Nat → Nat} {y : Nat} (hy : 0 < y) (hlt : y < 2 ^ s 0) (h : 0 < nd y) : 1 ≤ comingN s nd bs y := by
  unfold comingN
  obtain ⟨L, hL⟩ : ∃ L, nd y = L + 1 := ⟨nd y - 1, by omega⟩
  rw [hL, cmL]
  exact Nat.le_trans (cmB_one (y := y) (by simp) hy hL _ (by omega)) (cmL_grow L _)
end Bel
