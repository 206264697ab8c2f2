/-! BlindHunts$Hunt -/
def nc (v : Nat) : Nat := if v = 1000 then 4294967295 else v
def RHs (M : qM) (h : Nat) (st : (Nat → Nat) × (Nat → Nat)) : Prop := ∀ x, x < 128 → M.1 (h + 1) x = nc (st.1 x) ∧ M.1 (h + 2) x = st.2 x
def HO (h g0 g1 : Nat) : Prop := (h = 29 ∧ g0 = 0 ∧ g1 = 3) ∨ (h = 32 ∧ g0 = 4 ∧ g1 = 4)
theorem HO.o {h g0 g1 : Nat} (q : HO h g0 g1) : hdX h = .inl 0 := by rcases q with ⟨rfl, -⟩ | ⟨rfl, -⟩ <;> rfl
theorem HO.a1 {h g0 g1 : Nat} (q : HO h g0 g1) : hdX (h + 1) = .inr (0, 128) := by rcases q with ⟨rfl, -⟩ | ⟨rfl, -⟩ <;> rfl
theorem HO.a2 {h g0 g1 : Nat} (q : HO h g0 g1) : hdX (h + 2) = .inr (0, 128) := by rcases q with ⟨rfl, -⟩ | ⟨rfl, -⟩ <;> rfl
theorem HO.lt {h g0 g1 : Nat} (q : HO h g0 g1) : h + 2 < 71 := by rcases q with ⟨rfl, -⟩ | ⟨rfl, -⟩ <;> decide
theorem HO.ge {h g0 g1 : Nat} (q : HO h g0 g1) : 29 ≤ h := by rcases q with ⟨rfl, -⟩ | ⟨rfl, -⟩ <;> decide
theorem HO.p0 {h g0 g1 : Nat} (q : HO h g0 g1) {pa : Nat → Nat} {sw : Bool} : pX pa sw h 0 = some (h + 1) := by rcases q with ⟨rfl, -⟩ | ⟨rfl, -⟩ <;> rfl
theorem HO.p1 {h g0 g1 : Nat} (q : HO h g0 g1) {pa : Nat → Nat} {sw : Bool} : pX pa sw h 1 = some (h + 2) := by rcases q with ⟨rfl, -⟩ | ⟨rfl, -⟩ <;> rfl
theorem HO.le {h g0 g1 : Nat} (q : HO h g0 g1) : g0 ≤ g1 ∧ g1 ≤ 4 := by rcases q with ⟨rfl, rfl, rfl⟩ | ⟨rfl, rfl, rfl⟩ <;> decide
theorem nc_lt {v : Nat} (h : v = 1000 ∨ v ≤ 127) : nc v < 4294967296 := by unfold nc; split <;> omega
theorem nc_m1 {v : Nat} (h : v = 1000 ∨ v ≤ 127) : nc v = 4294967295 ↔ v = 1000 := by unfold nc; split <;> omega
theorem nc_id {v : Nat} (h : v ≠ 1000) : nc v = v := if_neg h
theorem fstC_ck {s nd : Nat → Nat} {g0 g1 lv x : Nat} : fstC s nd g0 g1 lv x = (ckN s (2 ^ s 0)).find? (enough s nd g0 g1 lv x) := by
  unfold fstC ckN
  rw [List.find?_filter]
  congr 1
  funext c
  unfold goodC
  rw [Bool.eq_iff_iff]
  simp
theorem enough_congr {s nd nd' : Nat → Nat} {g0 g1 lv x : Nat} (hg : g1 ≤ 4) (h : ∀ y, nd y < lv ↔ nd' y < lv) : enough s nd g0 g1 lv x = enough s nd' g0 g1 lv x := by
  funext c
  rw [Bool.eq_iff_iff, enough_iff hg, enough_iff hg]
  exact ⟨fun q g a b => (h _).mp (q g a b), fun q g a b => (h _).mpr (q g a b)⟩
/-- a part that is not settled keeps a belief from being settled -/
theorem part_no {s : Nat → Nat} {g0 g1 k j p : Nat} (h7 : s 0 ≤ 7) (hg : g1 ≤ 4) (hk : k < 900) (hj : j < 2 ^ s 0) (hp : p < 7) (hy : (solN s g0 g1 (k + 1)).1 (dif j (1 <<< p)) = 1000) : newly s (solN s g0 g1 k).1 g0 g1 (k + 1) j = false := by
  cases hn : newly s (solN s g0 g1 k).1 g0 g1 (k + 1) j with
  | false => rfl
  | true =>
    have h1 : (solN s g0 g1 (k + 1)).1 j = k + 1 := by simp only [solN]; rw [if_pos hn]
    have h2 := sol_sub (g0 := g0) h7 hg (k + 1) j (dif j (1 <<< p)) (by omega) hj (fun i hi => by
      have h3 : i < 7 := Nat.lt_of_lt_of_le (lt_bit (dif_lt hj) hi) h7
      exact ((dif_bit (by omega)).mp hi).1)
    omega
theorem dif_less {j p : Nat} (hp : p < 32) (hb : j.testBit p = true) : dif j (1 <<< p) < j := by
  refine Nat.lt_of_le_of_ne Nat.and_le_left (fun e => ?_)
  have h1 : (dif j (1 <<< p)).testBit p = true := by rw [e]; exact hb
  have h2 := ((dif_bit hp).mp h1).2
  rw [one_bit.mpr rfl] at h2
  cases h2
section CX0
variable {l : Launch} {M : qM} {h g0 g1 b : Nat} {s : Nat → Nat} {pa : Nat → Nat} {sw : Bool}
theorem c_leadsLower (hh : HO h g0 g1) (hP : M.2.2 = pX pa sw) (hw : WF b s) (hT : RT M s) (h2 : M.1 h 2 = g0) (h3 : M.1 h 3 = g1) {nd : Nat → Nat} (hn : ∀ y, y < 128 → M.1 (h + 1) y = nc (nd y)) (hv : ∀ y, nd y = 1000 ∨ nd y ≤ 127) {x c lv : Nat} (hx : x < 2 ^ s 0) (hl : lv ≤ 127) :
    Ct l hdX kX mX0_leadsLower [.ref h, .ref 20, .int (nI x), .int (nI c), .int (nI lv)] M (RI M (if enough s nd g0 g1 lv x c = true then 1 else 0)) := by
  refine Ct.of [some (.ref h), some (.ref 20), some (.int (nI x)), some (.int (nI c)), some (.int (nI lv)), none, none] (by decide +kernel) (fun h => absurd h (by decide)) (Nat.le_of_ble_eq_true rfl) rfl ?_
  have hle := hh.le
  have w0 := p2_le hw.1
  have loop : ∀ d r, r + d = g1 + 1 → g0 ≤ r → (∀ g, g0 ≤ g → g < r → nd (thn s x c g) < lv) →
      T l hdX kX mX0_leadsLower (RI M (if enough s nd g0 g1 lv x c = true then 1 else 0)) 0 0 6 [some (.ref h), some (.ref 20), some (.int (nI x)), some (.int (nI c)), some (.int (nI lv)), some (.int (nI r)), none] [] M := by
    intro d
    induction d with
    | zero =>
      intro r hr hr0 hg
      refine T.iload (pc' := 8) (q_d dX0_leadsLower_0 3 rfl) rfl rfl ?_
      refine T.aload_n (pc' := 9) (q_d dX0_leadsLower_0 4 rfl) rfl rfl rfl ?_
      refine T.getI (pc' := 12) (ci := 0) (k0 := 3) (q_d dX0_leadsLower_0 5 rfl) rfl (HO.o hh) (Nat.lt_of_le_of_lt (Nat.le_add_right _ _) (HO.lt hh)) rfl inX0 (by decide) rfl wF_X0_22 h3 ?_
      refine T.icmp_gtN (tgt := 51) (pc' := 15) (q_d dX0_leadsLower_0 6 rfl) rfl (by decide) (by omega) (by omega) (fun h12 => ?_) (fun h12 => ?_)
      · refine T.iconst (pc' := 52) (v := nI 1) (q_d dX0_leadsLower_0 26 rfl) rfl (by decide) ?_
        refine T.zret (q_d dX0_leadsLower_0 27 rfl) rfl (by decide) rfl rfl ?_
        exact ⟨rfl, by rw [if_pos ((enough_iff hle.2).mpr (fun g a1 a2 => hg g a1 (by omega)))]⟩
      · exact absurd h12 (by omega)
    | succ d ih =>
      intro r hr hr0 hg
      have ht := thn_lt (s := s) (b := x) (c := c) (g := r) hw.1
      have hv1 := hv (thn s x c r)
      have hnl := nc_lt hv1
      have hm := nc_m1 hv1
      refine T.iload (pc' := 8) (q_d dX0_leadsLower_0 3 rfl) rfl rfl ?_
      refine T.aload_n (pc' := 9) (q_d dX0_leadsLower_0 4 rfl) rfl rfl rfl ?_
      refine T.getI (pc' := 12) (ci := 0) (k0 := 3) (q_d dX0_leadsLower_0 5 rfl) rfl (HO.o hh) (Nat.lt_of_le_of_lt (Nat.le_add_right _ _) (HO.lt hh)) rfl inX0 (by decide) rfl wF_X0_22 h3 ?_
      refine T.icmp_gtN (tgt := 51) (pc' := 15) (q_d dX0_leadsLower_0 6 rfl) rfl (by decide) (by omega) (by omega) (fun h12 => ?_) (fun h12 => ?_)
      · exact absurd h12 (by omega)
      · refine T.aload_n (pc' := 16) (q_d dX0_leadsLower_0 7 rfl) rfl rfl rfl ?_
        refine T.getR (pc' := 19) (ci := 0) (k0 := 0) (q_d dX0_leadsLower_0 8 rfl) rfl (HO.o hh) (Nat.lt_of_le_of_lt (Nat.le_add_right _ _) (HO.lt hh)) rfl inX0 (by decide) rfl wF_X0_9 (rP hP (HO.p0 hh)) ?_
        refine T.aload_n (pc' := 20) (q_d dX0_leadsLower_0 9 rfl) rfl rfl rfl ?_
        refine T.iload_n (pc' := 21) (q_d dX0_leadsLower_0 10 rfl) rfl rfl rfl ?_
        refine T.iload_n (pc' := 22) (q_d dX0_leadsLower_0 11 rfl) rfl rfl rfl ?_
        refine T.iload (pc' := 24) (q_d dX0_leadsLower_0 12 rfl) rfl rfl ?_
        refine T.callV (pc' := 27) (ci := 1) (q_d dX0_leadsLower_0 13 rfl) rfl uX1_after wM_X0_52 (c_after hP hw hT hx (show r < 5 by omega)) rfl rfl (by decide) rfl rfl (by decide) (Nat.le_of_ble_eq_true rfl) rfl rfl (fun _ => rfl) ?_
        rintro _ _ ⟨rfl, rfl⟩
        dsimp only [Option.toList, List.cons_append, List.nil_append, List.append_nil]
        refine T.iald (pc' := 28) (q_d dX0_leadsLower_0 14 rfl) rfl (HO.a1 hh) (Nat.lt_of_le_of_lt (by omega) (HO.lt hh)) rfl (by omega) (by decide) (hn _ (by omega)) ?_
        refine T.istore (pc' := 30) (q_d dX0_leadsLower_0 15 rfl) rfl (by decide) rfl rfl ?_
        refine T.iload (pc' := 32) (q_d dX0_leadsLower_0 16 rfl) rfl rfl ?_
        refine T.iconst (pc' := 33) (v := nI 4294967295) (q_d dX0_leadsLower_0 17 rfl) rfl (by decide) ?_
        refine T.icmp_eqN (tgt := 43) (pc' := 36) (q_d dX0_leadsLower_0 18 rfl) rfl (by decide) (by omega) (by omega) (fun h33 => ?_) (fun h33 => ?_)
        · refine T.iconst (pc' := 44) (v := nI 0) (q_d dX0_leadsLower_0 22 rfl) rfl (by decide) ?_
          refine T.zret (q_d dX0_leadsLower_0 23 rfl) rfl (by decide) rfl rfl ?_
          refine ⟨rfl, ?_⟩
          rw [if_neg]
          intro he
          have h9 := (enough_iff hle.2).mp he r hr0 (by omega)
          first
            | (have h8 := hm.mp h33; omega)
            | (rw [nc_id (fun e => h33 (hm.mpr e))] at h40; omega)
        · refine T.iload (pc' := 38) (q_d dX0_leadsLower_0 19 rfl) rfl rfl ?_
          refine T.iload (pc' := 40) (q_d dX0_leadsLower_0 20 rfl) rfl rfl ?_
          refine T.icmp_ltN (tgt := 45) (pc' := 43) (q_d dX0_leadsLower_0 21 rfl) rfl (by decide) (by rw [nc_id (fun e => h33 (hm.mpr e))]; omega) (by omega) (fun h40 => ?_) (fun h40 => ?_)
          · refine T.iinc (pc' := 48) (q_d dX0_leadsLower_0 24 rfl) rfl rfl (nN_p _ 1) (by decide) rfl rfl ?_
            refine T.goto (tgt := 6) (q_d dX0_leadsLower_0 25 rfl) (by decide) ?_
            refine T.drop (loc' := [some (.ref h), some (.ref 20), some (.int (nI x)), some (.int (nI c)), some (.int (nI lv)), some (.int (nI (r + 1))), none]) ⟨rfl, rfl, rfl, rfl, rfl, rfl, trivial⟩ ?_
            refine ih (r + 1) (by omega) (by omega) (fun g a1 a2 => ?_)
            by_cases e : g = r
            · subst e
              rw [nc_id (fun e => h33 (hm.mpr e))] at h40
              exact h40
            · exact hg g a1 (by omega)
          · refine T.iconst (pc' := 44) (v := nI 0) (q_d dX0_leadsLower_0 22 rfl) rfl (by decide) ?_
            refine T.zret (q_d dX0_leadsLower_0 23 rfl) rfl (by decide) rfl rfl ?_
            refine ⟨rfl, ?_⟩
            rw [if_neg]
            intro he
            have h9 := (enough_iff hle.2).mp he r hr0 (by omega)
            first
              | (have h8 := hm.mp h33; omega)
              | (rw [nc_id (fun e => h33 (hm.mpr e))] at h40; omega)
  refine T.aload_n (pc' := 1) (q_d dX0_leadsLower_0 0 rfl) rfl rfl rfl ?_
  refine T.getI (pc' := 4) (ci := 0) (k0 := 2) (q_d dX0_leadsLower_0 1 rfl) rfl (HO.o hh) (Nat.lt_of_le_of_lt (Nat.le_add_right _ _) (HO.lt hh)) rfl inX0 (by decide) rfl wF_X0_18 h2 ?_
  refine T.istore (pc' := 6) (q_d dX0_leadsLower_0 2 rfl) rfl (by decide) rfl rfl ?_
  exact loop (g1 + 1 - g0) g0 (by omega) (Nat.le_refl _) (fun g a1 a2 => absurd a2 (by omega))
theorem c_settle (hh : HO h g0 g1) (hP : M.2.2 = pX pa sw) (hw : WF b s) (hT : RT M s) (h2 : M.1 h 2 = g0) (h3 : M.1 h 3 = g1) {nd : Nat → Nat} (hn : ∀ y, y < 128 → M.1 (h + 1) y = nc (nd y)) (hv : ∀ y, nd y = 1000 ∨ nd y ≤ 127) {x lv : Nat} (hx : x < 2 ^ s 0) (hl : lv ≤ 127) :
    Ct l hdX kX mX0_settle [.ref h, .ref 20, .int (nI x), .int (nI lv)] M (fun v M' => (v = some (.int (nI 1)) ∧ ∃ c, fstC s nd g0 g1 lv x = some c ∧ M' = qI (qI M (h + 1) x lv) (h + 2) x c) ∨ (v = some (.int (nI 0)) ∧ fstC s nd g0 g1 lv x = none ∧ M = M')) := by
  refine Ct.of [some (.ref h), some (.ref 20), some (.int (nI x)), some (.int (nI lv)), none] (by decide +kernel) (fun h => absurd h (by decide)) (Nat.le_of_ble_eq_true rfl) rfl ?_
  have w0 := p2_le hw.1
  have hge := hh.ge
  have hlen : (ckN s (2 ^ s 0)).length ≤ 128 := by
    refine Nat.le_trans (List.length_filter_le _ _) ?_
    rw [List.length_range]; exact w0
  have loop : ∀ d i, i + d = (ckN s (2 ^ s 0)).length → fstC s nd g0 g1 lv x = ((ckN s (2 ^ s 0)).drop i).find? (enough s nd g0 g1 lv x) →
      T l hdX kX mX0_settle (fun v M' => (v = some (.int (nI 1)) ∧ ∃ c, fstC s nd g0 g1 lv x = some c ∧ M' = qI (qI M (h + 1) x lv) (h + 2) x c) ∨ (v = some (.int (nI 0)) ∧ fstC s nd g0 g1 lv x = none ∧ M = M')) 0 0 3 [some (.ref h), some (.ref 20), some (.int (nI x)), some (.int (nI lv)), some (.int (nI i))] [] M := by
    intro d
    induction d with
    | zero =>
      intro i hi hf
      refine T.iload (pc' := 5) (q_d dX0_settle_0 2 rfl) rfl rfl ?_
      refine T.aload_n (pc' := 6) (q_d dX0_settle_0 3 rfl) rfl rfl rfl ?_
      refine T.getI (pc' := 9) (ci := 1) (k0 := 3) (q_d dX0_settle_0 4 rfl) rfl rfl (by decide) rfl inX1 (by decide) rfl wF_X0_42 hT.2.2.2.1 ?_
      refine T.icmp_geN (tgt := 57) (pc' := 12) (q_d dX0_settle_0 5 rfl) rfl (by decide) (by omega) (by omega) (fun h9 => ?_) (fun h9 => ?_)
      · refine T.iconst (pc' := 58) (v := nI 0) (q_d dX0_settle_0 33 rfl) rfl (by decide) ?_
        refine T.zret (q_d dX0_settle_0 34 rfl) rfl (by decide) rfl rfl ?_
        exact Or.inr ⟨rfl, by rw [hf, List.drop_eq_nil_of_le (by omega)]; rfl, rfl⟩
      · exact absurd h9 (by omega)
    | succ d ih =>
      intro i hi hf
      obtain ⟨c, hc⟩ : ∃ c, (ckN s (2 ^ s 0))[i]? = some c := ⟨_, List.getElem?_eq_getElem (by omega)⟩
      have hc28 := hT.2.2.2.2 i c hc
      have hdr : (ckN s (2 ^ s 0)).drop i = c :: (ckN s (2 ^ s 0)).drop (i + 1) := by
        rw [List.drop_eq_getElem_cons (by omega)]
        rw [List.getElem?_eq_getElem (by omega)] at hc
        rw [Option.some.inj hc]
      rw [hdr, List.find?_cons] at hf
      refine T.iload (pc' := 5) (q_d dX0_settle_0 2 rfl) rfl rfl ?_
      refine T.aload_n (pc' := 6) (q_d dX0_settle_0 3 rfl) rfl rfl rfl ?_
      refine T.getI (pc' := 9) (ci := 1) (k0 := 3) (q_d dX0_settle_0 4 rfl) rfl rfl (by decide) rfl inX1 (by decide) rfl wF_X0_42 hT.2.2.2.1 ?_
      refine T.icmp_geN (tgt := 57) (pc' := 12) (q_d dX0_settle_0 5 rfl) rfl (by decide) (by omega) (by omega) (fun h9 => ?_) (fun h9 => ?_)
      · exact absurd h9 (by omega)
      · refine T.aload_n (pc' := 13) (q_d dX0_settle_0 6 rfl) rfl rfl rfl ?_
        refine T.aload_n (pc' := 14) (q_d dX0_settle_0 7 rfl) rfl rfl rfl ?_
        refine T.iload_n (pc' := 15) (q_d dX0_settle_0 8 rfl) rfl rfl rfl ?_
        refine T.aload_n (pc' := 16) (q_d dX0_settle_0 9 rfl) rfl rfl rfl ?_
        refine T.getR (pc' := 19) (ci := 1) (k0 := 2) (q_d dX0_settle_0 10 rfl) rfl rfl (by decide) rfl inX1 (by decide) rfl wF_X0_45 (rP hP rfl) ?_
        refine T.iload (pc' := 21) (q_d dX0_settle_0 11 rfl) rfl rfl ?_
        refine T.iald (pc' := 22) (q_d dX0_settle_0 12 rfl) rfl rfl (by decide) rfl (by omega) (by decide) hc28 ?_
        refine T.iload_n (pc' := 23) (q_d dX0_settle_0 13 rfl) rfl rfl rfl ?_
        refine T.callV (pc' := 26) (ci := 0) (q_d dX0_settle_0 14 rfl) rfl uX0_leadsLower wM_X0_48 (c_leadsLower hh hP hw hT h2 h3 hn hv (c := c) hx hl) rfl rfl (Nat.lt_of_le_of_lt (Nat.le_add_right _ _) (HO.lt hh)) (HO.o hh) rfl (by decide) (Nat.le_of_ble_eq_true rfl) rfl rfl (fun _ => rfl) ?_
        rintro _ _ ⟨rfl, rfl⟩
        dsimp only [Option.toList, List.cons_append, List.nil_append, List.append_nil]
        refine T.if_eqN (tgt := 51) (pc' := 29) (q_d dX0_settle_0 15 rfl) rfl (by decide) (by split <;> decide) (fun h26 => ?_) (fun h26 => ?_)
        · refine T.iinc (pc' := 54) (q_d dX0_settle_0 31 rfl) rfl rfl (nN_p _ 1) (by decide) rfl rfl ?_
          refine T.goto (tgt := 3) (q_d dX0_settle_0 32 rfl) (by decide) ?_
          by_cases he : enough s nd g0 g1 lv x c = true
          · rw [if_pos he] at h26; cases h26
          · rw [Bool.not_eq_true] at he
            rw [he] at hf
            exact ih (i + 1) (by omega) hf
        · refine T.aload_n (pc' := 30) (q_d dX0_settle_0 16 rfl) rfl rfl rfl ?_
          refine T.getR (pc' := 33) (ci := 0) (k0 := 0) (q_d dX0_settle_0 17 rfl) rfl (HO.o hh) (Nat.lt_of_le_of_lt (Nat.le_add_right _ _) (HO.lt hh)) rfl inX0 (by decide) rfl wF_X0_9 (rP hP (HO.p0 hh)) ?_
          refine T.iload_n (pc' := 34) (q_d dX0_settle_0 18 rfl) rfl rfl rfl ?_
          refine T.iload_n (pc' := 35) (q_d dX0_settle_0 19 rfl) rfl rfl rfl ?_
          refine T.iast (pc' := 36) (q_d dX0_settle_0 20 rfl) rfl (HO.a1 hh) (Nat.lt_of_le_of_lt (by omega) (HO.lt hh)) rfl (by omega) (by decide) ?_
          refine T.aload_n (pc' := 37) (q_d dX0_settle_0 21 rfl) rfl rfl rfl ?_
          refine T.getR (pc' := 40) (ci := 0) (k0 := 1) (q_d dX0_settle_0 22 rfl) rfl (HO.o hh) (Nat.lt_of_le_of_lt (Nat.le_add_right _ _) (HO.lt hh)) rfl inX0 (by decide) rfl wF_X0_15 (rP hP (HO.p1 hh)) ?_
          refine T.iload_n (pc' := 41) (q_d dX0_settle_0 23 rfl) rfl rfl rfl ?_
          refine T.aload_n (pc' := 42) (q_d dX0_settle_0 24 rfl) rfl rfl rfl ?_
          refine T.getR (pc' := 45) (ci := 1) (k0 := 2) (q_d dX0_settle_0 25 rfl) rfl rfl (by decide) rfl inX1 (by decide) rfl wF_X0_45 (rP hP rfl) ?_
          refine T.iload (pc' := 47) (q_d dX0_settle_0 26 rfl) rfl rfl ?_
          refine T.iald (pc' := 48) (q_d dX0_settle_0 27 rfl) rfl rfl (by decide) rfl (by omega) (by decide) ((qI_ne (Or.inl (by omega))).trans hc28) ?_
          refine T.iast (pc' := 49) (q_d dX0_settle_0 28 rfl) rfl (HO.a2 hh) (Nat.lt_of_le_of_lt (by omega) (HO.lt hh)) rfl (by omega) (by decide) ?_
          refine T.iconst (pc' := 50) (v := nI 1) (q_d dX0_settle_0 29 rfl) rfl (by decide) ?_
          refine T.zret (q_d dX0_settle_0 30 rfl) rfl (by decide) rfl rfl ?_
          by_cases he : enough s nd g0 g1 lv x c = true
          · rw [he] at hf
            exact Or.inl ⟨rfl, c, hf, rfl⟩
          · rw [if_neg he] at h26; exact absurd rfl h26
  refine T.iconst (pc' := 1) (v := nI 0) (q_d dX0_settle_0 0 rfl) rfl (by decide) ?_
  refine T.istore (pc' := 3) (q_d dX0_settle_0 1 rfl) rfl (by decide) rfl rfl ?_
  exact loop _ 0 (Nat.zero_add _) (by rw [fstC_ck]; rfl)
theorem c_partsAreSure (hh : HO h g0 g1) (hP : M.2.2 = pX pa sw) {nd : Nat → Nat} (hn : ∀ y, y < 128 → M.1 (h + 1) y = nc (nd y)) (hv : ∀ y, nd y = 1000 ∨ nd y ≤ 127) {x : Nat} (hx : x < 128) :
    Ct l hdX kX mX0_partsAreSure [.ref h, .int (nI x)] M (fun v M' => M = M' ∧ ((v = some (.int (nI 1)) ∧ True) ∨ (v = some (.int (nI 0)) ∧ ∃ p, p < 7 ∧ x.testBit p = true ∧ nd (dif x (1 <<< p)) = 1000))) := by
  refine Ct.of [some (.ref h), some (.int (nI x)), none, none] (by decide +kernel) (fun h => absurd h (by decide)) (Nat.le_of_ble_eq_true rfl) rfl ?_
  have loop : ∀ d i, i + d = 7 → T l hdX kX mX0_partsAreSure (fun v M' => M = M' ∧ ((v = some (.int (nI 1)) ∧ True) ∨ (v = some (.int (nI 0)) ∧ ∃ p, p < 7 ∧ x.testBit p = true ∧ nd (dif x (1 <<< p)) = 1000))) 0 0 2 [some (.ref h), some (.int (nI x)), some (.int (nI i)), none] [] M := by
    intro d
    induction d with
    | zero =>
      intro i hi
      refine T.iload_n (pc' := 3) (q_d dX0_partsAreSure_0 2 rfl) rfl rfl rfl ?_
      refine T.bipush (pc' := 5) (v := nI 7) (q_d dX0_partsAreSure_0 3 rfl) rfl (by decide) ?_
      refine T.icmp_geN (tgt := 51) (pc' := 8) (q_d dX0_partsAreSure_0 4 rfl) rfl (by decide) (by omega) (by omega) (fun h5 => ?_) (fun h5 => ?_)
      · refine T.iconst (pc' := 52) (v := nI 1) (q_d dX0_partsAreSure_0 34 rfl) rfl (by decide) ?_
        refine T.zret (q_d dX0_partsAreSure_0 35 rfl) rfl (by decide) rfl rfl ?_
        exact ⟨rfl, Or.inl ⟨rfl, trivial⟩⟩
      · exact absurd h5 (by omega)
    | succ d ih =>
      intro i hi
      have g9 := and1_lt (x >>> i)
      have hd : dif x (1 <<< i) < 128 := dif_lt hx
      have hv1 := hv (dif x (1 <<< i))
      have hnl := nc_lt hv1
      refine T.iload_n (pc' := 3) (q_d dX0_partsAreSure_0 2 rfl) rfl rfl rfl ?_
      refine T.bipush (pc' := 5) (v := nI 7) (q_d dX0_partsAreSure_0 3 rfl) rfl (by decide) ?_
      refine T.icmp_geN (tgt := 51) (pc' := 8) (q_d dX0_partsAreSure_0 4 rfl) rfl (by decide) (by omega) (by omega) (fun h5 => ?_) (fun h5 => ?_)
      · exact absurd h5 (by omega)
      · refine T.iload_n (pc' := 9) (q_d dX0_partsAreSure_0 5 rfl) rfl rfl rfl ?_
        refine T.iload_n (pc' := 10) (q_d dX0_partsAreSure_0 6 rfl) rfl rfl rfl ?_
        refine T.ishr (pc' := 11) (q_d dX0_partsAreSure_0 7 rfl) rfl (nN_shr (by omega) (by omega)) ?_
        refine T.iconst (pc' := 12) (v := nI 1) (q_d dX0_partsAreSure_0 8 rfl) rfl (by decide) ?_
        refine T.iand (pc' := 13) (q_d dX0_partsAreSure_0 9 rfl) rfl (nN_and _ _) ?_
        refine T.iconst (pc' := 14) (v := nI 1) (q_d dX0_partsAreSure_0 10 rfl) rfl (by decide) ?_
        refine T.icmp_neN (tgt := 21) (pc' := 17) (q_d dX0_partsAreSure_0 11 rfl) rfl (by decide) (by omega) (by omega) (fun h14 => ?_) (fun h14 => ?_)
        · refine T.iconst (pc' := 22) (v := nI 0) (q_d dX0_partsAreSure_0 14 rfl) rfl (by decide) ?_
          refine T.istore_n (pc' := 23) (q_d dX0_partsAreSure_0 15 rfl) rfl rfl (by decide) rfl rfl ?_
          refine T.iload_n (pc' := 24) (q_d dX0_partsAreSure_0 16 rfl) rfl rfl rfl ?_
          refine T.if_eqN (tgt := 45) (pc' := 27) (q_d dX0_partsAreSure_0 17 rfl) rfl (by decide) (by omega) (fun h24 => ?_) (fun h24 => ?_)
          · refine T.iinc (pc' := 48) (q_d dX0_partsAreSure_0 32 rfl) rfl rfl (nN_p _ 1) (by decide) rfl rfl ?_
            refine T.goto (tgt := 2) (q_d dX0_partsAreSure_0 33 rfl) (by decide) ?_
            refine T.drop (loc' := [some (.ref h), some (.int (nI x)), some (.int (nI (i + 1))), none]) ⟨rfl, rfl, rfl, trivial⟩ ?_
            exact ih (i + 1) (by omega)
          · refine T.aload_n (pc' := 28) (q_d dX0_partsAreSure_0 18 rfl) rfl rfl rfl ?_
            refine T.getR (pc' := 31) (ci := 0) (k0 := 0) (q_d dX0_partsAreSure_0 19 rfl) rfl (HO.o hh) (Nat.lt_of_le_of_lt (Nat.le_add_right _ _) (HO.lt hh)) rfl inX0 (by decide) rfl wF_X0_9 (rP hP (HO.p0 hh)) ?_
            refine T.iload_n (pc' := 32) (q_d dX0_partsAreSure_0 20 rfl) rfl rfl rfl ?_
            refine T.iconst (pc' := 33) (v := nI 1) (q_d dX0_partsAreSure_0 21 rfl) rfl (by decide) ?_
            refine T.iload_n (pc' := 34) (q_d dX0_partsAreSure_0 22 rfl) rfl rfl rfl ?_
            refine T.ishl (pc' := 35) (q_d dX0_partsAreSure_0 23 rfl) rfl (nN_shl _ (by omega)) ?_
            refine T.iconst (pc' := 36) (v := nI 4294967295) (q_d dX0_partsAreSure_0 24 rfl) rfl (by decide) ?_
            refine T.ixor (pc' := 37) (q_d dX0_partsAreSure_0 25 rfl) rfl (nN_xor _ _) ?_
            refine T.iand (pc' := 38) (q_d dX0_partsAreSure_0 26 rfl) rfl ((nN_and _ _).trans (show _ = nI (dif x (1 <<< i)) from rfl)) ?_
            refine T.iald (pc' := 39) (q_d dX0_partsAreSure_0 27 rfl) rfl (HO.a1 hh) (Nat.lt_of_le_of_lt (by omega) (HO.lt hh)) rfl (by omega) (by decide) (hn _ hd) ?_
            refine T.iconst (pc' := 40) (v := nI 4294967295) (q_d dX0_partsAreSure_0 28 rfl) rfl (by decide) ?_
            refine T.icmp_neN (tgt := 45) (pc' := 43) (q_d dX0_partsAreSure_0 29 rfl) rfl (by decide) (by omega) (by omega) (fun h40 => ?_) (fun h40 => ?_)
            · refine T.iinc (pc' := 48) (q_d dX0_partsAreSure_0 32 rfl) rfl rfl (nN_p _ 1) (by decide) rfl rfl ?_
              refine T.goto (tgt := 2) (q_d dX0_partsAreSure_0 33 rfl) (by decide) ?_
              refine T.drop (loc' := [some (.ref h), some (.int (nI x)), some (.int (nI (i + 1))), none]) ⟨rfl, rfl, rfl, trivial⟩ ?_
              exact ih (i + 1) (by omega)
            · refine T.iconst (pc' := 44) (v := nI 0) (q_d dX0_partsAreSure_0 30 rfl) rfl (by decide) ?_
              refine T.zret (q_d dX0_partsAreSure_0 31 rfl) rfl (by decide) rfl rfl ?_
              first
                | exact absurd h24 (by decide)
                | exact ⟨rfl, Or.inr ⟨rfl, i, by omega, (bit_iff _ _).mp h14, (nc_m1 hv1).mp h40⟩⟩
                | exact absurd rfl h24
        · refine T.iconst (pc' := 18) (v := nI 1) (q_d dX0_partsAreSure_0 12 rfl) rfl (by decide) ?_
          refine T.goto (tgt := 22) (q_d dX0_partsAreSure_0 13 rfl) (by decide) ?_
          refine T.istore_n (pc' := 23) (q_d dX0_partsAreSure_0 15 rfl) rfl rfl (by decide) rfl rfl ?_
          refine T.iload_n (pc' := 24) (q_d dX0_partsAreSure_0 16 rfl) rfl rfl rfl ?_
          refine T.if_eqN (tgt := 45) (pc' := 27) (q_d dX0_partsAreSure_0 17 rfl) rfl (by decide) (by omega) (fun h24 => ?_) (fun h24 => ?_)
          · refine T.iinc (pc' := 48) (q_d dX0_partsAreSure_0 32 rfl) rfl rfl (nN_p _ 1) (by decide) rfl rfl ?_
            refine T.goto (tgt := 2) (q_d dX0_partsAreSure_0 33 rfl) (by decide) ?_
            refine T.drop (loc' := [some (.ref h), some (.int (nI x)), some (.int (nI (i + 1))), none]) ⟨rfl, rfl, rfl, trivial⟩ ?_
            exact ih (i + 1) (by omega)
          · refine T.aload_n (pc' := 28) (q_d dX0_partsAreSure_0 18 rfl) rfl rfl rfl ?_
            refine T.getR (pc' := 31) (ci := 0) (k0 := 0) (q_d dX0_partsAreSure_0 19 rfl) rfl (HO.o hh) (Nat.lt_of_le_of_lt (Nat.le_add_right _ _) (HO.lt hh)) rfl inX0 (by decide) rfl wF_X0_9 (rP hP (HO.p0 hh)) ?_
            refine T.iload_n (pc' := 32) (q_d dX0_partsAreSure_0 20 rfl) rfl rfl rfl ?_
            refine T.iconst (pc' := 33) (v := nI 1) (q_d dX0_partsAreSure_0 21 rfl) rfl (by decide) ?_
            refine T.iload_n (pc' := 34) (q_d dX0_partsAreSure_0 22 rfl) rfl rfl rfl ?_
            refine T.ishl (pc' := 35) (q_d dX0_partsAreSure_0 23 rfl) rfl (nN_shl _ (by omega)) ?_
            refine T.iconst (pc' := 36) (v := nI 4294967295) (q_d dX0_partsAreSure_0 24 rfl) rfl (by decide) ?_
            refine T.ixor (pc' := 37) (q_d dX0_partsAreSure_0 25 rfl) rfl (nN_xor _ _) ?_
            refine T.iand (pc' := 38) (q_d dX0_partsAreSure_0 26 rfl) rfl ((nN_and _ _).trans (show _ = nI (dif x (1 <<< i)) from rfl)) ?_
            refine T.iald (pc' := 39) (q_d dX0_partsAreSure_0 27 rfl) rfl (HO.a1 hh) (Nat.lt_of_le_of_lt (by omega) (HO.lt hh)) rfl (by omega) (by decide) (hn _ hd) ?_
            refine T.iconst (pc' := 40) (v := nI 4294967295) (q_d dX0_partsAreSure_0 28 rfl) rfl (by decide) ?_
            refine T.icmp_neN (tgt := 45) (pc' := 43) (q_d dX0_partsAreSure_0 29 rfl) rfl (by decide) (by omega) (by omega) (fun h40 => ?_) (fun h40 => ?_)
            · refine T.iinc (pc' := 48) (q_d dX0_partsAreSure_0 32 rfl) rfl rfl (nN_p _ 1) (by decide) rfl rfl ?_
              refine T.goto (tgt := 2) (q_d dX0_partsAreSure_0 33 rfl) (by decide) ?_
              refine T.drop (loc' := [some (.ref h), some (.int (nI x)), some (.int (nI (i + 1))), none]) ⟨rfl, rfl, rfl, trivial⟩ ?_
              exact ih (i + 1) (by omega)
            · refine T.iconst (pc' := 44) (v := nI 0) (q_d dX0_partsAreSure_0 30 rfl) rfl (by decide) ?_
              refine T.zret (q_d dX0_partsAreSure_0 31 rfl) rfl (by decide) rfl rfl ?_
              first
                | exact absurd h24 (by decide)
                | exact ⟨rfl, Or.inr ⟨rfl, i, by omega, (bit_iff _ _).mp h14, (nc_m1 hv1).mp h40⟩⟩
                | exact absurd rfl h24
  refine T.iconst (pc' := 1) (v := nI 0) (q_d dX0_partsAreSure_0 0 rfl) rfl (by decide) ?_
  refine T.istore_n (pc' := 2) (q_d dX0_partsAreSure_0 1 rfl) rfl rfl (by decide) rfl rfl ?_
  exact loop 7 0 (by omega)
end CX0
