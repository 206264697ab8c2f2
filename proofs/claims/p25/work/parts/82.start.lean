/-! the law's walk: three places, a road, sixteen acts, and what is undone -/
theorem Z_00 : ∀ x, 14 ≤ x → x < 28 → s00 x = 0 := fun x h1 h2 => if_neg (by omega)
theorem Z_place {f : Nat → Nat} {u : Nat} (h : ∀ x, 14 ≤ x → x < 28 → f x = 0) (h7 : f 0 < 7) : ∀ x, 14 ≤ x → x < 28 → sPlace f u x = 0 := fun x h1 h2 => by unfold sPlace; rw [if_neg (by omega), if_neg (by omega)]; exact h x h1 h2
theorem Z_rd {f : Nat → Nat} (h : ∀ x, 14 ≤ x → x < 28 → f x = 0) (h7 : f 0 ≤ 7) : rdN f 14 = 0 := by
  have key : ∀ n, n ≤ 7 → sumTo (fun i => ones (f (14 + i))) n = 0 := by
    intro n
    induction n with
    | zero => intro _; rfl
    | succ n ih =>
      intro hn
      simp only [sumTo]
      rw [ih (by omega), h (14 + n) (by omega) (by omega), ones_zero]
  unfold rdN
  rw [key _ h7]
section LawWalk
variable {p : Program} {l : Launch} {e : Env} {s : State} {m : MethodId} {below : List Frame} {meth : Method} {c : Code} {b L : Nat} {xs : Nat → Int32} {D : va_G} {tc : Nat → ClassId}
theorem law_end (C0 : lw_At p s m meth c b L xs) (hK : va_K D vwCl (qT tc) s) {bb i k : Nat} {f : Nat → Nat} {was : Nat → Nat → Nat} {n : Nat} {t pa : Nat → Nat} {sw : Bool} {M : qM} (hb : bb + 1 < 2 ^ 30) (hX : RX M bb f k was n t pa sw) :
    LT p l e s m below meth c b D tc 144 [(3, .int (nI i)), (2, .int (nI 1)), (1, .ref s.heap.size), (0, .ref b)] [] M := by
  have w6 := hX.2.2.2.1.2.2.2.2.2.1
  have hk4 := hX.2.2.2.2.2.1
  have h0 : 0 < 2 ^ f 0 := Nat.two_pow_pos _
  have e1 : sBelieve f 0 1 = 0 := rfl
  have hchk : ∀ {M3 : qM} {pa3 : Nat → Nat} {sw3 : Bool}, RX M3 bb (sBelieve f 0) (pushK k) (pushW k was f) n t pa3 sw3 → Ct l hdX kX mX5_check [.ref 0, .int (nI 0), .int (nI 0)] M3 (OX (bb + 1) (4293967294, (sBelieve f 0, pushK k, pushW k was f, n, t))) := by
    intro M3 pa3 sw3 h
    refine (c_check h (u := 0) (v := 0) (by decide) (by decide)).mono (fun x M' q => OX.to ?_ q)
    unfold oCheck
    rw [if_pos ⟨h0, by decide, by rw [ones_zero]; exact Nat.zero_le _⟩, if_neg (fun q => q.1 rfl)]
  have hpk : pushK k ≠ 0 ∧ pushK k - 1 < 4 := by unfold pushK; split <;> omega
  have hpw : pushW k was f (pushK k - 1) = f := by
    unfold pushK pushW
    by_cases h4 : k = 4
    · rw [if_pos h4, if_pos h4]; rfl
    · rw [if_neg h4, if_neg h4]; simp
  have hund : ∀ {M3 : qM} {pa3 : Nat → Nat} {sw3 : Bool}, RX M3 (bb + 1) (sBelieve f 0) (pushK k) (pushW k was f) n t pa3 sw3 → Ct l hdX kX mX5_undo [.ref 0] M3 (OX (bb + 1) (pushK k - 1, (f, pushK k - 1, pushW k was f, n, t))) := by
    intro M3 pa3 sw3 h
    refine (c_undo h).mono (fun x M' q => OX.to ?_ q)
    unfold oUndo
    rw [if_neg hpk.1, hpw]
  refine LW.aload_n (pc' := 145) C0 (q_d dL_law_2 0 rfl) rfl rfl 2 rfl ?_
  refine LW.iconst (pc' := 146) (v := nI 3) C0 (q_d dL_law_2 1 rfl) rfl (by decide) ?_
  refine LW.callV (pc' := 149) C0 hK (q_d dL_law_2 2 rfl) rfl uX5_count wM_L_38 (c_cnt hX (by omega) (u := 3) (x := f 1) (by decide) rfl) rfl rfl rfl (by decide) (Nat.le_of_ble_eq_true rfl) (fun v M2 q => ?_)
  obtain ⟨rfl, pa2, sw2, hX2⟩ := q
  replace hX2 : RX M2 bb f k was n t pa2 sw2 := hX2
  show LT p l e s m below meth c b D tc 149 [(3, .int (nI i)), (2, .int (nI 1)), (1, .ref s.heap.size), (0, .ref b)] [.int (nI (f 1))] M2
  refine LW.istore_n (pc' := 150) (lv' := [(3, .int (nI (f 1))), (2, .int (nI 1)), (1, .ref s.heap.size), (0, .ref b)]) C0 (q_d dL_law_2 3 rfl) rfl rfl (by decide) rfl ?_
  refine LW.aload_n (pc' := 151) C0 (q_d dL_law_2 4 rfl) rfl rfl 2 rfl ?_
  refine LW.iconst (pc' := 152) (v := nI 4) C0 (q_d dL_law_2 5 rfl) rfl (by decide) ?_
  refine LW.callV (pc' := 155) C0 hK (q_d dL_law_2 6 rfl) rfl uX5_count wM_L_38 (c_cnt hX2 (by omega) (u := 4) (x := f 2) (by decide) rfl) rfl rfl rfl (by decide) (Nat.le_of_ble_eq_true rfl) (fun v M3 q => ?_)
  obtain ⟨rfl, pa3, sw3, hX3⟩ := q
  replace hX3 : RX M3 bb f k was n t pa3 sw3 := hX3
  show LT p l e s m below meth c b D tc 155 [(3, .int (nI (f 1))), (2, .int (nI 1)), (1, .ref s.heap.size), (0, .ref b)] [.int (nI (f 2))] M3
  refine LW.istore (pc' := 157) (lv' := [(4, .int (nI (f 2))), (3, .int (nI (f 1))), (2, .int (nI 1)), (1, .ref s.heap.size), (0, .ref b)]) C0 (q_d dL_law_2 7 rfl) rfl (by decide) rfl ?_
  refine LW.iload_n (pc' := 158) C0 (q_d dL_law_2 8 rfl) rfl rfl 2 rfl ?_
  refine LW.if_eq (tgt := 210) (pc' := 161) C0 (q_d dL_law_2 9 rfl) (by decide) rfl (by decide) (fun h158 => ?_) (fun h158 => ?_)
  · exact absurd h158 (by decide)
  · refine LW.aload_n (pc' := 162) C0 (q_d dL_law_2 10 rfl) rfl rfl 3 rfl ?_
    refine LW.iconst (pc' := 163) (v := nI 0) C0 (q_d dL_law_2 11 rfl) rfl (by decide) ?_
    refine LW.callV (pc' := 166) C0 hK (q_d dL_law_2 12 rfl) rfl uX5_believe wM_L_32 (c_bel hX3 h0) rfl rfl rfl (by decide) (Nat.le_of_ble_eq_true rfl) (fun v M4 q => ?_)
    obtain ⟨rfl, pa4, sw4, hX4⟩ := q
    replace hX4 : RX M4 bb (sBelieve f 0) (pushK k) (pushW k was f) n t pa4 sw4 := hX4
    show LT p l e s m below meth c b D tc 166 [(4, .int (nI (f 2))), (3, .int (nI (f 1))), (2, .int (nI 1)), (1, .ref s.heap.size), (0, .ref b)] [.int (nI (ones 0))] M4
    refine LW.if_ne (tgt := 210) (pc' := 169) C0 (q_d dL_law_2 13 rfl) (by decide) rfl (by rw [ones_zero]; decide) (fun h166 => ?_) (fun h166 => ?_)
    · exact absurd ones_zero h166
    · refine LW.aload_n (pc' := 170) C0 (q_d dL_law_2 14 rfl) rfl rfl 3 rfl ?_
      refine LW.iconst (pc' := 171) (v := nI 0) C0 (q_d dL_law_2 15 rfl) rfl (by decide) ?_
      refine LW.iconst (pc' := 172) (v := nI 0) C0 (q_d dL_law_2 16 rfl) rfl (by decide) ?_
      refine LW.callV (pc' := 175) C0 hK (q_d dL_law_2 17 rfl) rfl uX5_check wM_L_45 (hchk hX4) rfl rfl rfl (by decide) (Nat.le_of_ble_eq_true rfl) (fun v M5 q => ?_)
      obtain ⟨rfl, pa5, sw5, hX5⟩ := q
      replace hX5 : RX M5 (bb + 1) (sBelieve f 0) (pushK k) (pushW k was f) n t pa5 sw5 := hX5
      show LT p l e s m below meth c b D tc 175 [(4, .int (nI (f 2))), (3, .int (nI (f 1))), (2, .int (nI 1)), (1, .ref s.heap.size), (0, .ref b)] [.int (nI 4293967294)] M5
      refine LW.ldc (pc' := 177) (v := nI 4293967294) C0 (q_d dL_law_2 18 rfl) rfl wN_L_84 ?_
      refine LW.icmp_ne (tgt := 210) (pc' := 180) C0 (q_d dL_law_2 19 rfl) (by decide) rfl rfl ?_
      refine LW.aload_n (pc' := 181) C0 (q_d dL_law_2 20 rfl) rfl rfl 3 rfl ?_
      refine LW.callV (pc' := 184) C0 hK (q_d dL_law_2 21 rfl) rfl uX5_undo wM_L_85 (hund hX5) rfl rfl rfl (by decide) (Nat.le_of_ble_eq_true rfl) (fun v M6 q => ?_)
      obtain ⟨rfl, pa6, sw6, hX6⟩ := q
      replace hX6 : RX M6 (bb + 1) f (pushK k - 1) (pushW k was f) n t pa6 sw6 := hX6
      show LT p l e s m below meth c b D tc 184 [(4, .int (nI (f 2))), (3, .int (nI (f 1))), (2, .int (nI 1)), (1, .ref s.heap.size), (0, .ref b)] [.int (nI (pushK k - 1))] M6
      refine LW.if_lt (tgt := 210) (pc' := 187) C0 (q_d dL_law_2 22 rfl) (by decide) rfl (by omega) ?_
      refine LW.aload_n (pc' := 188) C0 (q_d dL_law_2 23 rfl) rfl rfl 3 rfl ?_
      refine LW.iconst (pc' := 189) (v := nI 3) C0 (q_d dL_law_2 24 rfl) rfl (by decide) ?_
      refine LW.callV (pc' := 192) C0 hK (q_d dL_law_2 25 rfl) rfl uX5_count wM_L_38 (c_cnt hX6 (by omega) (u := 3) (x := f 1) (by decide) rfl) rfl rfl rfl (by decide) (Nat.le_of_ble_eq_true rfl) (fun v M7 q => ?_)
      obtain ⟨rfl, pa7, sw7, hX7⟩ := q
      replace hX7 : RX M7 (bb + 1) f (pushK k - 1) (pushW k was f) n t pa7 sw7 := hX7
      show LT p l e s m below meth c b D tc 192 [(4, .int (nI (f 2))), (3, .int (nI (f 1))), (2, .int (nI 1)), (1, .ref s.heap.size), (0, .ref b)] [.int (nI (f 1))] M7
      refine LW.iload_n (pc' := 193) C0 (q_d dL_law_2 26 rfl) rfl rfl 1 rfl ?_
      refine LW.icmp_ne (tgt := 210) (pc' := 196) C0 (q_d dL_law_2 27 rfl) (by decide) rfl rfl ?_
      refine LW.aload_n (pc' := 197) C0 (q_d dL_law_2 28 rfl) rfl rfl 3 rfl ?_
      refine LW.iconst (pc' := 198) (v := nI 4) C0 (q_d dL_law_2 29 rfl) rfl (by decide) ?_
      refine LW.callV (pc' := 201) C0 hK (q_d dL_law_2 30 rfl) rfl uX5_count wM_L_38 (c_cnt hX7 (by omega) (u := 4) (x := f 2) (by decide) rfl) rfl rfl rfl (by decide) (Nat.le_of_ble_eq_true rfl) (fun v M8 q => ?_)
      obtain ⟨rfl, pa8, sw8, hX8⟩ := q
      show LT p l e s m below meth c b D tc 201 [(4, .int (nI (f 2))), (3, .int (nI (f 1))), (2, .int (nI 1)), (1, .ref s.heap.size), (0, .ref b)] [.int (nI (f 2))] M8
      refine LW.iload (pc' := 203) C0 (q_d dL_law_2 31 rfl) rfl 0 rfl ?_
      refine LW.icmp_ne (tgt := 210) (pc' := 206) C0 (q_d dL_law_2 32 rfl) (by decide) rfl rfl ?_
      refine LW.iconst (pc' := 207) (v := nI 1) C0 (q_d dL_law_2 33 rfl) rfl (by decide) ?_
      refine LW.goto (tgt := 211) C0 (q_d dL_law_2 34 rfl) (by decide) ?_
      exact LW.ret C0 (q_d dL_law_2 36 rfl)
theorem law_loop (C0 : lw_At p s m meth c b L xs) (hK : va_K D vwCl (qT tc) s) (hL9 : L ≤ 260) : ∀ d i (M : qM) (f : Nat → Nat) (k : Nat) (was : Nat → Nat → Nat) (n : Nat) (t pa : Nat → Nat) (sw : Bool), i + d = 16 → RX M (127 * i) f k was n t pa sw → IN f → 3 ≤ f 0 →
    LT p l e s m below meth c b D tc 77 [(3, .int (nI i)), (2, .int (nI 1)), (1, .ref s.heap.size), (0, .ref b)] [] M := by
  intro d
  induction d with
  | zero =>
    intro i M f k was n t pa sw hi hX hI h3
    have e : i = 16 := by omega
    subst e
    refine LW.iload_n (pc' := 78) C0 (q_d dL_law_1 5 rfl) rfl rfl 0 rfl ?_
    refine LW.bipush (pc' := 80) (v := nI 16) C0 (q_d dL_law_1 6 rfl) rfl (by decide) ?_
    refine LW.icmp_ge (tgt := 144) (pc' := 83) C0 (q_d dL_law_1 7 rfl) (by decide) rfl (by omega) (by omega) (fun h80 => ?_) (fun h80 => ?_)
    · exact law_end C0 hK (by decide) hX
    · exact absurd h80 (by decide)
  | succ d ih =>
    intro i M f k was n t pa sw hi hX hI h3
    have act : ∀ (y y4 : Nat), y < 2147483648 → LT p l e s m below meth c b D tc 119 [(4, .int (nI y4)), (3, .int (nI i)), (2, .int (nI 1)), (1, .ref s.heap.size), (0, .ref b)] [.int (nI y), .ref s.heap.size] M := by
      intro y y4 hy
      refine LW.callS (pc' := 122) C0 hK (q_d dL_law_1 29 rfl) rfl uL_acts wM_L_80 (c_acts (by omega) hX hI h3 hy) rfl rfl (by decide) (Nat.le_of_ble_eq_true rfl) (fun v M2 q => ?_)
      obtain ⟨rfl, f', k', was', hI', h3', pa2, sw2, hX2⟩ := q
      show LT p l e s m below meth c b D tc 122 [(4, .int (nI y4)), (3, .int (nI i)), (2, .int (nI 1)), (1, .ref s.heap.size), (0, .ref b)] [.int (nI 1)] M2
      refine LW.if_eq (tgt := 136) (pc' := 125) C0 (q_d dL_law_1 30 rfl) (by decide) rfl (by omega) (fun h122 => ?_) (fun h122 => ?_)
      · exact absurd h122 (by decide)
      · refine LW.aload_n (pc' := 126) C0 (q_d dL_law_1 31 rfl) rfl rfl 3 rfl ?_
        refine LW.callS (pc' := 129) C0 hK (q_d dL_law_1 32 rfl) rfl uL_holds wM_L_76 (c_holds (by omega) hX2 hI') rfl rfl (by decide) (Nat.le_of_ble_eq_true rfl) (fun v M3 q => ?_)
        obtain ⟨rfl, pa3, sw3, hX3⟩ := q
        replace hX3 : RX M3 (127 * i + 127) f' k' was' n t pa3 sw3 := hX3
        show LT p l e s m below meth c b D tc 129 [(4, .int (nI y4)), (3, .int (nI i)), (2, .int (nI 1)), (1, .ref s.heap.size), (0, .ref b)] [.int (nI 1)] M3
        refine LW.if_eq (tgt := 136) (pc' := 132) C0 (q_d dL_law_1 33 rfl) (by decide) rfl (by omega) (fun h129 => ?_) (fun h129 => ?_)
        · exact absurd h129 (by decide)
        · refine LW.iconst (pc' := 133) (v := nI 1) C0 (q_d dL_law_1 34 rfl) rfl (by decide) ?_
          refine LW.goto (tgt := 137) C0 (q_d dL_law_1 35 rfl) (by decide) ?_
          refine LW.istore_n (pc' := 138) (lv' := [(2, .int (nI 1)), (4, .int (nI y4)), (3, .int (nI i)), (1, .ref s.heap.size), (0, .ref b)]) C0 (q_d dL_law_1 37 rfl) rfl rfl (by decide) rfl ?_
          refine LW.iinc (pc' := 141) (j := 2) (lv' := [(3, .int (nI (i + 1))), (2, .int (nI 1)), (4, .int (nI y4)), (1, .ref s.heap.size), (0, .ref b)]) C0 (q_d dL_law_1 38 rfl) rfl rfl (nN_p i 1) (by decide) rfl ?_
          refine LW.goto (tgt := 77) C0 (q_d dL_law_1 39 rfl) (by decide) ?_
          refine LW.sub (lv' := [(3, .int (nI (i + 1))), (2, .int (nI 1)), (1, .ref s.heap.size), (0, .ref b)]) [0, 1, 3, 4] rfl ?_
          exact ih (i + 1) M3 f' k' was' n t pa3 sw3 (by omega) (by rw [show 127 * (i + 1) = 127 * i + 127 by omega]; exact hX3) hI' h3'
    refine LW.iload_n (pc' := 78) C0 (q_d dL_law_1 5 rfl) rfl rfl 0 rfl ?_
    refine LW.bipush (pc' := 80) (v := nI 16) C0 (q_d dL_law_1 6 rfl) rfl (by decide) ?_
    refine LW.icmp_ge (tgt := 144) (pc' := 83) C0 (q_d dL_law_1 7 rfl) (by decide) rfl (by omega) (by omega) (fun h80 => ?_) (fun h80 => ?_)
    · exact absurd h80 (by omega)
    · refine LW.iload_n (pc' := 84) C0 (q_d dL_law_1 8 rfl) rfl rfl 1 rfl ?_
      refine LW.if_eq (tgt := 144) (pc' := 87) C0 (q_d dL_law_1 9 rfl) (by decide) rfl (by omega) (fun h84 => ?_) (fun h84 => ?_)
      · exact absurd h84 (by decide)
      · refine LW.aload_n (pc' := 88) C0 (q_d dL_law_1 10 rfl) rfl rfl 3 rfl ?_
        refine LW.iconst (pc' := 89) (v := nI 3) C0 (q_d dL_law_1 11 rfl) rfl (by decide) ?_
        refine LW.iload_n (pc' := 90) C0 (q_d dL_law_1 12 rfl) rfl rfl 0 rfl ?_
        refine LW.iadd (pc' := 91) C0 (q_d dL_law_1 13 rfl) rfl (nI_add 3 i) ?_
        refine LW.cell (pc' := 94) C0 hL9 (show 3 + i < 1000 by omega) (q_d dL_law_1 14 rfl) rfl (Nat.le_of_ble_eq_true rfl) (fun y hy => ?_)
        refine LW.istore (pc' := 96) (lv' := [(4, .int (nI y)), (3, .int (nI i)), (2, .int (nI 1)), (1, .ref s.heap.size), (0, .ref b)]) C0 (q_d dL_law_1 15 rfl) rfl (by decide) rfl ?_
        refine LW.aload_n (pc' := 97) C0 (q_d dL_law_1 16 rfl) rfl rfl 3 rfl ?_
        refine LW.iload (pc' := 99) C0 (q_d dL_law_1 17 rfl) rfl 0 rfl ?_
        refine LW.bipush (pc' := 101) (v := nI 8) C0 (q_d dL_law_1 18 rfl) rfl (by decide) ?_
        refine LW.irem (pc' := 102) C0 (q_d dL_law_1 19 rfl) rfl (by decide) (pk_rem (by omega) (by decide) (by decide)) ?_
        refine LW.if_ne (tgt := 117) (pc' := 105) C0 (q_d dL_law_1 20 rfl) (by decide) rfl (by omega) (fun h102 => ?_) (fun h102 => ?_)
        · refine LW.iload (pc' := 119) C0 (q_d dL_law_1 28 rfl) rfl 0 rfl ?_
          first
          | exact act y y hy
          | exact act (y + 5) y (by omega)
        · refine LW.iload_n (pc' := 106) C0 (q_d dL_law_1 21 rfl) rfl rfl 1 rfl ?_
          refine LW.iconst (pc' := 107) (v := nI 5) C0 (q_d dL_law_1 22 rfl) rfl (by decide) ?_
          refine LW.icmp_le (tgt := 117) (pc' := 110) C0 (q_d dL_law_1 23 rfl) (by decide) rfl (by omega) (by omega) (fun h107 => ?_) (fun h107 => ?_)
          · refine LW.iload (pc' := 119) C0 (q_d dL_law_1 28 rfl) rfl 0 rfl ?_
            first
            | exact act y y hy
            | exact act (y + 5) y (by omega)
          · refine LW.iload (pc' := 112) C0 (q_d dL_law_1 24 rfl) rfl 0 rfl ?_
            refine LW.iconst (pc' := 113) (v := nI 5) C0 (q_d dL_law_1 25 rfl) rfl (by decide) ?_
            refine LW.iadd (pc' := 114) C0 (q_d dL_law_1 26 rfl) rfl (nI_add y 5) ?_
            refine LW.goto (tgt := 119) C0 (q_d dL_law_1 27 rfl) (by decide) ?_
            first
            | exact act y y hy
            | exact act (y + 5) y (by omega)
end LawWalk
theorem q_arrC {s : State} {A : Array Value} {ty : FieldType} (h : (Cond.arrayClass ty).before A s = true) : ∃ cA, ArrOfT s cA ty ∧ s.vm.findClass ("[" ++ ty.toString) = some cA := by
  obtain ⟨cA, kA, comp, h1, h2, h3⟩ := Cond.arrayClass_spec h
  exact ⟨cA, fun n z => ⟨(fun k h => by cases h), kA, h2, comp, h3⟩, h1⟩
theorem q_words {p : Program} {s : State} {m : MethodId} {meth : Method} {c : Code} {b L : Nat} {xs : Nat → Int32} (C0 : lw_At p s m meth c b L xs) : qN s ∧ ∃ (D : va_G) (tc : Nat → ClassId), va_K D vwCl (qT tc) s := by
  obtain ⟨hx, hb, hr, hml, hown, hts, hX, hbl, hlocks, hgv⟩ := id C0
  have hts9 : ∀ w ∈ WS, w.before #[.ref b] s = true := fun w h => hts w (List.mem_filter.mp h).1
  have o1 : (Cond.arrayOver (.object "BlindHunts$State")).before #[.ref b] s = true := hts _ (List.mem_of_getElem? (i := 82) (by decide +kernel))
  have o2 : (Cond.arrayOver (.array .int)).before #[.ref b] s = true := hts _ (List.mem_of_getElem? (i := 118) (by decide +kernel))
  have n1 : (Cond.methodLinkNest RX5 25 yX2_init "BlindHunts").before #[.ref b] s = true := hts _ (List.mem_of_getElem? (i := 85) (by decide +kernel))
  have n2 : (Cond.methodLinkNest RX5 32 yX1_init "BlindHunts").before #[.ref b] s = true := hts _ (List.mem_of_getElem? (i := 113) (by decide +kernel))
  have n3 : (Cond.methodLinkNest RX5 51 yX4_init "BlindHunts").before #[.ref b] s = true := hts _ (List.mem_of_getElem? (i := 164) (by decide +kernel))
  refine ⟨⟨va_AO.of o1, o2, va_Nw.of rfl n1, va_Nw.of rfl n2, va_Nw.of rfl n3⟩, ?_⟩
  obtain ⟨c0, i0, k0⟩ := u_known (C := RX0) (T := TX0) (N := 4) (n := 4) hts9 inX0 (hts9 _ wO_X0)
  obtain ⟨c1, i1, k1⟩ := u_known (C := RX1) (T := TX1) (N := 6) (n := 6) hts9 inX1 (hts9 _ wO_X1)
  obtain ⟨c2, i2, k2⟩ := u_known (C := RX2) (T := TX2) (N := 9) (n := 9) hts9 inX2 (hts9 _ wO_X2)
  obtain ⟨c3, i3, k3⟩ := u_known (C := RX3) (T := TX3) (N := 10) (n := 10) hts9 inX3 (hts9 _ wO_X3)
  obtain ⟨c4, i4, k4⟩ := u_known (C := RX4) (T := TX4) (N := 2) (n := 2) hts9 inX4 (hts9 _ wO_X4)
  obtain ⟨c5, i5, k5⟩ := u_known (C := RX5) (T := TX5) (N := 13) (n := 13) hts9 inX5 (hts9 _ wO_X5)
  obtain ⟨t0, a0, b0⟩ := q_arrC (hts9 _ wA_int)
  obtain ⟨t1, a1, b1⟩ := q_arrC (hts9 _ wA_boolean)
  obtain ⟨t2, a2, b2⟩ := q_arrC (hts9 _ wA_char)
  obtain ⟨t3, a3, b3⟩ := q_arrC (hts9 _ wA_long)
  obtain ⟨cm4, t4, kA4, p1, p2, p3, p4, p5⟩ := Cond.arrayOver_spec o1
  obtain ⟨cm5, t5, kA5, r1, r2, r3, r4, r5⟩ := arrayOverA_spec o2
  refine ⟨(fun k => [c0, c1, c2, c3, c4, c5].getD k c0, fun k => [i0, i1, i2, i3, i4, i5].getD k i0), fun k => [t0, t1, t2, t3, t4, t5].getD k t0, fun k q hq => ?_, fun k q hq => ?_⟩
  · match k, hq with
    | 0, hq => cases hq; exact k0
    | 1, hq => cases hq; exact k1
    | 2, hq => cases hq; exact k2
    | 3, hq => cases hq; exact k3
    | 4, hq => cases hq; exact k4
    | 5, hq => cases hq; exact k5
    | k + 6, hq => simp [vwCl] at hq
  · match k, hq with
    | 0, hq => cases hq; exact ⟨a0, b0⟩
    | 1, hq => cases hq; exact ⟨a1, b1⟩
    | 2, hq => cases hq; exact ⟨a2, b2⟩
    | 3, hq => cases hq; exact ⟨a3, b3⟩
    | 4, hq => cases hq; exact ⟨fun n z => ⟨(fun k h => by cases h), kA4, p3, cm4, p4⟩, kA4, cm4, p3, p4, p1, p5⟩
    | 5, hq => cases hq; exact ⟨fun n z => ⟨(fun k h => by cases h), kA5, r3, cm5, r4⟩, r5⟩
    | k + 6, hq => simp [qT] at hq
theorem hX_fs : ∀ j, j < 13 → ((qK 5)[j]? = some true ∧ defaultValue (tyX5 j) = .null) ∨ ((qK 5)[j]? = some false ∧ defaultValue (tyX5 j) = .int 0) := by decide +kernel
section LawStart
variable {p : Program} {l : Launch} {e : Env} {s : State} {m : MethodId} {below : List Frame} {meth : Method} {c : Code} {b L : Nat} {xs : Nat → Int32} {D : va_G} {tc : Nat → ClassId}
theorem law_begin (C0 : lw_At p s m meth c b L xs) (hK : va_K D vwCl (qT tc) s) (hL9 : L ≤ 260) : LT p l e s m below meth c b D tc 8 [(1, .ref s.heap.size), (0, .ref b)] [] (MM wiX wrX) := by
  have hX := RX_new (fun _ _ => 0) (fun _ => 0)
  have e0 : s00 0 = 0 := rfl
  refine LW.aload_n (pc' := 9) C0 (q_d dL_law_0 4 rfl) rfl rfl 0 rfl ?_
  refine LW.aload_n (pc' := 10) C0 (q_d dL_law_0 5 rfl) rfl rfl 1 rfl ?_
  refine LW.iconst (pc' := 11) (v := nI 0) C0 (q_d dL_law_0 6 rfl) rfl (by decide) ?_
  refine LW.cell (pc' := 14) C0 hL9 (by decide) (q_d dL_law_0 7 rfl) rfl (Nat.le_of_ble_eq_true rfl) (fun y0 hy0 => ?_)
  refine LW.iconst (pc' := 15) (v := nI 4) C0 (q_d dL_law_0 8 rfl) rfl (by decide) ?_
  refine LW.irem (pc' := 16) C0 (q_d dL_law_0 9 rfl) rfl (by decide) (pk_rem (by omega) (by decide) (by decide)) ?_
  refine LW.callV (pc' := 19) C0 hK (q_d dL_law_0 10 rfl) rfl uX5_place wM_L_54 (c_placeY hX (by decide) (show y0 % 4 ≤ 3 by omega)) rfl rfl rfl (by decide) (Nat.le_of_ble_eq_true rfl) (fun v M2 q => ?_)
  obtain ⟨rfl, pa2, sw2, hX2⟩ := q
  obtain ⟨f1, k1, was1, hX2, z1, n1, i1⟩ : ∃ f1 k1 was1, RX M2 0 f1 k1 was1 0 (fun _ => 0) pa2 sw2 ∧ (∀ x, 14 ≤ x → x < 28 → f1 x = 0) ∧ f1 0 = 1 ∧ IN f1 := ⟨sPlace s00 (y0 % 4), _, _, hX2, Z_place Z_00 (by decide), rfl, IN_00.place (by decide)⟩
  show LT p l e s m below meth c b D tc 19 [(1, .ref s.heap.size), (0, .ref b)] [.int (nI (s00 0))] M2
  refine LW.if_ne (tgt := 73) (pc' := 22) C0 (q_d dL_law_0 11 rfl) (by decide) rfl (by decide) (fun h19 => ?_) (fun h19 => ?_)
  · exact absurd e0 h19
  · refine LW.aload_n (pc' := 23) C0 (q_d dL_law_0 12 rfl) rfl rfl 0 rfl ?_
    refine LW.aload_n (pc' := 24) C0 (q_d dL_law_0 13 rfl) rfl rfl 1 rfl ?_
    refine LW.iconst (pc' := 25) (v := nI 1) C0 (q_d dL_law_0 14 rfl) rfl (by decide) ?_
    refine LW.cell (pc' := 28) C0 hL9 (by decide) (q_d dL_law_0 15 rfl) rfl (Nat.le_of_ble_eq_true rfl) (fun y1 hy1 => ?_)
    refine LW.iconst (pc' := 29) (v := nI 4) C0 (q_d dL_law_0 16 rfl) rfl (by decide) ?_
    refine LW.irem (pc' := 30) C0 (q_d dL_law_0 17 rfl) rfl (by decide) (pk_rem (by omega) (by decide) (by decide)) ?_
    refine LW.callV (pc' := 33) C0 hK (q_d dL_law_0 18 rfl) rfl uX5_place wM_L_54 (c_placeY hX2 (by omega) (show y1 % 4 ≤ 3 by omega)) rfl rfl rfl (by decide) (Nat.le_of_ble_eq_true rfl) (fun v M3 q => ?_)
    obtain ⟨rfl, pa3, sw3, hX3⟩ := q
    obtain ⟨f2, k2, was2, hX3, z2, n2, i2⟩ : ∃ f2 k2 was2, RX M3 0 f2 k2 was2 0 (fun _ => 0) pa3 sw3 ∧ (∀ x, 14 ≤ x → x < 28 → f2 x = 0) ∧ f2 0 = 2 ∧ IN f2 := ⟨sPlace f1 (y1 % 4), _, _, hX3, Z_place z1 (by omega), congrArg (· + 1) n1, i1.place (by omega)⟩
    show LT p l e s m below meth c b D tc 33 [(1, .ref s.heap.size), (0, .ref b)] [.int (nI (f1 0))] M3
    refine LW.iconst (pc' := 34) (v := nI 1) C0 (q_d dL_law_0 19 rfl) rfl (by decide) ?_
    refine LW.icmp_ne (tgt := 73) (pc' := 37) C0 (q_d dL_law_0 20 rfl) (by decide) rfl n1 ?_
    refine LW.aload_n (pc' := 38) C0 (q_d dL_law_0 21 rfl) rfl rfl 0 rfl ?_
    refine LW.aload_n (pc' := 39) C0 (q_d dL_law_0 22 rfl) rfl rfl 1 rfl ?_
    refine LW.iconst (pc' := 40) (v := nI 2) C0 (q_d dL_law_0 23 rfl) rfl (by decide) ?_
    refine LW.cell (pc' := 43) C0 hL9 (by decide) (q_d dL_law_0 24 rfl) rfl (Nat.le_of_ble_eq_true rfl) (fun y2 hy2 => ?_)
    refine LW.iconst (pc' := 44) (v := nI 4) C0 (q_d dL_law_0 25 rfl) rfl (by decide) ?_
    refine LW.irem (pc' := 45) C0 (q_d dL_law_0 26 rfl) rfl (by decide) (pk_rem (by omega) (by decide) (by decide)) ?_
    refine LW.callV (pc' := 48) C0 hK (q_d dL_law_0 27 rfl) rfl uX5_place wM_L_54 (c_placeY hX3 (by omega) (show y2 % 4 ≤ 3 by omega)) rfl rfl rfl (by decide) (Nat.le_of_ble_eq_true rfl) (fun v M4 q => ?_)
    obtain ⟨rfl, pa4, sw4, hX4⟩ := q
    obtain ⟨f3, k3, was3, hX4, z3, n3, i3⟩ : ∃ f3 k3 was3, RX M4 0 f3 k3 was3 0 (fun _ => 0) pa4 sw4 ∧ (∀ x, 14 ≤ x → x < 28 → f3 x = 0) ∧ f3 0 = 3 ∧ IN f3 := ⟨sPlace f2 (y2 % 4), _, _, hX4, Z_place z2 (by omega), congrArg (· + 1) n2, i2.place (by omega)⟩
    show LT p l e s m below meth c b D tc 48 [(1, .ref s.heap.size), (0, .ref b)] [.int (nI (f2 0))] M4
    refine LW.iconst (pc' := 49) (v := nI 2) C0 (q_d dL_law_0 28 rfl) rfl (by decide) ?_
    refine LW.icmp_ne (tgt := 73) (pc' := 52) C0 (q_d dL_law_0 29 rfl) (by decide) rfl n2 ?_
    refine LW.aload_n (pc' := 53) C0 (q_d dL_law_0 30 rfl) rfl rfl 0 rfl ?_
    refine LW.iconst (pc' := 54) (v := nI 0) C0 (q_d dL_law_0 31 rfl) rfl (by decide) ?_
    refine LW.iconst (pc' := 55) (v := nI 1) C0 (q_d dL_law_0 32 rfl) rfl (by decide) ?_
    refine LW.callV (pc' := 58) C0 hK (q_d dL_law_0 33 rfl) rfl uX5_road wM_L_58 (c_roadY hX4 (u := 0) (v := 1) (by omega) (by omega) ⟨by decide, by rw [z3 (14 + 0) (by decide) (by decide)]; decide⟩) rfl rfl rfl (by decide) (Nat.le_of_ble_eq_true rfl) (fun v M5 q => ?_)
    obtain ⟨rfl, pa5, sw5, hX5⟩ := q
    have er := Z_rd z3 (by omega)
    obtain ⟨f4, k4, was4, hX5, n4, i4⟩ : ∃ f4 k4 was4, RX M5 0 f4 k4 was4 0 (fun _ => 0) pa5 sw5 ∧ f4 0 = 3 ∧ IN f4 := ⟨sRoad f3 0 1, _, _, hX5, (sRoad_out (s := f3) (i := 0) (j := 1) (x := 0) (by decide)).trans n3, i3.road (by decide)⟩
    show LT p l e s m below meth c b D tc 58 [(1, .ref s.heap.size), (0, .ref b)] [.int (nI (rdN f3 14 + 1))] M5
    refine LW.iconst (pc' := 59) (v := nI 1) C0 (q_d dL_law_0 34 rfl) rfl (by decide) ?_
    refine LW.icmp_ne (tgt := 73) (pc' := 62) C0 (q_d dL_law_0 35 rfl) (by decide) rfl (by omega) ?_
    refine LW.aload_n (pc' := 63) C0 (q_d dL_law_0 36 rfl) rfl rfl 0 rfl ?_
    refine LW.callS (pc' := 66) C0 hK (q_d dL_law_0 37 rfl) rfl uL_holds wM_L_76 (c_holds (by decide) hX5 i4) rfl rfl (by decide) (Nat.le_of_ble_eq_true rfl) (fun v M6 q => ?_)
    obtain ⟨rfl, pa6, sw6, hX6⟩ := q
    replace hX6 : RX M6 0 f4 k4 was4 0 (fun _ => 0) pa6 sw6 := hX6
    show LT p l e s m below meth c b D tc 66 [(1, .ref s.heap.size), (0, .ref b)] [.int (nI 1)] M6
    refine LW.if_eq (tgt := 73) (pc' := 69) C0 (q_d dL_law_0 38 rfl) (by decide) rfl (by decide) (fun h66 => ?_) (fun h66 => ?_)
    · exact absurd h66 (by decide)
    · refine LW.iconst (pc' := 70) (v := nI 1) C0 (q_d dL_law_0 39 rfl) rfl (by decide) ?_
      refine LW.goto (tgt := 74) C0 (q_d dL_law_1 0 rfl) (by decide) ?_
      refine LW.istore_n (pc' := 75) (lv' := [(2, .int (nI 1)), (1, .ref s.heap.size), (0, .ref b)]) C0 (q_d dL_law_1 2 rfl) rfl rfl (by decide) rfl ?_
      refine LW.iconst (pc' := 76) (v := nI 0) C0 (q_d dL_law_1 3 rfl) rfl (by decide) ?_
      refine LW.istore_n (pc' := 77) (lv' := [(3, .int (nI 0)), (2, .int (nI 1)), (1, .ref s.heap.size), (0, .ref b)]) C0 (q_d dL_law_1 4 rfl) rfl rfl (by decide) rfl ?_
      exact law_loop C0 hK hL9 16 0 M6 f4 k4 was4 0 (fun _ => 0) pa6 sw6 (by decide) hX6 i4 (by omega)
theorem whole_start {p : Program} {e : Env} {s : State} {m : MethodId} {below : List Frame} {meth : Method} {c : Code} (l : Launch) (hflags : l.flags = flags0) {b L : Nat} {xs : Nat → Int32} (hL : L ≤ 260) (C0 : lw_At p s m meth c b L xs) : W p l e room_1 s m #[Value.ref b] below meth c s.heap [] 0 0 (lw_Z below #[Value.ref b] s) (entryFrame m ([Value.ref b] : List Value).toArray 5) := by
  obtain ⟨hx, hb, hr, hml, hown, hts, hX, hbl, hlocks, hgv⟩ := id C0
  obtain ⟨hN, D, tc, hK⟩ := q_words C0
  have hl := lv_entry ([.ref b]) (n := 5) (Nat.le_of_ble_eq_true rfl)
  rw [lg_entry_eq]
  generalize (lg_sl ([.ref b]) ++ List.replicate (5 - (lg_sl ([.ref b])).length) Slot.unset).toArray = ls at hl ⊢
  have hl : lv_has ls 5 [(0, .ref b)] := hl
  refine lw_make C0 hK hN (q_d dL_law_0 0 rfl) (q_d dL_law_0 1 rfl) (q_d dL_law_0 2 rfl) uX5_init wM_L_71 i_X5 rfl rfl inX5 tyX5 tyX5_ok wL_L_10 wO_X5 hX_fs hl.1 (by decide) (Nat.le_of_ble_eq_true rfl) rfl va_S.rf (fun v M1 H1 locs1 hq hP1 hS1 hz1 _ => ?_)
  obtain ⟨rfl, rfl⟩ := hq
  refine lv_astore_n (lv' := [(1, .ref s.heap.size), (0, .ref b)]) hx hb (q_d dL_law_0 3 rfl) rfl hl (by decide) rfl (fun ls hl => ?_)
  exact law_begin C0 hK hL H1 locs1 ls hS1 hP1 hl
end LawStart
