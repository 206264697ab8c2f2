/-! each call of the law, and its loop -/
section LawOps
variable {p : Program} {l : Launch} {e : Env} {s : State} {m : MethodId} {below : List Frame} {meth : Method} {c : Code} {b L : Nat} {xs : Nat → Int32} {D : va_G} {tc : Nat → ClassId} {i bb : Nat} {MX MQ : qM} {x : St}
abbrev RMs (b : Nat) (x : St) (M : qM) : Prop := RM M b x.1 x.2.1 x.2.2.1 x.2.2.2.1 x.2.2.2.2
theorem Ac.le {b b' : Nat} {x : St} {M : qM} (h : Ac b x M) (hb : b ≤ b') : Ac b' x M := by
  obtain ⟨pa, sw, q⟩ := h
  exact ⟨pa, sw, q.le hb⟩
theorem RMs.le {b b' : Nat} {x : St} {M : qM} (h : RMs b x M) (hb : b ≤ b') : RMs b' x M := RM.le h hb
theorem law_place (C0 : lw_At p s m meth c b L xs) (hK : va_K D vwCl (qT tc) s) (hL9 : L ≤ 2048) (hi : i + 4 ≤ L) (hb : bb + 120 < 2 ^ 30) (hX : Ac bb x MX) (hQ : RMs bb x MQ) (kk : ∀ (y : St) (MX' MQ' : qM), Ac (bb + 120) y MX' → RMs (bb + 120) y MQ' → LT p l e s m below meth c b D tc 744 [] i MX' MQ') : LT p l e s m below meth c b D tc 136 [] i MX MQ := by
  obtain ⟨pa, sw, hX⟩ := hX
  obtain ⟨u, hu, eu⟩ := nN_of (xs (i + 1))
  refine L1 C0 (q_d dL_law_0 22 rfl) ?_
  refine LA (j := 1) (by decide) C0 (q_d dL_law_0 23 rfl) (q_d dL_law_0 24 rfl) (q_d dL_law_0 25 rfl) (q_d dL_law_0 26 rfl) (q_d dL_law_0 27 rfl) (by omega) hL9 eu ?_
  refine LX C0 hK (q_d dL_law_0 28 rfl) uX5_place wM_L_13 (c_place hX hu) rfl rfl rfl (by decide) (Nat.le_of_ble_eq_true rfl) ?_
  rintro _ MX9 ⟨rfl, hX9⟩
  dsimp only [Option.map_some, qV, Option.toList, List.cons_append, List.nil_append]
  refine L2 C0 (q_d dL_law_0 29 rfl) ?_
  refine LA (j := 1) (by decide) C0 (q_d dL_law_0 30 rfl) (q_d dL_law_0 31 rfl) (q_d dL_law_0 32 rfl) (q_d dL_law_0 33 rfl) (q_d dL_law_0 34 rfl) (by omega) hL9 eu ?_
  refine LM C0 hK (q_d dL_law_0 35 rfl) uX6_place wM_L_17 (m_place hQ hu) rfl rfl rfl (by decide) (Nat.le_of_ble_eq_true rfl) ?_
  rintro _ MM9 ⟨rfl, hM9⟩
  dsimp only [Option.map_some, qV, Option.toList, List.cons_append, List.nil_append]
  refine LEQ C0 (q_d dL_law_0 36 rfl) (by decide) ?_
  exact kk _ _ _ (hX9.le (by omega)) (RMs.le hM9 (by omega))
theorem law_road (C0 : lw_At p s m meth c b L xs) (hK : va_K D vwCl (qT tc) s) (hL9 : L ≤ 2048) (hi : i + 4 ≤ L) (hb : bb + 120 < 2 ^ 30) (hX : Ac bb x MX) (hQ : RMs bb x MQ) (kk : ∀ (y : St) (MX' MQ' : qM), Ac (bb + 120) y MX' → RMs (bb + 120) y MQ' → LT p l e s m below meth c b D tc 744 [] i MX' MQ') : LT p l e s m below meth c b D tc 159 [] i MX MQ := by
  obtain ⟨pa, sw, hX⟩ := hX
  obtain ⟨u, hu, eu⟩ := nN_of (xs (i + 1))
  obtain ⟨v, hv, ev⟩ := nN_of (xs (i + 2))
  refine L1 C0 (q_d dL_law_0 39 rfl) ?_
  refine LA (j := 1) (by decide) C0 (q_d dL_law_1 0 rfl) (q_d dL_law_1 1 rfl) (q_d dL_law_1 2 rfl) (q_d dL_law_1 3 rfl) (q_d dL_law_1 4 rfl) (by omega) hL9 eu ?_
  refine LA (j := 2) (by decide) C0 (q_d dL_law_1 5 rfl) (q_d dL_law_1 6 rfl) (q_d dL_law_1 7 rfl) (q_d dL_law_1 8 rfl) (q_d dL_law_1 9 rfl) (by omega) hL9 ev ?_
  refine LX C0 hK (q_d dL_law_1 10 rfl) uX5_road wM_L_18 (c_road hX hu hv) rfl rfl rfl (by decide) (Nat.le_of_ble_eq_true rfl) ?_
  rintro _ MX9 ⟨rfl, hX9⟩
  dsimp only [Option.map_some, qV, Option.toList, List.cons_append, List.nil_append]
  refine L2 C0 (q_d dL_law_1 11 rfl) ?_
  refine LA (j := 1) (by decide) C0 (q_d dL_law_1 12 rfl) (q_d dL_law_1 13 rfl) (q_d dL_law_1 14 rfl) (q_d dL_law_1 15 rfl) (q_d dL_law_1 16 rfl) (by omega) hL9 eu ?_
  refine LA (j := 2) (by decide) C0 (q_d dL_law_1 17 rfl) (q_d dL_law_1 18 rfl) (q_d dL_law_1 19 rfl) (q_d dL_law_1 20 rfl) (q_d dL_law_1 21 rfl) (by omega) hL9 ev ?_
  refine LM C0 hK (q_d dL_law_1 22 rfl) uX6_road wM_L_22 (m_road hQ hu hv) rfl rfl rfl (by decide) (Nat.le_of_ble_eq_true rfl) ?_
  rintro _ MM9 ⟨rfl, hM9⟩
  dsimp only [Option.map_some, qV, Option.toList, List.cons_append, List.nil_append]
  refine LEQ C0 (q_d dL_law_1 23 rfl) (by decide) ?_
  exact kk _ _ _ (hX9.le (by omega)) (RMs.le hM9 (by omega))
theorem law_shut (C0 : lw_At p s m meth c b L xs) (hK : va_K D vwCl (qT tc) s) (hL9 : L ≤ 2048) (hi : i + 4 ≤ L) (hb : bb + 120 < 2 ^ 30) (hX : Ac bb x MX) (hQ : RMs bb x MQ) (kk : ∀ (y : St) (MX' MQ' : qM), Ac (bb + 120) y MX' → RMs (bb + 120) y MQ' → LT p l e s m below meth c b D tc 744 [] i MX' MQ') : LT p l e s m below meth c b D tc 192 [] i MX MQ := by
  obtain ⟨pa, sw, hX⟩ := hX
  obtain ⟨u, hu, eu⟩ := nN_of (xs (i + 1))
  obtain ⟨v, hv, ev⟩ := nN_of (xs (i + 2))
  obtain ⟨w, hw, ew⟩ := nN_of (xs (i + 3))
  refine L1 C0 (q_d dL_law_1 26 rfl) ?_
  refine LA (j := 1) (by decide) C0 (q_d dL_law_1 27 rfl) (q_d dL_law_1 28 rfl) (q_d dL_law_1 29 rfl) (q_d dL_law_1 30 rfl) (q_d dL_law_1 31 rfl) (by omega) hL9 eu ?_
  refine LA (j := 2) (by decide) C0 (q_d dL_law_1 32 rfl) (q_d dL_law_1 33 rfl) (q_d dL_law_1 34 rfl) (q_d dL_law_1 35 rfl) (q_d dL_law_1 36 rfl) (by omega) hL9 ev ?_
  refine LA (j := 3) (by decide) C0 (q_d dL_law_1 37 rfl) (q_d dL_law_1 38 rfl) (q_d dL_law_1 39 rfl) (q_d dL_law_2 0 rfl) (q_d dL_law_2 1 rfl) (by omega) hL9 ew ?_
  refine LX C0 hK (q_d dL_law_2 2 rfl) uX5_shut wM_L_23 (c_shut hX hu hv hw) rfl rfl rfl (by decide) (Nat.le_of_ble_eq_true rfl) ?_
  rintro _ MX9 ⟨rfl, hX9⟩
  dsimp only [Option.map_some, qV, Option.toList, List.cons_append, List.nil_append]
  refine L2 C0 (q_d dL_law_2 3 rfl) ?_
  refine LA (j := 1) (by decide) C0 (q_d dL_law_2 4 rfl) (q_d dL_law_2 5 rfl) (q_d dL_law_2 6 rfl) (q_d dL_law_2 7 rfl) (q_d dL_law_2 8 rfl) (by omega) hL9 eu ?_
  refine LA (j := 2) (by decide) C0 (q_d dL_law_2 9 rfl) (q_d dL_law_2 10 rfl) (q_d dL_law_2 11 rfl) (q_d dL_law_2 12 rfl) (q_d dL_law_2 13 rfl) (by omega) hL9 ev ?_
  refine LA (j := 3) (by decide) C0 (q_d dL_law_2 14 rfl) (q_d dL_law_2 15 rfl) (q_d dL_law_2 16 rfl) (q_d dL_law_2 17 rfl) (q_d dL_law_2 18 rfl) (by omega) hL9 ew ?_
  refine LM C0 hK (q_d dL_law_2 19 rfl) uX6_shut wM_L_27 (m_shut hQ hu hv hw) rfl rfl rfl (by decide) (Nat.le_of_ble_eq_true rfl) ?_
  rintro _ MM9 ⟨rfl, hM9⟩
  dsimp only [Option.map_some, qV, Option.toList, List.cons_append, List.nil_append]
  refine LEQ C0 (q_d dL_law_2 20 rfl) (by decide) ?_
  exact kk _ _ _ (hX9.le (by omega)) (RMs.le hM9 (by omega))
theorem law_set (C0 : lw_At p s m meth c b L xs) (hK : va_K D vwCl (qT tc) s) (hL9 : L ≤ 2048) (hi : i + 4 ≤ L) (hb : bb + 120 < 2 ^ 30) (hX : Ac bb x MX) (hQ : RMs bb x MQ) (kk : ∀ (y : St) (MX' MQ' : qM), Ac (bb + 120) y MX' → RMs (bb + 120) y MQ' → LT p l e s m below meth c b D tc 744 [] i MX' MQ') : LT p l e s m below meth c b D tc 235 [] i MX MQ := by
  obtain ⟨pa, sw, hX⟩ := hX
  obtain ⟨u, hu, eu⟩ := nN_of (xs (i + 1))
  obtain ⟨v, hv, ev⟩ := nN_of (xs (i + 2))
  refine L1 C0 (q_d dL_law_2 23 rfl) ?_
  refine LA (j := 1) (by decide) C0 (q_d dL_law_2 24 rfl) (q_d dL_law_2 25 rfl) (q_d dL_law_2 26 rfl) (q_d dL_law_2 27 rfl) (q_d dL_law_2 28 rfl) (by omega) hL9 eu ?_
  refine LA (j := 2) (by decide) C0 (q_d dL_law_2 29 rfl) (q_d dL_law_2 30 rfl) (q_d dL_law_2 31 rfl) (q_d dL_law_2 32 rfl) (q_d dL_law_2 33 rfl) (by omega) hL9 ev ?_
  refine LX C0 hK (q_d dL_law_2 34 rfl) uX5_set wM_L_28 (c_set hX hu hv) rfl rfl rfl (by decide) (Nat.le_of_ble_eq_true rfl) ?_
  rintro _ MX9 ⟨rfl, hX9⟩
  dsimp only [Option.map_some, qV, Option.toList, List.cons_append, List.nil_append]
  refine L2 C0 (q_d dL_law_2 35 rfl) ?_
  refine LA (j := 1) (by decide) C0 (q_d dL_law_2 36 rfl) (q_d dL_law_2 37 rfl) (q_d dL_law_2 38 rfl) (q_d dL_law_2 39 rfl) (q_d dL_law_3 0 rfl) (by omega) hL9 eu ?_
  refine LA (j := 2) (by decide) C0 (q_d dL_law_3 1 rfl) (q_d dL_law_3 2 rfl) (q_d dL_law_3 3 rfl) (q_d dL_law_3 4 rfl) (q_d dL_law_3 5 rfl) (by omega) hL9 ev ?_
  refine LM C0 hK (q_d dL_law_3 6 rfl) uX6_set wM_L_31 (m_set hQ hu hv) rfl rfl rfl (by decide) (Nat.le_of_ble_eq_true rfl) ?_
  rintro _ MM9 ⟨rfl, hM9⟩
  dsimp only [Option.map_some, qV, Option.toList, List.cons_append, List.nil_append]
  refine LEQ C0 (q_d dL_law_3 7 rfl) (by decide) ?_
  exact kk _ _ _ (hX9.le (by omega)) (RMs.le hM9 (by omega))
theorem law_believe (C0 : lw_At p s m meth c b L xs) (hK : va_K D vwCl (qT tc) s) (hL9 : L ≤ 2048) (hi : i + 4 ≤ L) (hb : bb + 120 < 2 ^ 30) (hX : Ac bb x MX) (hQ : RMs bb x MQ) (kk : ∀ (y : St) (MX' MQ' : qM), Ac (bb + 120) y MX' → RMs (bb + 120) y MQ' → LT p l e s m below meth c b D tc 744 [] i MX' MQ') : LT p l e s m below meth c b D tc 268 [] i MX MQ := by
  obtain ⟨pa, sw, hX⟩ := hX
  obtain ⟨u, hu, eu⟩ := nN_of (xs (i + 1))
  refine L1 C0 (q_d dL_law_3 10 rfl) ?_
  refine LA (j := 1) (by decide) C0 (q_d dL_law_3 11 rfl) (q_d dL_law_3 12 rfl) (q_d dL_law_3 13 rfl) (q_d dL_law_3 14 rfl) (q_d dL_law_3 15 rfl) (by omega) hL9 eu ?_
  refine LX C0 hK (q_d dL_law_3 16 rfl) uX5_believe wM_L_32 (c_believe hX hu) rfl rfl rfl (by decide) (Nat.le_of_ble_eq_true rfl) ?_
  rintro _ MX9 ⟨rfl, hX9⟩
  dsimp only [Option.map_some, qV, Option.toList, List.cons_append, List.nil_append]
  refine L2 C0 (q_d dL_law_3 17 rfl) ?_
  refine LA (j := 1) (by decide) C0 (q_d dL_law_3 18 rfl) (q_d dL_law_3 19 rfl) (q_d dL_law_3 20 rfl) (q_d dL_law_3 21 rfl) (q_d dL_law_3 22 rfl) (by omega) hL9 eu ?_
  refine LM C0 hK (q_d dL_law_3 23 rfl) uX6_believe wM_L_35 (m_believe hQ hu) rfl rfl rfl (by decide) (Nat.le_of_ble_eq_true rfl) ?_
  rintro _ MM9 ⟨rfl, hM9⟩
  dsimp only [Option.map_some, qV, Option.toList, List.cons_append, List.nil_append]
  refine LEQ C0 (q_d dL_law_3 24 rfl) (by decide) ?_
  exact kk _ _ _ (hX9.le (by omega)) (RMs.le hM9 (by omega))
theorem law_check (C0 : lw_At p s m meth c b L xs) (hK : va_K D vwCl (qT tc) s) (hL9 : L ≤ 2048) (hi : i + 4 ≤ L) (hb : bb + 120 < 2 ^ 30) (hX : Ac bb x MX) (hQ : RMs bb x MQ) (kk : ∀ (y : St) (MX' MQ' : qM), Ac (bb + 120) y MX' → RMs (bb + 120) y MQ' → LT p l e s m below meth c b D tc 744 [] i MX' MQ') : LT p l e s m below meth c b D tc 291 [] i MX MQ := by
  obtain ⟨pa, sw, hX⟩ := hX
  obtain ⟨u, hu, eu⟩ := nN_of (xs (i + 1))
  obtain ⟨v, hv, ev⟩ := nN_of (xs (i + 2))
  refine L1 C0 (q_d dL_law_3 27 rfl) ?_
  refine LA (j := 1) (by decide) C0 (q_d dL_law_3 28 rfl) (q_d dL_law_3 29 rfl) (q_d dL_law_3 30 rfl) (q_d dL_law_3 31 rfl) (q_d dL_law_3 32 rfl) (by omega) hL9 eu ?_
  refine LA (j := 2) (by decide) C0 (q_d dL_law_3 33 rfl) (q_d dL_law_3 34 rfl) (q_d dL_law_3 35 rfl) (q_d dL_law_3 36 rfl) (q_d dL_law_3 37 rfl) (by omega) hL9 ev ?_
  refine LX C0 hK (q_d dL_law_3 38 rfl) uX5_check wM_L_36 (c_check hX hu hv) rfl rfl rfl (by decide) (Nat.le_of_ble_eq_true rfl) ?_
  rintro _ MX9 ⟨rfl, hX9⟩
  dsimp only [Option.map_some, qV, Option.toList, List.cons_append, List.nil_append]
  refine L2 C0 (q_d dL_law_3 39 rfl) ?_
  refine LA (j := 1) (by decide) C0 (q_d dL_law_4 0 rfl) (q_d dL_law_4 1 rfl) (q_d dL_law_4 2 rfl) (q_d dL_law_4 3 rfl) (q_d dL_law_4 4 rfl) (by omega) hL9 eu ?_
  refine LA (j := 2) (by decide) C0 (q_d dL_law_4 5 rfl) (q_d dL_law_4 6 rfl) (q_d dL_law_4 7 rfl) (q_d dL_law_4 8 rfl) (q_d dL_law_4 9 rfl) (by omega) hL9 ev ?_
  refine LM C0 hK (q_d dL_law_4 10 rfl) uX6_check wM_L_39 (m_check hQ (by omega) hu hv) rfl rfl rfl (by decide) (Nat.le_of_ble_eq_true rfl) ?_
  rintro _ MM9 ⟨rfl, hM9⟩
  dsimp only [Option.map_some, qV, Option.toList, List.cons_append, List.nil_append]
  refine LEQ C0 (q_d dL_law_4 11 rfl) (by decide) ?_
  exact kk _ _ _ (hX9.le (by omega)) (RMs.le hM9 (by omega))
theorem law_placeOf (C0 : lw_At p s m meth c b L xs) (hK : va_K D vwCl (qT tc) s) (hL9 : L ≤ 2048) (hi : i + 4 ≤ L) (hb : bb + 120 < 2 ^ 30) (hX : Ac bb x MX) (hQ : RMs bb x MQ) (kk : ∀ (y : St) (MX' MQ' : qM), Ac (bb + 120) y MX' → RMs (bb + 120) y MQ' → LT p l e s m below meth c b D tc 744 [] i MX' MQ') : LT p l e s m below meth c b D tc 324 [] i MX MQ := by
  obtain ⟨pa, sw, hX⟩ := hX
  obtain ⟨u, hu, eu⟩ := nN_of (xs (i + 1))
  obtain ⟨v, hv, ev⟩ := nN_of (xs (i + 2))
  refine L1 C0 (q_d dL_law_4 14 rfl) ?_
  refine LA (j := 1) (by decide) C0 (q_d dL_law_4 15 rfl) (q_d dL_law_4 16 rfl) (q_d dL_law_4 17 rfl) (q_d dL_law_4 18 rfl) (q_d dL_law_4 19 rfl) (by omega) hL9 eu ?_
  refine LA (j := 2) (by decide) C0 (q_d dL_law_4 20 rfl) (q_d dL_law_4 21 rfl) (q_d dL_law_4 22 rfl) (q_d dL_law_4 23 rfl) (q_d dL_law_4 24 rfl) (by omega) hL9 ev ?_
  refine LX C0 hK (q_d dL_law_4 25 rfl) uX5_placeOf wM_L_40 (c_placeOf hX hu hv) rfl rfl rfl (by decide) (Nat.le_of_ble_eq_true rfl) ?_
  rintro _ MX9 ⟨rfl, hX9⟩
  dsimp only [Option.map_some, qV, Option.toList, List.cons_append, List.nil_append]
  refine L2 C0 (q_d dL_law_4 26 rfl) ?_
  refine LA (j := 1) (by decide) C0 (q_d dL_law_4 27 rfl) (q_d dL_law_4 28 rfl) (q_d dL_law_4 29 rfl) (q_d dL_law_4 30 rfl) (q_d dL_law_4 31 rfl) (by omega) hL9 eu ?_
  refine LA (j := 2) (by decide) C0 (q_d dL_law_4 32 rfl) (q_d dL_law_4 33 rfl) (q_d dL_law_4 34 rfl) (q_d dL_law_4 35 rfl) (q_d dL_law_4 36 rfl) (by omega) hL9 ev ?_
  refine LM C0 hK (q_d dL_law_4 37 rfl) uX6_placeOf wM_L_43 (m_placeOf hQ hu hv) rfl rfl rfl (by decide) (Nat.le_of_ble_eq_true rfl) ?_
  rintro _ MM9 ⟨rfl, hM9⟩
  dsimp only [Option.map_some, qV, Option.toList, List.cons_append, List.nil_append]
  refine LEQ C0 (q_d dL_law_4 38 rfl) (by decide) ?_
  exact kk _ _ _ (hX9.le (by omega)) (RMs.le hM9 (by omega))
theorem law_roundOf (C0 : lw_At p s m meth c b L xs) (hK : va_K D vwCl (qT tc) s) (hL9 : L ≤ 2048) (hi : i + 4 ≤ L) (hb : bb + 120 < 2 ^ 30) (hX : Ac bb x MX) (hQ : RMs bb x MQ) (kk : ∀ (y : St) (MX' MQ' : qM), Ac (bb + 120) y MX' → RMs (bb + 120) y MQ' → LT p l e s m below meth c b D tc 744 [] i MX' MQ') : LT p l e s m below meth c b D tc 357 [] i MX MQ := by
  obtain ⟨pa, sw, hX⟩ := hX
  obtain ⟨u, hu, eu⟩ := nN_of (xs (i + 1))
  obtain ⟨v, hv, ev⟩ := nN_of (xs (i + 2))
  refine L1 C0 (q_d dL_law_5 1 rfl) ?_
  refine LA (j := 1) (by decide) C0 (q_d dL_law_5 2 rfl) (q_d dL_law_5 3 rfl) (q_d dL_law_5 4 rfl) (q_d dL_law_5 5 rfl) (q_d dL_law_5 6 rfl) (by omega) hL9 eu ?_
  refine LA (j := 2) (by decide) C0 (q_d dL_law_5 7 rfl) (q_d dL_law_5 8 rfl) (q_d dL_law_5 9 rfl) (q_d dL_law_5 10 rfl) (q_d dL_law_5 11 rfl) (by omega) hL9 ev ?_
  refine LX C0 hK (q_d dL_law_5 12 rfl) uX5_roundOf wM_L_44 (c_roundOf hX (by omega) hu hv) rfl rfl rfl (by decide) (Nat.le_of_ble_eq_true rfl) ?_
  rintro _ MX9 ⟨rfl, hX9⟩
  dsimp only [Option.map_some, qV, Option.toList, List.cons_append, List.nil_append]
  refine L2 C0 (q_d dL_law_5 13 rfl) ?_
  refine LA (j := 1) (by decide) C0 (q_d dL_law_5 14 rfl) (q_d dL_law_5 15 rfl) (q_d dL_law_5 16 rfl) (q_d dL_law_5 17 rfl) (q_d dL_law_5 18 rfl) (by omega) hL9 eu ?_
  refine LA (j := 2) (by decide) C0 (q_d dL_law_5 19 rfl) (q_d dL_law_5 20 rfl) (q_d dL_law_5 21 rfl) (q_d dL_law_5 22 rfl) (q_d dL_law_5 23 rfl) (by omega) hL9 ev ?_
  refine LM C0 hK (q_d dL_law_5 24 rfl) uX6_roundOf wM_L_47 (m_roundOf hQ (by omega) hu hv) rfl rfl rfl (by decide) (Nat.le_of_ble_eq_true rfl) ?_
  rintro _ MM9 ⟨rfl, hM9⟩
  dsimp only [Option.map_some, qV, Option.toList, List.cons_append, List.nil_append]
  refine LEQ C0 (q_d dL_law_5 25 rfl) (by decide) ?_
  exact kk _ _ _ (hX9.le (by omega)) (RMs.le hM9 (by omega))
theorem law_behind (C0 : lw_At p s m meth c b L xs) (hK : va_K D vwCl (qT tc) s) (hL9 : L ≤ 2048) (hi : i + 4 ≤ L) (hb : bb + 120 < 2 ^ 30) (hX : Ac bb x MX) (hQ : RMs bb x MQ) (kk : ∀ (y : St) (MX' MQ' : qM), Ac (bb + 120) y MX' → RMs (bb + 120) y MQ' → LT p l e s m below meth c b D tc 744 [] i MX' MQ') : LT p l e s m below meth c b D tc 390 [] i MX MQ := by
  obtain ⟨pa, sw, hX⟩ := hX
  obtain ⟨u, hu, eu⟩ := nN_of (xs (i + 1))
  obtain ⟨v, hv, ev⟩ := nN_of (xs (i + 2))
  obtain ⟨w, hw, ew⟩ := nN_of (xs (i + 3))
  refine L1 C0 (q_d dL_law_5 28 rfl) ?_
  refine LA (j := 1) (by decide) C0 (q_d dL_law_5 29 rfl) (q_d dL_law_5 30 rfl) (q_d dL_law_5 31 rfl) (q_d dL_law_5 32 rfl) (q_d dL_law_5 33 rfl) (by omega) hL9 eu ?_
  refine LA (j := 2) (by decide) C0 (q_d dL_law_5 34 rfl) (q_d dL_law_5 35 rfl) (q_d dL_law_5 36 rfl) (q_d dL_law_5 37 rfl) (q_d dL_law_5 38 rfl) (by omega) hL9 ev ?_
  refine LA (j := 3) (by decide) C0 (q_d dL_law_5 39 rfl) (q_d dL_law_6 0 rfl) (q_d dL_law_6 1 rfl) (q_d dL_law_6 2 rfl) (q_d dL_law_6 3 rfl) (by omega) hL9 ew ?_
  refine LX C0 hK (q_d dL_law_6 4 rfl) uX5_behind wM_L_48 (c_behind hX hu hv hw) rfl rfl rfl (by decide) (Nat.le_of_ble_eq_true rfl) ?_
  rintro _ MX9 ⟨rfl, hX9⟩
  dsimp only [Option.map_some, qV, Option.toList, List.cons_append, List.nil_append]
  refine L2 C0 (q_d dL_law_6 5 rfl) ?_
  refine LA (j := 1) (by decide) C0 (q_d dL_law_6 6 rfl) (q_d dL_law_6 7 rfl) (q_d dL_law_6 8 rfl) (q_d dL_law_6 9 rfl) (q_d dL_law_6 10 rfl) (by omega) hL9 eu ?_
  refine LA (j := 2) (by decide) C0 (q_d dL_law_6 11 rfl) (q_d dL_law_6 12 rfl) (q_d dL_law_6 13 rfl) (q_d dL_law_6 14 rfl) (q_d dL_law_6 15 rfl) (by omega) hL9 ev ?_
  refine LA (j := 3) (by decide) C0 (q_d dL_law_6 16 rfl) (q_d dL_law_6 17 rfl) (q_d dL_law_6 18 rfl) (q_d dL_law_6 19 rfl) (q_d dL_law_6 20 rfl) (by omega) hL9 ew ?_
  refine LM C0 hK (q_d dL_law_6 21 rfl) uX6_behind wM_L_51 (m_behind hQ hu hv hw) rfl rfl rfl (by decide) (Nat.le_of_ble_eq_true rfl) ?_
  rintro _ MM9 ⟨rfl, hM9⟩
  dsimp only [Option.map_some, qV, Option.toList, List.cons_append, List.nil_append]
  refine LEQ C0 (q_d dL_law_6 22 rfl) (by decide) ?_
  exact kk _ _ _ (hX9.le (by omega)) (RMs.le hM9 (by omega))
theorem law_sure (C0 : lw_At p s m meth c b L xs) (hK : va_K D vwCl (qT tc) s) (hL9 : L ≤ 2048) (hi : i + 4 ≤ L) (hb : bb + 120 < 2 ^ 30) (hX : Ac bb x MX) (hQ : RMs bb x MQ) (kk : ∀ (y : St) (MX' MQ' : qM), Ac (bb + 120) y MX' → RMs (bb + 120) y MQ' → LT p l e s m below meth c b D tc 744 [] i MX' MQ') : LT p l e s m below meth c b D tc 433 [] i MX MQ := by
  obtain ⟨pa, sw, hX⟩ := hX
  obtain ⟨u, hu, eu⟩ := nN_of (xs (i + 1))
  obtain ⟨v, hv, ev⟩ := nN_of (xs (i + 2))
  refine L1 C0 (q_d dL_law_6 25 rfl) ?_
  refine LA (j := 1) (by decide) C0 (q_d dL_law_6 26 rfl) (q_d dL_law_6 27 rfl) (q_d dL_law_6 28 rfl) (q_d dL_law_6 29 rfl) (q_d dL_law_6 30 rfl) (by omega) hL9 eu ?_
  refine LA (j := 2) (by decide) C0 (q_d dL_law_6 31 rfl) (q_d dL_law_6 32 rfl) (q_d dL_law_6 33 rfl) (q_d dL_law_6 34 rfl) (q_d dL_law_6 35 rfl) (by omega) hL9 ev ?_
  refine LX C0 hK (q_d dL_law_6 36 rfl) uX5_sure wM_L_52 (c_sure hX hu hv) rfl rfl rfl (by decide) (Nat.le_of_ble_eq_true rfl) ?_
  rintro _ MX9 ⟨rfl, hX9⟩
  dsimp only [Option.map_some, qV, Option.toList, List.cons_append, List.nil_append]
  refine L2 C0 (q_d dL_law_6 37 rfl) ?_
  refine LA (j := 1) (by decide) C0 (q_d dL_law_6 38 rfl) (q_d dL_law_6 39 rfl) (q_d dL_law_7 0 rfl) (q_d dL_law_7 1 rfl) (q_d dL_law_7 2 rfl) (by omega) hL9 eu ?_
  refine LA (j := 2) (by decide) C0 (q_d dL_law_7 3 rfl) (q_d dL_law_7 4 rfl) (q_d dL_law_7 5 rfl) (q_d dL_law_7 6 rfl) (q_d dL_law_7 7 rfl) (by omega) hL9 ev ?_
  refine LM C0 hK (q_d dL_law_7 8 rfl) uX6_sure wM_L_55 (m_sure hQ hu hv) rfl rfl rfl (by decide) (Nat.le_of_ble_eq_true rfl) ?_
  rintro _ MM9 ⟨rfl, hM9⟩
  dsimp only [Option.map_some, qV, Option.toList, List.cons_append, List.nil_append]
  refine LEQ C0 (q_d dL_law_7 9 rfl) (by decide) ?_
  exact kk _ _ _ (hX9.le (by omega)) (RMs.le hM9 (by omega))
theorem law_deaf (C0 : lw_At p s m meth c b L xs) (hK : va_K D vwCl (qT tc) s) (hL9 : L ≤ 2048) (hi : i + 4 ≤ L) (hb : bb + 120 < 2 ^ 30) (hX : Ac bb x MX) (hQ : RMs bb x MQ) (kk : ∀ (y : St) (MX' MQ' : qM), Ac (bb + 120) y MX' → RMs (bb + 120) y MQ' → LT p l e s m below meth c b D tc 744 [] i MX' MQ') : LT p l e s m below meth c b D tc 466 [] i MX MQ := by
  obtain ⟨pa, sw, hX⟩ := hX
  obtain ⟨u, hu, eu⟩ := nN_of (xs (i + 1))
  refine L1 C0 (q_d dL_law_7 12 rfl) ?_
  refine LA (j := 1) (by decide) C0 (q_d dL_law_7 13 rfl) (q_d dL_law_7 14 rfl) (q_d dL_law_7 15 rfl) (q_d dL_law_7 16 rfl) (q_d dL_law_7 17 rfl) (by omega) hL9 eu ?_
  refine LX C0 hK (q_d dL_law_7 18 rfl) uX5_deaf wM_L_56 (c_deaf hX hu) rfl rfl rfl (by decide) (Nat.le_of_ble_eq_true rfl) ?_
  rintro _ MX9 ⟨rfl, hX9⟩
  dsimp only [Option.map_some, qV, Option.toList, List.cons_append, List.nil_append]
  refine L2 C0 (q_d dL_law_7 19 rfl) ?_
  refine LA (j := 1) (by decide) C0 (q_d dL_law_7 20 rfl) (q_d dL_law_7 21 rfl) (q_d dL_law_7 22 rfl) (q_d dL_law_7 23 rfl) (q_d dL_law_7 24 rfl) (by omega) hL9 eu ?_
  refine LM C0 hK (q_d dL_law_7 25 rfl) uX6_deaf wM_L_59 (m_deaf hQ hu) rfl rfl rfl (by decide) (Nat.le_of_ble_eq_true rfl) ?_
  rintro _ MM9 ⟨rfl, hM9⟩
  dsimp only [Option.map_some, qV, Option.toList, List.cons_append, List.nil_append]
  refine LEQ C0 (q_d dL_law_7 26 rfl) (by decide) ?_
  exact kk _ _ _ (hX9.le (by omega)) (RMs.le hM9 (by omega))
theorem law_memory (C0 : lw_At p s m meth c b L xs) (hK : va_K D vwCl (qT tc) s) (hL9 : L ≤ 2048) (hi : i + 4 ≤ L) (hb : bb + 120 < 2 ^ 30) (hX : Ac bb x MX) (hQ : RMs bb x MQ) (kk : ∀ (y : St) (MX' MQ' : qM), Ac (bb + 120) y MX' → RMs (bb + 120) y MQ' → LT p l e s m below meth c b D tc 744 [] i MX' MQ') : LT p l e s m below meth c b D tc 489 [] i MX MQ := by
  obtain ⟨pa, sw, hX⟩ := hX
  obtain ⟨u, hu, eu⟩ := nN_of (xs (i + 1))
  refine L1 C0 (q_d dL_law_7 29 rfl) ?_
  refine LA (j := 1) (by decide) C0 (q_d dL_law_7 30 rfl) (q_d dL_law_7 31 rfl) (q_d dL_law_7 32 rfl) (q_d dL_law_7 33 rfl) (q_d dL_law_7 34 rfl) (by omega) hL9 eu ?_
  refine LX C0 hK (q_d dL_law_7 35 rfl) uX5_memory wM_L_60 (c_memory hX hu) rfl rfl rfl (by decide) (Nat.le_of_ble_eq_true rfl) ?_
  rintro _ MX9 ⟨rfl, hX9⟩
  dsimp only [Option.map_some, qV, Option.toList, List.cons_append, List.nil_append]
  refine L2 C0 (q_d dL_law_7 36 rfl) ?_
  refine LA (j := 1) (by decide) C0 (q_d dL_law_7 37 rfl) (q_d dL_law_7 38 rfl) (q_d dL_law_7 39 rfl) (q_d dL_law_8 0 rfl) (q_d dL_law_8 1 rfl) (by omega) hL9 eu ?_
  refine LM C0 hK (q_d dL_law_8 2 rfl) uX6_memory wM_L_63 (m_memory hQ hu) rfl rfl rfl (by decide) (Nat.le_of_ble_eq_true rfl) ?_
  rintro _ MM9 ⟨rfl, hM9⟩
  dsimp only [Option.map_some, qV, Option.toList, List.cons_append, List.nil_append]
  refine LEQ C0 (q_d dL_law_8 3 rfl) (by decide) ?_
  exact kk _ _ _ (hX9.le (by omega)) (RMs.le hM9 (by omega))
theorem law_beliefs (C0 : lw_At p s m meth c b L xs) (hK : va_K D vwCl (qT tc) s) (hL9 : L ≤ 2048) (hi : i + 4 ≤ L) (hb : bb + 120 < 2 ^ 30) (hX : Ac bb x MX) (hQ : RMs bb x MQ) (kk : ∀ (y : St) (MX' MQ' : qM), Ac (bb + 120) y MX' → RMs (bb + 120) y MQ' → LT p l e s m below meth c b D tc 744 [] i MX' MQ') : LT p l e s m below meth c b D tc 512 [] i MX MQ := by
  obtain ⟨pa, sw, hX⟩ := hX
  obtain ⟨u, hu, eu⟩ := nN_of (xs (i + 1))
  refine L1 C0 (q_d dL_law_8 6 rfl) ?_
  refine LA (j := 1) (by decide) C0 (q_d dL_law_8 7 rfl) (q_d dL_law_8 8 rfl) (q_d dL_law_8 9 rfl) (q_d dL_law_8 10 rfl) (q_d dL_law_8 11 rfl) (by omega) hL9 eu ?_
  refine LX C0 hK (q_d dL_law_8 12 rfl) uX5_beliefs wM_L_64 (c_beliefs hX hu) rfl rfl rfl (by decide) (Nat.le_of_ble_eq_true rfl) ?_
  rintro _ MX9 ⟨rfl, hX9⟩
  dsimp only [Option.map_some, qV, Option.toList, List.cons_append, List.nil_append]
  refine L2 C0 (q_d dL_law_8 13 rfl) ?_
  refine LA (j := 1) (by decide) C0 (q_d dL_law_8 14 rfl) (q_d dL_law_8 15 rfl) (q_d dL_law_8 16 rfl) (q_d dL_law_8 17 rfl) (q_d dL_law_8 18 rfl) (by omega) hL9 eu ?_
  refine LM C0 hK (q_d dL_law_8 19 rfl) uX6_beliefs wM_L_67 (m_beliefs hQ hu) rfl rfl rfl (by decide) (Nat.le_of_ble_eq_true rfl) ?_
  rintro _ MM9 ⟨rfl, hM9⟩
  dsimp only [Option.map_some, qV, Option.toList, List.cons_append, List.nil_append]
  refine LEQ C0 (q_d dL_law_8 20 rfl) (by decide) ?_
  exact kk _ _ _ (hX9.le (by omega)) (RMs.le hM9 (by omega))
theorem law_dangers (C0 : lw_At p s m meth c b L xs) (hK : va_K D vwCl (qT tc) s) (hL9 : L ≤ 2048) (hi : i + 4 ≤ L) (hb : bb + 120 < 2 ^ 30) (hX : Ac bb x MX) (hQ : RMs bb x MQ) (kk : ∀ (y : St) (MX' MQ' : qM), Ac (bb + 120) y MX' → RMs (bb + 120) y MQ' → LT p l e s m below meth c b D tc 744 [] i MX' MQ') : LT p l e s m below meth c b D tc 535 [] i MX MQ := by
  obtain ⟨pa, sw, hX⟩ := hX
  obtain ⟨u, hu, eu⟩ := nN_of (xs (i + 1))
  refine L1 C0 (q_d dL_law_8 23 rfl) ?_
  refine LA (j := 1) (by decide) C0 (q_d dL_law_8 24 rfl) (q_d dL_law_8 25 rfl) (q_d dL_law_8 26 rfl) (q_d dL_law_8 27 rfl) (q_d dL_law_8 28 rfl) (by omega) hL9 eu ?_
  refine LX C0 hK (q_d dL_law_8 29 rfl) uX5_dangers wM_L_68 (c_dangers hX hu) rfl rfl rfl (by decide) (Nat.le_of_ble_eq_true rfl) ?_
  rintro _ MX9 ⟨rfl, hX9⟩
  dsimp only [Option.map_some, qV, Option.toList, List.cons_append, List.nil_append]
  refine L2 C0 (q_d dL_law_8 30 rfl) ?_
  refine LA (j := 1) (by decide) C0 (q_d dL_law_8 31 rfl) (q_d dL_law_8 32 rfl) (q_d dL_law_8 33 rfl) (q_d dL_law_8 34 rfl) (q_d dL_law_8 35 rfl) (by omega) hL9 eu ?_
  refine LM C0 hK (q_d dL_law_8 36 rfl) uX6_dangers wM_L_71 (m_dangers hQ hu) rfl rfl rfl (by decide) (Nat.le_of_ble_eq_true rfl) ?_
  rintro _ MM9 ⟨rfl, hM9⟩
  dsimp only [Option.map_some, qV, Option.toList, List.cons_append, List.nil_append]
  refine LEQ C0 (q_d dL_law_8 37 rfl) (by decide) ?_
  exact kk _ _ _ (hX9.le (by omega)) (RMs.le hM9 (by omega))
theorem law_ways (C0 : lw_At p s m meth c b L xs) (hK : va_K D vwCl (qT tc) s) (hL9 : L ≤ 2048) (hi : i + 4 ≤ L) (hb : bb + 120 < 2 ^ 30) (hX : Ac bb x MX) (hQ : RMs bb x MQ) (kk : ∀ (y : St) (MX' MQ' : qM), Ac (bb + 120) y MX' → RMs (bb + 120) y MQ' → LT p l e s m below meth c b D tc 744 [] i MX' MQ') : LT p l e s m below meth c b D tc 558 [] i MX MQ := by
  obtain ⟨pa, sw, hX⟩ := hX
  obtain ⟨u, hu, eu⟩ := nN_of (xs (i + 1))
  obtain ⟨v, hv, ev⟩ := nN_of (xs (i + 2))
  refine L1 C0 (q_d dL_law_9 0 rfl) ?_
  refine LA (j := 1) (by decide) C0 (q_d dL_law_9 1 rfl) (q_d dL_law_9 2 rfl) (q_d dL_law_9 3 rfl) (q_d dL_law_9 4 rfl) (q_d dL_law_9 5 rfl) (by omega) hL9 eu ?_
  refine LA (j := 2) (by decide) C0 (q_d dL_law_9 6 rfl) (q_d dL_law_9 7 rfl) (q_d dL_law_9 8 rfl) (q_d dL_law_9 9 rfl) (q_d dL_law_9 10 rfl) (by omega) hL9 ev ?_
  refine LX C0 hK (q_d dL_law_9 11 rfl) uX5_ways wM_L_72 (c_ways hX hu hv) rfl rfl rfl (by decide) (Nat.le_of_ble_eq_true rfl) ?_
  rintro _ MX9 ⟨rfl, hX9⟩
  dsimp only [Option.map_some, qV, Option.toList, List.cons_append, List.nil_append]
  refine L2 C0 (q_d dL_law_9 12 rfl) ?_
  refine LA (j := 1) (by decide) C0 (q_d dL_law_9 13 rfl) (q_d dL_law_9 14 rfl) (q_d dL_law_9 15 rfl) (q_d dL_law_9 16 rfl) (q_d dL_law_9 17 rfl) (by omega) hL9 eu ?_
  refine LA (j := 2) (by decide) C0 (q_d dL_law_9 18 rfl) (q_d dL_law_9 19 rfl) (q_d dL_law_9 20 rfl) (q_d dL_law_9 21 rfl) (q_d dL_law_9 22 rfl) (by omega) hL9 ev ?_
  refine LM C0 hK (q_d dL_law_9 23 rfl) uX6_ways wM_L_76 (m_ways hQ hu hv) rfl rfl rfl (by decide) (Nat.le_of_ble_eq_true rfl) ?_
  rintro _ MM9 ⟨rfl, hM9⟩
  dsimp only [Option.map_some, qV, Option.toList, List.cons_append, List.nil_append]
  refine LEQL C0 (q_d dL_law_9 24 rfl) (q_d dL_law_9 25 rfl) (by decide) ?_
  exact kk _ _ _ (hX9.le (by omega)) (RMs.le hM9 (by omega))
theorem law_met (C0 : lw_At p s m meth c b L xs) (hK : va_K D vwCl (qT tc) s) (hL9 : L ≤ 2048) (hi : i + 4 ≤ L) (hb : bb + 120 < 2 ^ 30) (hX : Ac bb x MX) (hQ : RMs bb x MQ) (kk : ∀ (y : St) (MX' MQ' : qM), Ac (bb + 120) y MX' → RMs (bb + 120) y MQ' → LT p l e s m below meth c b D tc 744 [] i MX' MQ') : LT p l e s m below meth c b D tc 592 [] i MX MQ := by
  obtain ⟨pa, sw, hX⟩ := hX
  obtain ⟨u, hu, eu⟩ := nN_of (xs (i + 1))
  obtain ⟨v, hv, ev⟩ := nN_of (xs (i + 2))
  obtain ⟨w, hw, ew⟩ := nN_of (xs (i + 3))
  refine L1 C0 (q_d dL_law_9 28 rfl) ?_
  refine LA (j := 1) (by decide) C0 (q_d dL_law_9 29 rfl) (q_d dL_law_9 30 rfl) (q_d dL_law_9 31 rfl) (q_d dL_law_9 32 rfl) (q_d dL_law_9 33 rfl) (by omega) hL9 eu ?_
  refine LA (j := 2) (by decide) C0 (q_d dL_law_9 34 rfl) (q_d dL_law_9 35 rfl) (q_d dL_law_9 36 rfl) (q_d dL_law_9 37 rfl) (q_d dL_law_9 38 rfl) (by omega) hL9 ev ?_
  refine LA (j := 3) (by decide) C0 (q_d dL_law_9 39 rfl) (q_d dL_law_10 0 rfl) (q_d dL_law_10 1 rfl) (q_d dL_law_10 2 rfl) (q_d dL_law_10 3 rfl) (by omega) hL9 ew ?_
  refine LX C0 hK (q_d dL_law_10 4 rfl) uX5_met wM_L_77 (c_met hX hu hv hw) rfl rfl rfl (by decide) (Nat.le_of_ble_eq_true rfl) ?_
  rintro _ MX9 ⟨rfl, hX9⟩
  dsimp only [Option.map_some, qV, Option.toList, List.cons_append, List.nil_append]
  refine L2 C0 (q_d dL_law_10 5 rfl) ?_
  refine LA (j := 1) (by decide) C0 (q_d dL_law_10 6 rfl) (q_d dL_law_10 7 rfl) (q_d dL_law_10 8 rfl) (q_d dL_law_10 9 rfl) (q_d dL_law_10 10 rfl) (by omega) hL9 eu ?_
  refine LA (j := 2) (by decide) C0 (q_d dL_law_10 11 rfl) (q_d dL_law_10 12 rfl) (q_d dL_law_10 13 rfl) (q_d dL_law_10 14 rfl) (q_d dL_law_10 15 rfl) (by omega) hL9 ev ?_
  refine LA (j := 3) (by decide) C0 (q_d dL_law_10 16 rfl) (q_d dL_law_10 17 rfl) (q_d dL_law_10 18 rfl) (q_d dL_law_10 19 rfl) (q_d dL_law_10 20 rfl) (by omega) hL9 ew ?_
  refine LM C0 hK (q_d dL_law_10 21 rfl) uX6_met wM_L_81 (m_met hQ hu hv hw) rfl rfl rfl (by decide) (Nat.le_of_ble_eq_true rfl) ?_
  rintro _ MM9 ⟨rfl, hM9⟩
  dsimp only [Option.map_some, qV, Option.toList, List.cons_append, List.nil_append]
  refine LEQL C0 (q_d dL_law_10 22 rfl) (q_d dL_law_10 23 rfl) (by decide) ?_
  exact kk _ _ _ (hX9.le (by omega)) (RMs.le hM9 (by omega))
theorem law_count (C0 : lw_At p s m meth c b L xs) (hK : va_K D vwCl (qT tc) s) (hL9 : L ≤ 2048) (hi : i + 4 ≤ L) (hb : bb + 120 < 2 ^ 30) (hX : Ac bb x MX) (hQ : RMs bb x MQ) (kk : ∀ (y : St) (MX' MQ' : qM), Ac (bb + 120) y MX' → RMs (bb + 120) y MQ' → LT p l e s m below meth c b D tc 744 [] i MX' MQ') : LT p l e s m below meth c b D tc 636 [] i MX MQ := by
  obtain ⟨pa, sw, hX⟩ := hX
  obtain ⟨u, hu, eu⟩ := nN_of (xs (i + 1))
  refine L1 C0 (q_d dL_law_10 26 rfl) ?_
  refine LA (j := 1) (by decide) C0 (q_d dL_law_10 27 rfl) (q_d dL_law_10 28 rfl) (q_d dL_law_10 29 rfl) (q_d dL_law_10 30 rfl) (q_d dL_law_10 31 rfl) (by omega) hL9 eu ?_
  refine LX C0 hK (q_d dL_law_10 32 rfl) uX5_count wM_L_82 (c_count hX (by omega) hu) rfl rfl rfl (by decide) (Nat.le_of_ble_eq_true rfl) ?_
  rintro _ MX9 ⟨rfl, hX9⟩
  dsimp only [Option.map_some, qV, Option.toList, List.cons_append, List.nil_append]
  refine L2 C0 (q_d dL_law_10 33 rfl) ?_
  refine LA (j := 1) (by decide) C0 (q_d dL_law_10 34 rfl) (q_d dL_law_10 35 rfl) (q_d dL_law_10 36 rfl) (q_d dL_law_10 37 rfl) (q_d dL_law_10 38 rfl) (by omega) hL9 eu ?_
  refine LM C0 hK (q_d dL_law_10 39 rfl) uX6_count wM_L_85 (m_count hQ hu) rfl rfl rfl (by decide) (Nat.le_of_ble_eq_true rfl) ?_
  rintro _ MM9 ⟨rfl, hM9⟩
  dsimp only [Option.map_some, qV, Option.toList, List.cons_append, List.nil_append]
  refine LEQ C0 (q_d dL_law_11 0 rfl) (by decide) ?_
  exact kk _ _ _ (hX9.le (by omega)) (RMs.le hM9 (by omega))
theorem law_undo (C0 : lw_At p s m meth c b L xs) (hK : va_K D vwCl (qT tc) s) (hL9 : L ≤ 2048) (hi : i + 4 ≤ L) (hb : bb + 120 < 2 ^ 30) (hX : Ac bb x MX) (hQ : RMs bb x MQ) (kk : ∀ (y : St) (MX' MQ' : qM), Ac (bb + 120) y MX' → RMs (bb + 120) y MQ' → LT p l e s m below meth c b D tc 744 [] i MX' MQ') : LT p l e s m below meth c b D tc 659 [] i MX MQ := by
  obtain ⟨pa, sw, hX⟩ := hX
  refine L1 C0 (q_d dL_law_11 3 rfl) ?_
  refine LX C0 hK (q_d dL_law_11 4 rfl) uX5_undo wM_L_86 (c_undo hX) rfl rfl rfl (by decide) (Nat.le_of_ble_eq_true rfl) ?_
  rintro _ MX9 ⟨rfl, hX9⟩
  dsimp only [Option.map_some, qV, Option.toList, List.cons_append, List.nil_append]
  refine L2 C0 (q_d dL_law_11 5 rfl) ?_
  refine LM C0 hK (q_d dL_law_11 6 rfl) uX6_undo wM_L_90 (m_undo hQ) rfl rfl rfl (by decide) (Nat.le_of_ble_eq_true rfl) ?_
  rintro _ MM9 ⟨rfl, hM9⟩
  dsimp only [Option.map_some, qV, Option.toList, List.cons_append, List.nil_append]
  refine LEQ C0 (q_d dL_law_11 7 rfl) (by decide) ?_
  exact kk _ _ _ (hX9.le (by omega)) (RMs.le hM9 (by omega))
theorem law_type (C0 : lw_At p s m meth c b L xs) (hK : va_K D vwCl (qT tc) s) (hL9 : L ≤ 2048) (hi : i + 4 ≤ L) (hb : bb + 120 < 2 ^ 30) (hX : Ac bb x MX) (hQ : RMs bb x MQ) (kk : ∀ (y : St) (MX' MQ' : qM), Ac (bb + 120) y MX' → RMs (bb + 120) y MQ' → LT p l e s m below meth c b D tc 744 [] i MX' MQ') : LT p l e s m below meth c b D tc 672 [] i MX MQ := by
  obtain ⟨pa, sw, hX⟩ := hX
  obtain ⟨u, hu, eu⟩ := nN_of (xs (i + 1))
  refine L1 C0 (q_d dL_law_11 10 rfl) ?_
  refine LA (j := 1) (by decide) C0 (q_d dL_law_11 11 rfl) (q_d dL_law_11 12 rfl) (q_d dL_law_11 13 rfl) (q_d dL_law_11 14 rfl) (q_d dL_law_11 15 rfl) (by omega) hL9 eu ?_
  refine LX C0 hK (q_d dL_law_11 16 rfl) uX5_type wM_L_91 (c_type hX hu) rfl rfl rfl (by decide) (Nat.le_of_ble_eq_true rfl) ?_
  rintro _ MX9 ⟨rfl, hX9⟩
  dsimp only [Option.map_some, qV, Option.toList, List.cons_append, List.nil_append]
  refine L2 C0 (q_d dL_law_11 17 rfl) ?_
  refine LA (j := 1) (by decide) C0 (q_d dL_law_11 18 rfl) (q_d dL_law_11 19 rfl) (q_d dL_law_11 20 rfl) (q_d dL_law_11 21 rfl) (q_d dL_law_11 22 rfl) (by omega) hL9 eu ?_
  refine LM C0 hK (q_d dL_law_11 23 rfl) uX6_type wM_L_94 (m_type hQ hu) rfl rfl rfl (by decide) (Nat.le_of_ble_eq_true rfl) ?_
  rintro _ MM9 ⟨rfl, hM9⟩
  dsimp only [Option.map_some, qV, Option.toList, List.cons_append, List.nil_append]
  refine LEQ C0 (q_d dL_law_11 24 rfl) (by decide) ?_
  exact kk _ _ _ (hX9.le (by omega)) (RMs.le hM9 (by omega))
theorem law_clearText (C0 : lw_At p s m meth c b L xs) (hK : va_K D vwCl (qT tc) s) (hL9 : L ≤ 2048) (hi : i + 4 ≤ L) (hb : bb + 120 < 2 ^ 30) (hX : Ac bb x MX) (hQ : RMs bb x MQ) (kk : ∀ (y : St) (MX' MQ' : qM), Ac (bb + 120) y MX' → RMs (bb + 120) y MQ' → LT p l e s m below meth c b D tc 744 [] i MX' MQ') : LT p l e s m below meth c b D tc 695 [] i MX MQ := by
  obtain ⟨pa, sw, hX⟩ := hX
  refine L1 C0 (q_d dL_law_11 27 rfl) ?_
  refine LX C0 hK (q_d dL_law_11 28 rfl) uX5_clearText wM_L_95 (c_clearText hX) rfl rfl rfl (by decide) (Nat.le_of_ble_eq_true rfl) ?_
  rintro _ MX9 ⟨rfl, hX9⟩
  dsimp only [Option.map_some, qV, Option.toList, List.cons_append, List.nil_append]
  refine L2 C0 (q_d dL_law_11 29 rfl) ?_
  refine LM C0 hK (q_d dL_law_11 30 rfl) uX6_clearText wM_L_98 (m_clearText hQ) rfl rfl rfl (by decide) (Nat.le_of_ble_eq_true rfl) ?_
  rintro _ MM9 ⟨rfl, hM9⟩
  dsimp only [Option.map_some, qV, Option.toList, List.cons_append, List.nil_append]
  refine LEQ C0 (q_d dL_law_11 31 rfl) (by decide) ?_
  exact kk _ _ _ (hX9.le (by omega)) (RMs.le hM9 (by omega))
theorem law_fault (C0 : lw_At p s m meth c b L xs) (hK : va_K D vwCl (qT tc) s) (hL9 : L ≤ 2048) (hi : i + 4 ≤ L) (hb : bb + 120 < 2 ^ 30) (hX : Ac bb x MX) (hQ : RMs bb x MQ) (kk : ∀ (y : St) (MX' MQ' : qM), Ac (bb + 120) y MX' → RMs (bb + 120) y MQ' → LT p l e s m below meth c b D tc 744 [] i MX' MQ') : LT p l e s m below meth c b D tc 708 [] i MX MQ := by
  obtain ⟨pa, sw, hX⟩ := hX
  obtain ⟨u, hu, eu⟩ := nN_of (xs (i + 1))
  refine L1 C0 (q_d dL_law_11 34 rfl) ?_
  refine LA (j := 1) (by decide) C0 (q_d dL_law_11 35 rfl) (q_d dL_law_11 36 rfl) (q_d dL_law_11 37 rfl) (q_d dL_law_11 38 rfl) (q_d dL_law_11 39 rfl) (by omega) hL9 eu ?_
  refine LX C0 hK (q_d dL_law_12 0 rfl) uX5_fault wM_L_99 (c_fault hX hu) rfl rfl rfl (by decide) (Nat.le_of_ble_eq_true rfl) ?_
  rintro _ MX9 ⟨rfl, hX9⟩
  dsimp only [Option.map_some, qV, Option.toList, List.cons_append, List.nil_append]
  refine L2 C0 (q_d dL_law_12 1 rfl) ?_
  refine LA (j := 1) (by decide) C0 (q_d dL_law_12 2 rfl) (q_d dL_law_12 3 rfl) (q_d dL_law_12 4 rfl) (q_d dL_law_12 5 rfl) (q_d dL_law_12 6 rfl) (by omega) hL9 eu ?_
  refine LM C0 hK (q_d dL_law_12 7 rfl) uX6_fault wM_L_102 (m_fault hQ (by omega) hu) rfl rfl rfl (by decide) (Nat.le_of_ble_eq_true rfl) ?_
  rintro _ MM9 ⟨rfl, hM9⟩
  dsimp only [Option.map_some, qV, Option.toList, List.cons_append, List.nil_append]
  refine LEQ C0 (q_d dL_law_12 8 rfl) (by decide) ?_
  exact kk _ _ _ (hX9.le (by omega)) (RMs.le hM9 (by omega))
theorem law_play (C0 : lw_At p s m meth c b L xs) (hK : va_K D vwCl (qT tc) s) (hL9 : L ≤ 2048) (hi : i + 4 ≤ L) (hb : bb + 120 < 2 ^ 30) (hX : Ac bb x MX) (hQ : RMs bb x MQ) (kk : ∀ (y : St) (MX' MQ' : qM), Ac (bb + 120) y MX' → RMs (bb + 120) y MQ' → LT p l e s m below meth c b D tc 744 [] i MX' MQ') : LT p l e s m below meth c b D tc 731 [] i MX MQ := by
  obtain ⟨pa, sw, hX⟩ := hX
  refine L1 C0 (q_d dL_law_12 11 rfl) ?_
  refine LX C0 hK (q_d dL_law_12 12 rfl) uX5_play wM_L_103 (c_play hX) rfl rfl rfl (by decide) (Nat.le_of_ble_eq_true rfl) ?_
  rintro _ MX9 ⟨rfl, hX9⟩
  dsimp only [Option.map_some, qV, Option.toList, List.cons_append, List.nil_append]
  refine L2 C0 (q_d dL_law_12 13 rfl) ?_
  refine LM C0 hK (q_d dL_law_12 14 rfl) uX6_play wM_L_106 (m_play hQ (by omega)) rfl rfl rfl (by decide) (Nat.le_of_ble_eq_true rfl) ?_
  rintro _ MM9 ⟨rfl, hM9⟩
  dsimp only [Option.map_some, qV, Option.toList, List.cons_append, List.nil_append]
  refine LEQ C0 (q_d dL_law_12 15 rfl) (by decide) ?_
  exact kk _ _ _ (hX9.le (by omega)) (RMs.le hM9 (by omega))
theorem law_switch (C0 : lw_At p s m meth c b L xs) (hK : va_K D vwCl (qT tc) s) (hL9 : L ≤ 2048) (hi : i + 4 ≤ L) (hb : bb + 120 < 2 ^ 30) (hX : Ac bb x MX) (hQ : RMs bb x MQ) (kk : ∀ (y : St) (MX' MQ' : qM), Ac (bb + 120) y MX' → RMs (bb + 120) y MQ' → LT p l e s m below meth c b D tc 744 [] i MX' MQ') : LT p l e s m below meth c b D tc 26 [] i MX MQ := by
  obtain ⟨u, hu, eu⟩ := nN_of (xs i)
  refine LA0 C0 (q_d dL_law_0 16 rfl) (q_d dL_law_0 17 rfl) (q_d dL_law_0 18 rfl) (by omega) hL9 ?_
  rw [eu]
  obtain ⟨hx9, hb9, -⟩ := id C0
  obtain ⟨r, hr, er⟩ : ∃ r, r < 32 ∧ u &&& 31 = r := ⟨_, Nat.lt_of_le_of_lt Nat.and_le_right (by decide), rfl⟩
  intro H locs ls hS hP hQ9 hL
  refine lv_bipush (v := nI 31) hx9 hb9 (q_d dL_law_0 19 rfl) (by decide) ?_
  refine lv_iand hx9 hb9 (q_d dL_law_0 20 rfl) ?_
  rw [nN_and, er]
  by_cases h22 : r < 22
  · rcases (by omega : r = 0 ∨ r = 1 ∨ r = 2 ∨ r = 3 ∨ r = 4 ∨ r = 5 ∨ r = 6 ∨ r = 7 ∨ r = 8 ∨ r = 9 ∨ r = 10 ∨ r = 11 ∨ r = 12 ∨ r = 13 ∨ r = 14 ∨ r = 15 ∨ r = 16 ∨ r = 17 ∨ r = 18 ∨ r = 19 ∨ r = 20 ∨ r = 21) with rfl | rfl | rfl | rfl | rfl | rfl | rfl | rfl | rfl | rfl | rfl | rfl | rfl | rfl | rfl | rfl | rfl | rfl | rfl | rfl | rfl | rfl
    · exact lv_tableIn (tgt := 136) (off := 104) hx9 hb9 (q_d dL_law_0 21 rfl) (by decide +kernel) (by decide +kernel) (by decide +kernel) (by decide) (law_place C0 hK hL9 hi hb hX hQ kk H locs ls hS hP hQ9 hL)
    · exact lv_tableIn (tgt := 159) (off := 127) hx9 hb9 (q_d dL_law_0 21 rfl) (by decide +kernel) (by decide +kernel) (by decide +kernel) (by decide) (law_road C0 hK hL9 hi hb hX hQ kk H locs ls hS hP hQ9 hL)
    · exact lv_tableIn (tgt := 192) (off := 160) hx9 hb9 (q_d dL_law_0 21 rfl) (by decide +kernel) (by decide +kernel) (by decide +kernel) (by decide) (law_shut C0 hK hL9 hi hb hX hQ kk H locs ls hS hP hQ9 hL)
    · exact lv_tableIn (tgt := 235) (off := 203) hx9 hb9 (q_d dL_law_0 21 rfl) (by decide +kernel) (by decide +kernel) (by decide +kernel) (by decide) (law_set C0 hK hL9 hi hb hX hQ kk H locs ls hS hP hQ9 hL)
    · exact lv_tableIn (tgt := 268) (off := 236) hx9 hb9 (q_d dL_law_0 21 rfl) (by decide +kernel) (by decide +kernel) (by decide +kernel) (by decide) (law_believe C0 hK hL9 hi hb hX hQ kk H locs ls hS hP hQ9 hL)
    · exact lv_tableIn (tgt := 291) (off := 259) hx9 hb9 (q_d dL_law_0 21 rfl) (by decide +kernel) (by decide +kernel) (by decide +kernel) (by decide) (law_check C0 hK hL9 hi hb hX hQ kk H locs ls hS hP hQ9 hL)
    · exact lv_tableIn (tgt := 324) (off := 292) hx9 hb9 (q_d dL_law_0 21 rfl) (by decide +kernel) (by decide +kernel) (by decide +kernel) (by decide) (law_placeOf C0 hK hL9 hi hb hX hQ kk H locs ls hS hP hQ9 hL)
    · exact lv_tableIn (tgt := 357) (off := 325) hx9 hb9 (q_d dL_law_0 21 rfl) (by decide +kernel) (by decide +kernel) (by decide +kernel) (by decide) (law_roundOf C0 hK hL9 hi hb hX hQ kk H locs ls hS hP hQ9 hL)
    · exact lv_tableIn (tgt := 390) (off := 358) hx9 hb9 (q_d dL_law_0 21 rfl) (by decide +kernel) (by decide +kernel) (by decide +kernel) (by decide) (law_behind C0 hK hL9 hi hb hX hQ kk H locs ls hS hP hQ9 hL)
    · exact lv_tableIn (tgt := 433) (off := 401) hx9 hb9 (q_d dL_law_0 21 rfl) (by decide +kernel) (by decide +kernel) (by decide +kernel) (by decide) (law_sure C0 hK hL9 hi hb hX hQ kk H locs ls hS hP hQ9 hL)
    · exact lv_tableIn (tgt := 466) (off := 434) hx9 hb9 (q_d dL_law_0 21 rfl) (by decide +kernel) (by decide +kernel) (by decide +kernel) (by decide) (law_deaf C0 hK hL9 hi hb hX hQ kk H locs ls hS hP hQ9 hL)
    · exact lv_tableIn (tgt := 489) (off := 457) hx9 hb9 (q_d dL_law_0 21 rfl) (by decide +kernel) (by decide +kernel) (by decide +kernel) (by decide) (law_memory C0 hK hL9 hi hb hX hQ kk H locs ls hS hP hQ9 hL)
    · exact lv_tableIn (tgt := 512) (off := 480) hx9 hb9 (q_d dL_law_0 21 rfl) (by decide +kernel) (by decide +kernel) (by decide +kernel) (by decide) (law_beliefs C0 hK hL9 hi hb hX hQ kk H locs ls hS hP hQ9 hL)
    · exact lv_tableIn (tgt := 535) (off := 503) hx9 hb9 (q_d dL_law_0 21 rfl) (by decide +kernel) (by decide +kernel) (by decide +kernel) (by decide) (law_dangers C0 hK hL9 hi hb hX hQ kk H locs ls hS hP hQ9 hL)
    · exact lv_tableIn (tgt := 558) (off := 526) hx9 hb9 (q_d dL_law_0 21 rfl) (by decide +kernel) (by decide +kernel) (by decide +kernel) (by decide) (law_ways C0 hK hL9 hi hb hX hQ kk H locs ls hS hP hQ9 hL)
    · exact lv_tableIn (tgt := 592) (off := 560) hx9 hb9 (q_d dL_law_0 21 rfl) (by decide +kernel) (by decide +kernel) (by decide +kernel) (by decide) (law_met C0 hK hL9 hi hb hX hQ kk H locs ls hS hP hQ9 hL)
    · exact lv_tableIn (tgt := 636) (off := 604) hx9 hb9 (q_d dL_law_0 21 rfl) (by decide +kernel) (by decide +kernel) (by decide +kernel) (by decide) (law_count C0 hK hL9 hi hb hX hQ kk H locs ls hS hP hQ9 hL)
    · exact lv_tableIn (tgt := 659) (off := 627) hx9 hb9 (q_d dL_law_0 21 rfl) (by decide +kernel) (by decide +kernel) (by decide +kernel) (by decide) (law_undo C0 hK hL9 hi hb hX hQ kk H locs ls hS hP hQ9 hL)
    · exact lv_tableIn (tgt := 672) (off := 640) hx9 hb9 (q_d dL_law_0 21 rfl) (by decide +kernel) (by decide +kernel) (by decide +kernel) (by decide) (law_type C0 hK hL9 hi hb hX hQ kk H locs ls hS hP hQ9 hL)
    · exact lv_tableIn (tgt := 695) (off := 663) hx9 hb9 (q_d dL_law_0 21 rfl) (by decide +kernel) (by decide +kernel) (by decide +kernel) (by decide) (law_clearText C0 hK hL9 hi hb hX hQ kk H locs ls hS hP hQ9 hL)
    · exact lv_tableIn (tgt := 708) (off := 676) hx9 hb9 (q_d dL_law_0 21 rfl) (by decide +kernel) (by decide +kernel) (by decide +kernel) (by decide) (law_fault C0 hK hL9 hi hb hX hQ kk H locs ls hS hP hQ9 hL)
    · exact lv_tableIn (tgt := 731) (off := 699) hx9 hb9 (q_d dL_law_0 21 rfl) (by decide +kernel) (by decide +kernel) (by decide +kernel) (by decide) (law_play C0 hK hL9 hi hb hX hQ kk H locs ls hS hP hQ9 hL)
  · refine lv_tableOut (tgt := 744) hx9 hb9 (q_d dL_law_0 21 rfl) (Or.inr ?_) (by decide) (kk x MX MQ (hX.le (by omega)) (RMs.le hQ (by omega)) H locs ls hS hP hQ9 hL)
    rw [nI_toInt (by omega)]; omega
theorem law_loop (C0 : lw_At p s m meth c b L xs) (hK : va_K D vwCl (qT tc) s) (hL9 : L ≤ 2048) : ∀ (f j : Nat) (x : St) (MX MQ : qM), 4 * j ≤ L → L - 4 * j < f → Ac (120 * j) x MX → RMs (120 * j) x MQ → LT p l e s m below meth c b D tc 18 [] (4 * j) MX MQ
  | 0, _, _, _, _, _, h, _, _ => absurd h (Nat.not_lt_zero _)
  | f + 1, j, x, MX, MQ, hj, hf, hX, hQ => by
    refine LH C0 hL9 hj (LEnd C0) (fun h4 => ?_)
    refine law_switch C0 hK hL9 h4 (by omega) hX hQ (fun y MX' MQ' hX' hQ' => ?_)
    refine LN C0 ?_
    exact law_loop C0 hK hL9 f (j + 1) y MX' MQ' (by omega) (by omega) hX' hQ'
end LawOps
