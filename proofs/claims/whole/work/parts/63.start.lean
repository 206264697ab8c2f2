/-! the law's start: what the tables say, two objects made, the loop -/
theorem q_arrC {s : State} {A : Array Value} {ty : FieldType} (h : (Cond.arrayClass ty).before A s = true) : ∃ cA, ArrOfT s cA ty ∧ s.vm.findClass ("[" ++ ty.toString) = some cA := by
  obtain ⟨cA, kA, comp, h1, h2, h3⟩ := Cond.arrayClass_spec h
  exact ⟨cA, fun n z => ⟨(fun k h => by cases h), kA, h2, comp, h3⟩, h1⟩
theorem q_words {p : Program} {s : State} {m : MethodId} {meth : Method} {c : Code} {b L : Nat} {xs : Nat → Int32} (C0 : lw_At p s m meth c b L xs) : qN s ∧ ∃ (D : va_G) (tc : Nat → ClassId), va_K D vwCl (qT tc) s := by
  obtain ⟨hx, hb, hr, hml, hown, hts, hX, hbl, hlocks, hgv⟩ := id C0
  have hts9 : ∀ w ∈ WS, w.before #[.ref b] s = true := fun w h => hts w (List.mem_filter.mp h).1
  have o1 : (Cond.arrayOver (.object "BlindHunts$State")).before #[.ref b] s = true := hts _ (List.mem_of_getElem? (i := 113) (by decide +kernel))
  have o2 : (Cond.arrayOver (.array .int)).before #[.ref b] s = true := hts _ (List.mem_of_getElem? (i := 160) (by decide +kernel))
  have n1 : (Cond.methodLinkNest RX5 25 yX2_init "BlindHunts").before #[.ref b] s = true := hts _ (List.mem_of_getElem? (i := 116) (by decide +kernel))
  have n2 : (Cond.methodLinkNest RX5 32 yX1_init "BlindHunts").before #[.ref b] s = true := hts _ (List.mem_of_getElem? (i := 155) (by decide +kernel))
  have n3 : (Cond.methodLinkNest RX5 51 yX4_init "BlindHunts").before #[.ref b] s = true := hts _ (List.mem_of_getElem? (i := 206) (by decide +kernel))
  refine ⟨⟨va_AO.of o1, o2, va_Nw.of rfl n1, va_Nw.of rfl n2, va_Nw.of rfl n3⟩, ?_⟩
  obtain ⟨c0, i0, k0⟩ := u_known (C := RX0) (T := TX0) (N := 4) (n := 4) hts9 inX0 (hts9 _ wO_X0)
  obtain ⟨c1, i1, k1⟩ := u_known (C := RX1) (T := TX1) (N := 6) (n := 6) hts9 inX1 (hts9 _ wO_X1)
  obtain ⟨c2, i2, k2⟩ := u_known (C := RX2) (T := TX2) (N := 9) (n := 9) hts9 inX2 (hts9 _ wO_X2)
  obtain ⟨c3, i3, k3⟩ := u_known (C := RX3) (T := TX3) (N := 10) (n := 10) hts9 inX3 (hts9 _ wO_X3)
  obtain ⟨c4, i4, k4⟩ := u_known (C := RX4) (T := TX4) (N := 2) (n := 2) hts9 inX4 (hts9 _ wO_X4)
  obtain ⟨c5, i5, k5⟩ := u_known (C := RX5) (T := TX5) (N := 13) (n := 13) hts9 inX5 (hts9 _ wO_X5)
  obtain ⟨c6, i6, k6⟩ := u_known (C := RX6) (T := TX6) (N := 15) (n := 15) hts9 inX6 (hts9 _ wO_X6)
  obtain ⟨t0, a0, b0⟩ := q_arrC (hts9 _ wA_int)
  obtain ⟨t1, a1, b1⟩ := q_arrC (hts9 _ wA_boolean)
  obtain ⟨t2, a2, b2⟩ := q_arrC (hts9 _ wA_char)
  obtain ⟨t3, a3, b3⟩ := q_arrC (hts9 _ wA_long)
  obtain ⟨cm4, t4, kA4, p1, p2, p3, p4, p5⟩ := Cond.arrayOver_spec o1
  obtain ⟨cm5, t5, kA5, r1, r2, r3, r4, r5⟩ := arrayOverA_spec o2
  refine ⟨(fun k => [c0, c1, c2, c3, c4, c5, c6].getD k c0, fun k => [i0, i1, i2, i3, i4, i5, i6].getD k i0), fun k => [t0, t1, t2, t3, t4, t5].getD k t0, fun k q hq => ?_, fun k q hq => ?_⟩
  · match k, hq with
    | 0, hq => cases hq; exact k0
    | 1, hq => cases hq; exact k1
    | 2, hq => cases hq; exact k2
    | 3, hq => cases hq; exact k3
    | 4, hq => cases hq; exact k4
    | 5, hq => cases hq; exact k5
    | 6, hq => cases hq; exact k6
    | k + 7, hq => simp [vwCl] at hq
  · match k, hq with
    | 0, hq => cases hq; exact ⟨a0, b0⟩
    | 1, hq => cases hq; exact ⟨a1, b1⟩
    | 2, hq => cases hq; exact ⟨a2, b2⟩
    | 3, hq => cases hq; exact ⟨a3, b3⟩
    | 4, hq => cases hq; exact ⟨fun n z => ⟨(fun k h => by cases h), kA4, p3, cm4, p4⟩, kA4, cm4, p3, p4, p1, p5⟩
    | 5, hq => cases hq; exact ⟨fun n z => ⟨(fun k h => by cases h), kA5, r3, cm5, r4⟩, r5⟩
    | k + 6, hq => simp [qT] at hq
theorem hX_fs : ∀ j, j < 13 → ((qK 5)[j]? = some true ∧ defaultValue (tyX5 j) = .null) ∨ ((qK 5)[j]? = some false ∧ defaultValue (tyX5 j) = .int 0) := by decide +kernel
theorem hM_fs : ∀ j, j < 15 → ((qK 6)[j]? = some true ∧ defaultValue (tyX6 j) = .null) ∨ ((qK 6)[j]? = some false ∧ defaultValue (tyX6 j) = .int 0) := by decide +kernel
theorem whole_start {p : Program} {e : Env} {s : State} {m : MethodId} {below : List Frame} {meth : Method} {c : Code} (l : Launch) (hflags : l.flags = flags0) {b L : Nat} {xs : Nat → Int32} (hL : L ≤ 2048) (C0 : lw_At p s m meth c b L xs) : W p l e room_1 s m #[Value.ref b] below meth c s.heap [] 0 0 (lw_Z below #[Value.ref b] s) (entryFrame m ([Value.ref b] : List Value).toArray 4) := by
  obtain ⟨hx, hb, hr, hml, hown, hts, hX, hbl, hlocks, hgv⟩ := id C0
  obtain ⟨hN, D, tc, hK⟩ := q_words C0
  have hl := lv_entry ([.ref b]) (n := 4) (Nat.le_of_ble_eq_true rfl)
  rw [lg_entry_eq]
  generalize (lg_sl ([.ref b]) ++ List.replicate (4 - (lg_sl ([.ref b])).length) Slot.unset).toArray = ls at hl ⊢
  have hl : lv_has ls 4 [(0, .ref b)] := hl
  refine lw_make C0 hK hN (q_d dL_law_0 0 rfl) (q_d dL_law_0 1 rfl) (q_d dL_law_0 2 rfl) uX5_init wM_L_9 i_X5 rfl rfl inX5 tyX5 tyX5_ok wL_L_7 wO_X5 hX_fs hl.1 (by decide) (Nat.le_of_ble_eq_true rfl) rfl va_S.rf (fun v M1 H1 locs1 hq hP1 hS1 hz1 _ => ?_)
  obtain ⟨rfl, rfl⟩ := hq
  refine lv_astore_n (lv' := [(1, .ref s.heap.size), (0, .ref b)]) hx hb (q_d dL_law_0 3 rfl) rfl hl (by decide) rfl (fun ls hl => ?_)
  refine lw_make (B := s.heap.size + 71) C0 hK hN (q_d dL_law_0 4 rfl) (q_d dL_law_0 5 rfl) (q_d dL_law_0 6 rfl) uX6_init wM_L_12 i_X6 rfl rfl inX6 tyX6 tyX6_ok wL_L_10 wO_X6 hM_fs hl.1 (by decide) (Nat.le_of_ble_eq_true rfl) hz1 hS1 (fun v M2 H2 locs2 hq hP2 hS2 hz2 hk2 => ?_)
  obtain ⟨rfl, rfl⟩ := hq
  have hP1 := qW_kept hP1 (fun a ha => hk2 _ (by omega))
  refine lv_astore_n (lv' := [(2, .ref (s.heap.size + 71)), (1, .ref s.heap.size), (0, .ref b)]) hx hb (q_d dL_law_0 7 rfl) rfl hl (by decide) rfl (fun ls hl => ?_)
  refine lv_iconst (v := nI 0) hx hb (q_d dL_law_0 8 rfl) (by decide) ?_
  refine lv_istore_n (lv' := [(3, .int (nI 0)), (2, .ref (s.heap.size + 71)), (1, .ref s.heap.size), (0, .ref b)]) hx hb (q_d dL_law_0 9 rfl) rfl hl (by decide) rfl (fun ls hl => ?_)
  exact law_loop C0 hK hL (L + 1) 0 (s00, 0, fun _ _ => 0, 0, fun _ => 0) (MM wiX wrX) (MM [(1, 6, 1)] wrM) (by omega) (by omega) ⟨pa00, false, RX_new _ _⟩ (RM_new _ _) H2 locs2 ls hS2 hP1 hP2 hl
