/-! the law's own walk: a world, a BlindHunts from the heap's first free place on -/
theorem lGood {μ' : qMI} (h : Cond.code μ'.2.1 μ'.1 μ'.2.2.1 μ'.2.2.2.1 ∈ WS) : GoodIn WS (qWs μ') := by
  have g : ∀ w : Cond, w ∈ WS → w ∈ WS ∧ ((w.onTables && w.keeps) = true ∨ ∃ ty, w = .arrayClass ty) := fun w h => ⟨h, good_of_word (List.mem_filter.mp h).2⟩
  intro w hw
  rcases List.mem_cons.mp hw with rfl | hw
  · exact g _ h
  · exact g _ hw
section Law
variable {p : Program} {l : Launch} {e : Env} {s : State} {m : MethodId} {below : List Frame} {meth : Method} {c : Code} {b L : Nat} {xs : Nat → Int32} {D : va_G} {tc : Nat → ClassId}
theorem lw_callV {hd : qH} {B n : Nat} {M : qM} {μ' : qMI} {Q' : Option Value → qM → Prop} {index na : Nat} {as st stk : List Value} {ci N : Nat} {F : u_T} {H : Heap} {locs : List Loc} {cs sl pc : Nat} {ls : Array Slot} {Qs : State → Prop}
    (C0 : lw_At p s m meth c b L xs) (hK : va_K D vwCl (qT tc) s) (d : decode code pc = .ok (.invokevirtual index, 3)) (hm : qVirt μ' na) (hl : Cond.methodLink RL index μ'.2.1 ∈ WS) (hC : Ct l hd (n, false, 0, 0) μ' (.ref 0 :: as) M Q') (hs : stk = (as.map (qV B)).reverse ++ .ref B :: st) (hn : as.length = na) (h0 : 0 < n) (hh : hd 0 = .inl ci) (hc : vwCl[ci]? = some (μ'.2.1.cls, F, N)) (hls : ls.size = 5)
    (hR : μ'.2.2.2.2.cells = 0 ∧ μ'.2.2.2.2.slots = 0 ∧ μ'.2.2.2.2.frames + 1 ≤ 11 ∧ 8 + (μ'.2.2.1 + 11) + μ'.2.2.2.2.locals ≤ 452 ∧ cs ≤ 600000 ∧ sl ≤ 7302250) (hst : (st.map fun v => v.category).sum ≤ 8)
    (hP : va_P D vwCl (qW hd tc B n M) H) (hS : va_S (fun q => s.heap.size ≤ q) s.heap H locs) (hB : s.heap.size ≤ B)
    (k : ∀ (v : Option Value) (M' : qM) (H1 : Heap) (locs1 : List Loc), Q' v M' → va_P D vwCl (qW hd tc B n M') H1 → va_S (fun q => s.heap.size ≤ q) s.heap H1 locs1 → (∀ q : Nat, q < H.size → ¬ (B ≤ q ∧ q < B + n) → H1[q]? = H[q]?) → W p l e room_1 s m #[.ref b] below meth c H1 locs1 cs sl Qs (F0 m (pc + 3) ls ((v.map (qV B)).toList ++ st))) :
    W p l e room_1 s m #[.ref b] below meth c H locs cs sl Qs (F0 m pc ls stk) := by
  subst hs
  obtain ⟨hx, hb, hr, hml, hown, hts, hX, hbl, hlocks, hgv⟩ := id C0
  have hts9 : ∀ w ∈ WS, w.before #[.ref b] s = true := fun w h => hts w (List.mem_filter.mp h).1
  have hC9 := hC D tc B H.size
  have hPc : ∀ U : State, U.heap = H → s.WarmedH U.vm → va_Pc ((.ref 0 :: as).map (qV B)) (fun U => U.heap.size = H.size ∧ ((n, false, 0, 0).2.1 = true → H.size = B + n ∧ qN U) ∧ va_P D vwCl (qW hd tc B n M) U.heap ∧ va_K D vwCl (qT tc) U) ((.ref 0 :: as).map (qV B)).toArray U := by
    intro U hU hW
    exact ⟨rfl, by rw [hU], (fun h => by cases h), by rw [hU]; exact hP, va_K.moved hW.alike hK⟩
  have hcat : 2 * (F0 m pc ls ([] : List Value)).monitorRoom + (st.map fun v => v.category).sum ≤ 8 := lv_room hst
  have hG : GoodIn WS (wsV RL index μ'.2.1.cls μ'.2.1 (qWs μ')) := by
    have g : ∀ w : Cond, w ∈ WS → w ∈ WS ∧ ((w.onTables && w.keeps) = true ∨ ∃ ty, w = .arrayClass ty) := fun w h => ⟨h, good_of_word (List.mem_filter.mp h).2⟩
    refine goodIn_app9 (fun w hw => ?_) (lGood hm.2.2.1)
    rcases List.mem_cons.mp hw with rfl | hw
    · exact g _ hl
    rcases List.mem_cons.mp hw with rfl | hw
    · exact g _ hm.1
    rcases List.mem_cons.mp hw with rfl | hw
    · exact g _ hm.2.1
    rcases List.mem_cons.mp hw with rfl | hw
    · exact g _ hm.2.2.2.1
    cases hw
  have hown9 : s.vm.findClass RL = some m.cls := hown
  have hrun := va_runV (p := p) (l := l) (e := e) (R := room_1) (below := below) (meth := meth) (H := H) (locs := locs) (cells := cs) (slots := sl) (C := μ'.2.1.cls) (b := B) (As := as.map (qV B)) (rest := st) (g := F0 m pc ls ((as.map (qV B)).reverse ++ .ref B :: st)) (Ts := WS) ⟨hx, hb, hml, hown9, hts9⟩ hC9 (cwV na hts9 hG rfl hR.1 hR.2.1 ⟨rfl, hm.2.2.2.2⟩ ⟨hR.2.2.1, hR.2.2.2.1⟩)
    ⟨q_blind, va_recv (fs := qF B M 0 (qK ci)) hK hP (ci := ci) (q0 := 0) hc (by rw [qW_get h0]; simp only [qE, hh]; rfl), hPc⟩ rfl (by simpa using hn) hls rfl hcat d ⟨hR.2.2.2.2.1, hR.2.2.2.2.2⟩
  intro U hU X
  obtain ⟨v, st₀, t, T', Lc, e0, X', hL, e1, e2, ⟨⟨v', M', hv, hQ, hz, hP1⟩, hF⟩, stp⟩ := hrun U hU X
  have hlt : ∀ q : Nat, qFr B n H.size q → s.heap.size ≤ q := by
    intro q hq
    rcases hq with ⟨h1, h2⟩ | h1
    · omega
    · exact Nat.le_trans hS.1 h1
  have hF1 : H.size ≤ t.heap.size := by rw [← e0]; exact hF.1
  have hF2 : ∀ q : Nat, q < H.size → ¬ qFr B n H.size q → t.heap[q]? = H[q]? := by
    intro q h1 h2
    have := hF.2 q (by rw [e0]; exact h1) (by rw [e0]; exact h2)
    rw [e0] at this; exact this
  have hvv : v = v'.map (qV B) := Outcome.returned.inj hv
  subst hvv
  have hS1 : va_S (fun q => s.heap.size ≤ q) s.heap T'.heap (locs ++ Lc) := by
    refine ⟨Nat.le_trans hS.1 (by rw [e1]; exact hF1), fun q h1 h2 => ?_, fun q hq => ?_⟩
    · rw [e1, hF2 q (Nat.lt_of_lt_of_le h1 hS.1) (fun z => h2 (hlt q z))]
      exact hS.2.1 q h1 h2
    · rcases List.mem_append.mp hq with h | h
      · exact hS.2.2 q h
      · exact hlt _ (hL q h)
  have hkept : ∀ q : Nat, q < H.size → ¬ (B ≤ q ∧ q < B + n) → T'.heap[q]? = H[q]? := by
    intro q h1 h2
    rw [e1]
    exact hF2 q h1 (fun z => z.elim h2 (fun z => by omega))
  obtain ⟨t2, a1, b1⟩ := k v' M' T'.heap (locs ++ Lc) hQ (by rw [e1]; exact hP1) hS1 hkept T' rfl X'
  exact ⟨t2, stp t2 a1, b1⟩
theorem lw_make {hd : qH} {B kc ks : Nat} {μ' : qMI} {Q' : Option Value → qM → Prop} {i1 i2 : Nat} {st : List Value} {ci N : Nat} {F : u_T} {H : Heap} {locs : List Loc} {cs sl pc : Nat} {ls : Array Slot} {Qs : State → Prop}
    (C0 : lw_At p s m meth c b L xs) (hK : va_K D vwCl (qT tc) s) (hN : qN s) (d0 : decode code pc = .ok (.new i1, 3)) (d1 : decode code (pc + 3) = .ok (.dup, 1)) (d2 : decode code (pc + 3 + 1) = .ok (.invokespecial i2, 3)) (hm : qCtor μ' 0) (hl : Cond.methodLink RL i2 μ'.2.1 ∈ WS) (hC : Ct l hd (1, true, kc, ks) μ' [.ref 0] (MM [] []) Q') (hh : hd 0 = .inl ci) (hc : vwCl[ci]? = some (μ'.2.1.cls, F, N))
    (hin : ∀ w ∈ u_ws μ'.2.1.cls F N, w ∈ WS) (ty0 : Nat → FieldType) (hty : ∀ k, k < N → parseFieldDescriptor (F k).2.2.1 = some (ty0 k)) (h1 : Cond.classLink RL i1 μ'.2.1.cls ∈ WS) (h2 : Cond.instantiable μ'.2.1.cls N ∈ WS) (hfs : ∀ j, j < N → ((qK ci)[j]? = some true ∧ defaultValue (ty0 j) = .null) ∨ ((qK ci)[j]? = some false ∧ defaultValue (ty0 j) = .int 0)) (hls : ls.size = 5)
    (hR : μ'.2.2.2.2.cells = kc ∧ μ'.2.2.2.2.slots = ks ∧ μ'.2.2.2.2.frames + 1 ≤ 11 ∧ 8 + (μ'.2.2.1 + 11) + μ'.2.2.2.2.locals ≤ 452 ∧ cs + 1 + kc ≤ 600000 ∧ sl + N + ks ≤ 7302250) (hst : ((Value.ref B :: st).map fun v => v.category).sum ≤ 8)
    (hB : H.size = B) (hS : va_S (fun q => s.heap.size ≤ q) s.heap H locs)
    (k : ∀ (v : Option Value) (M' : qM) (H1 : Heap) (locs1 : List Loc), Q' v M' → va_P D vwCl (qW hd tc B (1 + kc) M') H1 → va_S (fun q => s.heap.size ≤ q) s.heap H1 locs1 → H1.size = B + 1 + kc → (∀ q : Nat, q < B → H1[q]? = H[q]?) → W p l e room_1 s m #[.ref b] below meth c H1 locs1 (cs + 1 + kc) (sl + N + ks) Qs (F0 m (pc + 3 + 1 + 3) ls ((v.map (qV B)).toList ++ .ref B :: st))) :
    W p l e room_1 s m #[.ref b] below meth c H locs cs sl Qs (F0 m pc ls st) := by
  obtain ⟨hx, hb, hr, hml, hown, hts, hX, hbl, hlocks, hgv⟩ := id C0
  have hts9 : ∀ w ∈ WS, w.before #[.ref b] s = true := fun w h => hts w (List.mem_filter.mp h).1
  have hown9 : s.vm.findClass RL = some m.cls := hown
  have hKn := hK.1 ci _ hc
  refine W.newcK hx hb hown9 (hts9 _ h1) (hts9 _ h2) (hts9 _ hm.2.2.2.2.1) rfl d0 (show cs + 1 ≤ 600000 by omega) (show sl + N ≤ 7302250 by omega) hKn.2.1 rfl fun H1 kC hkC e1 z1 o1 => ?_
  have hP : va_P D vwCl (qW hd tc B 1 (MM [] [])) H1 := by
    intro k9 q hk
    obtain ⟨g1, rfl⟩ := qW_inv hk
    rw [show k9 = 0 by omega]
    simp only [qE, hh]
    refine ⟨_, hc, ?_⟩
    show t_OB (B + 0) _ _ _ _ _
    rw [Nat.add_zero, ← hB]
    refine (u_born ty0 hts9 hin hKn hkC e1 hty).to (fun j hj => ?_)
    show defaultValue (ty0 j) = (qF H.size (MM [] []) 0 (qK ci)).getD j .null
    rcases hfs j hj with ⟨g1, g2⟩ | ⟨g1, g2⟩
    · rw [List.getD_eq_getElem?_getD, qF_get g1, g2]; rfl
    · rw [List.getD_eq_getElem?_getD, qF_get g1, g2]; rfl
  have hS1 : va_S (fun q => s.heap.size ≤ q) s.heap H1 locs := ⟨Nat.le_trans hS.1 (by omega), fun q h1 h2 => (o1 q (Nat.lt_of_lt_of_le h1 hS.1)).trans (hS.2.1 q h1 h2), hS.2.2⟩
  refine lv_dup hx hb d1 rfl ?_
  have hC9 := hC D tc B H1.size
  have hPc : ∀ U : State, U.heap = H1 → s.WarmedH U.vm → va_Pc (([.ref 0] : List Value).map (qV B)) (fun U => U.heap.size = H1.size ∧ ((1, true, kc, ks).2.1 = true → H1.size = B + 1 ∧ qN U) ∧ va_P D vwCl (qW hd tc B 1 (MM [] [])) U.heap ∧ va_K D vwCl (qT tc) U) (([.ref 0] : List Value).map (qV B)).toArray U := by
    intro U hU hW
    exact ⟨rfl, by rw [hU], (fun _ => ⟨by omega, qN.moved hW hN⟩), by rw [hU]; exact hP, va_K.moved hW.alike hK⟩
  have hcat : 2 * (F0 m (pc + 3 + 1) ls ([] : List Value)).monitorRoom + ((Value.ref B :: st).map fun v => v.category).sum ≤ 8 := lv_room hst
  have hrun := va_runI (p := p) (l := l) (e := e) (R := room_1) (below := below) (meth := meth) (H := H1) (locs := locs) (cells := cs + 1) (slots := sl + N) (b := B) (As := []) (rest := .ref B :: st) (g := F0 m (pc + 3 + 1) ls (.ref B :: .ref B :: st)) (Ts := WS) ⟨hx, hb, hml, hown9, hts9⟩ hC9 (cwI 0 hts9 (lGood hm.2.2.2.1) (by unfold qWs; rw [hm.2.2.1]) hR.1 hR.2.1 (hts9 _ hm.2.2.2.2.1) (hts9 _ hl) (hts9 _ hm.1) hm.2.1 hm.2.2.2.2.2 ⟨hR.2.2.1, hR.2.2.2.1⟩)
    ⟨q_blind, hPc⟩ rfl rfl hls rfl hcat d2 ⟨hR.2.2.2.2.1, hR.2.2.2.2.2⟩
  intro U hU X
  subst hB
  obtain ⟨v, st₀, t, T', Lc, e0, X', hL, e2, e3, ⟨⟨v', M', hv, hQ, hz, hP1⟩, hF⟩, stp⟩ := hrun U hU X
  have hlt : ∀ q : Nat, qFr H.size 1 H1.size q → s.heap.size ≤ q := by
    intro q hq
    have := hS.1
    rcases hq with ⟨h1, h2⟩ | h1 <;> omega
  have hF1 : H1.size ≤ t.heap.size := by rw [← e0]; exact hF.1
  have hF2 : ∀ q : Nat, q < H1.size → ¬ qFr H.size 1 H1.size q → t.heap[q]? = H1[q]? := by
    intro q h1 h2
    have := hF.2 q (by rw [e0]; exact h1) (by rw [e0]; exact h2)
    rw [e0] at this; exact this
  have hvv : v = v'.map (qV H.size) := Outcome.returned.inj hv
  subst hvv
  have hS2 : va_S (fun q => s.heap.size ≤ q) s.heap T'.heap (locs ++ Lc) := by
    refine ⟨Nat.le_trans hS1.1 (by rw [e2]; exact hF1), fun q h1 h2 => ?_, fun q hq => ?_⟩
    · rw [e2, hF2 q (Nat.lt_of_lt_of_le h1 hS1.1) (fun z => h2 (hlt q z))]
      exact hS1.2.1 q h1 h2
    · rcases List.mem_append.mp hq with h | h
      · exact hS1.2.2 q h
      · exact hlt _ (hL q h)
  have hz9 : T'.heap.size = H.size + 1 + kc := by rw [e2]; exact hz rfl
  have hkept : ∀ q : Nat, q < H.size → T'.heap[q]? = H[q]? := by
    intro q h1
    rw [e2, hF2 q (by omega) (fun z => by rcases z with ⟨z1, z2⟩ | z1 <;> omega)]
    exact o1 q h1
  obtain ⟨t2, a1, b1⟩ := k v' M' T'.heap (locs ++ Lc) hQ (by rw [e2]; exact hP1) hS2 hz9 hkept T' rfl X'
  exact ⟨t2, stp t2 a1, b1⟩
theorem lw_callS {hd : qH} {B n : Nat} {M : qM} {μ' : qMI} {Q' : Option Value → qM → Prop} {index na : Nat} {as st stk : List Value} {H : Heap} {locs : List Loc} {cs sl pc : Nat} {ls : Array Slot} {Qs : State → Prop}
    (C0 : lw_At p s m meth c b L xs) (hK : va_K D vwCl (qT tc) s) (d : decode code pc = .ok (.invokestatic index, 3)) (hm : qStat μ' na) (hl : Cond.methodLink RL index μ'.2.1 ∈ WS) (hC : Ct l hd (n, false, 0, 0) μ' as M Q') (hs : stk = (as.map (qV B)).reverse ++ st) (hn : as.length = na) (hls : ls.size = 5)
    (hR : μ'.2.2.2.2.cells = 0 ∧ μ'.2.2.2.2.slots = 0 ∧ μ'.2.2.2.2.frames + 1 ≤ 11 ∧ 8 + (μ'.2.2.1 + 11) + μ'.2.2.2.2.locals ≤ 452 ∧ cs ≤ 600000 ∧ sl ≤ 7302250) (hst : (st.map fun v => v.category).sum ≤ 8)
    (hP : va_P D vwCl (qW hd tc B n M) H) (hS : va_S (fun q => s.heap.size ≤ q) s.heap H locs) (hB : s.heap.size ≤ B)
    (k : ∀ (v : Option Value) (M' : qM) (H1 : Heap) (locs1 : List Loc), Q' v M' → va_P D vwCl (qW hd tc B n M') H1 → va_S (fun q => s.heap.size ≤ q) s.heap H1 locs1 → W p l e room_1 s m #[.ref b] below meth c H1 locs1 cs sl Qs (F0 m (pc + 3) ls ((v.map (qV B)).toList ++ st))) :
    W p l e room_1 s m #[.ref b] below meth c H locs cs sl Qs (F0 m pc ls stk) := by
  subst hs
  obtain ⟨hx, hb, hr, hml, hown, hts, hX, hbl, hlocks, hgv⟩ := id C0
  have hts9 : ∀ w ∈ WS, w.before #[.ref b] s = true := fun w h => hts w (List.mem_filter.mp h).1
  have hC9 := hC D tc B H.size
  have hPc : ∀ U : State, U.heap = H → s.WarmedH U.vm → va_Pc (as.map (qV B)) (fun U => U.heap.size = H.size ∧ ((n, false, 0, 0).2.1 = true → H.size = B + n ∧ qN U) ∧ va_P D vwCl (qW hd tc B n M) U.heap ∧ va_K D vwCl (qT tc) U) (as.map (qV B)).toArray U := by
    intro U hU hW
    exact ⟨rfl, by rw [hU], (fun h => by cases h), by rw [hU]; exact hP, va_K.moved hW.alike hK⟩
  have hcat : 2 * (F0 m pc ls ([] : List Value)).monitorRoom + (st.map fun v => v.category).sum ≤ 8 := lv_room hst
  have hG : GoodIn WS (va_wsS RL index μ'.2.1 (qWs μ')) := by
    have g : ∀ w : Cond, w ∈ WS → w ∈ WS ∧ ((w.onTables && w.keeps) = true ∨ ∃ ty, w = .arrayClass ty) := fun w h => ⟨h, good_of_word (List.mem_filter.mp h).2⟩
    refine goodIn_app9 (fun w hw => ?_) (lGood hm.2.1)
    rcases List.mem_cons.mp hw with rfl | hw
    · exact g _ hl
    rcases List.mem_cons.mp hw with rfl | hw
    · exact g _ hm.1
    rcases List.mem_cons.mp hw with rfl | hw
    · exact g _ hm.2.2.1
    cases hw
  have hown9 : s.vm.findClass RL = some m.cls := hown
  have hrun := va_runS (p := p) (l := l) (e := e) (R := room_1) (below := below) (meth := meth) (H := H) (locs := locs) (cells := cs) (slots := sl) (As := as.map (qV B)) (rest := st) (g := F0 m pc ls ((as.map (qV B)).reverse ++ st)) (Ts := WS) ⟨hx, hb, hml, hown9, hts9⟩ hC9 (va_cwS na hts9 hG rfl hR.1 hR.2.1 hm.2.2.2 ⟨hR.2.2.1, hR.2.2.2.1⟩)
    ⟨q_blind, hPc⟩ rfl (by simpa using hn) hls rfl hcat d ⟨hR.2.2.2.2.1, hR.2.2.2.2.2⟩
  intro U hU X
  obtain ⟨v, st₀, t, T', Lc, e0, X', hL, e1, e2, ⟨⟨v', M', hv, hQ, hz, hP1⟩, hF⟩, stp⟩ := hrun U hU X
  have hlt : ∀ q : Nat, qFr B n H.size q → s.heap.size ≤ q := by
    intro q hq
    rcases hq with ⟨h1, h2⟩ | h1
    · omega
    · exact Nat.le_trans hS.1 h1
  have hF1 : H.size ≤ t.heap.size := by rw [← e0]; exact hF.1
  have hF2 : ∀ q : Nat, q < H.size → ¬ qFr B n H.size q → t.heap[q]? = H[q]? := by
    intro q h1 h2
    have := hF.2 q (by rw [e0]; exact h1) (by rw [e0]; exact h2)
    rw [e0] at this; exact this
  have hvv : v = v'.map (qV B) := Outcome.returned.inj hv
  subst hvv
  have hS1 : va_S (fun q => s.heap.size ≤ q) s.heap T'.heap (locs ++ Lc) := by
    refine ⟨Nat.le_trans hS.1 (by rw [e1]; exact hF1), fun q h1 h2 => ?_, fun q hq => ?_⟩
    · rw [e1, hF2 q (Nat.lt_of_lt_of_le h1 hS.1) (fun z => h2 (hlt q z))]
      exact hS.2.1 q h1 h2
    · rcases List.mem_append.mp hq with h | h
      · exact hS.2.2 q h
      · exact hlt _ (hL q h)
  obtain ⟨t2, a1, b1⟩ := k v' M' T'.heap (locs ++ Lc) hQ (by rw [e1]; exact hP1) hS1 T' rfl X'
  exact ⟨t2, stp t2 a1, b1⟩
/-- a number of the script, or one of its own making: 0 to 2147483647 -/
def cellQ : Array Value → State → Outcome → State → Prop := fun _ st oc t => (∃ y, y < 2147483648 ∧ oc = .returned (some (.int (nI y)))) ∧ va_F (fun _ => False) st t
def cellP (b L : Nat) (xs : Nat → Int32) (k : Nat) : Array Value → State → Prop := va_Pc [.ref b, .int (nI k)] (fun U => va_X b L xs U U.heap ∧ b < U.heap.size)
theorem and31_lt (a : Nat) : a &&& 2147483647 < 2147483648 := Nat.lt_of_le_of_lt Nat.and_le_right (by decide)
theorem c_cell (hL : L ≤ 260) {k : Nat} (hk : k < 1000) : Met l yL_cell (qWs mL_cell) mL_cell.2.2.2.2 (cellP b L xs k) cellQ 0 0 (fun _ => False) := by
  refine Met.ofW (cc := cL_cell) (maxL := 2) (ret := some .int) (by decide +kernel) rfl ?_
  intro p e s m args below meth c s₁ Bd hml hv
  obtain ⟨rfl, hX, hbl⟩ := hv
  have hts : ∀ w ∈ WS, w.before _ s = true := fun w h => atoms_spec (ws := qWs mL_cell) Bd.pre w (List.mem_cons_of_mem _ h)
  have hown : s.vm.findClass RL = some m.cls := findClass_of_methodNamed Bd.named
  have hx := Bd.exec
  have hb := Bd.bytes
  have hr := Bd.returns
  have hlk := Bd.notSynchronized
  have hl := lv_entry ([.ref b, .int (nI k)]) (n := 2) (Nat.le_of_ble_eq_true rfl)
  rw [lg_entry_eq]
  generalize (lg_sl ([.ref b, .int (nI k)]) ++ List.replicate (2 - (lg_sl ([.ref b, .int (nI k)])).length) Slot.unset).toArray = ls at hl ⊢
  have hl : lv_has ls 2 [(0, .ref b), (1, .int (nI k))] := hl
  have hS : va_S (fun _ => False) s.heap s.heap [] := va_S.rf
  have fin : ∀ z : Int32, W p l e (headSpec (qWs mL_cell) mL_cell.2.2.2.2).room s m ([.ref b, .int (nI k)] : List Value).toArray below meth c s.heap [] 0 0 (MQ below cellQ ([.ref b, .int (nI k)] : List Value).toArray s 0 0 (fun _ => False)) (F0 m 19 ls [.int z]) := by
    intro z
    obtain ⟨a, ha, rfl⟩ := nN_of z
    refine lv_ldc (v := nI 2147483647) hx hb hown (hts _ wN_L_8) (q_d dL_cell_0 13 rfl) ?_
    refine lv_iand hx hb (q_d dL_cell_0 14 rfl) ?_
    rw [nN_and]
    exact W.iret hx hb hr (fun t ht _ => ⟨⟨_, and31_lt a, rfl⟩, hS.F ht⟩) hS.2.2 (q_d dL_cell_0 15 rfl) hlk
  refine lv_iload_n hx hb (q_d dL_cell_0 0 rfl) rfl (lv_at hl 1 rfl) ?_
  refine lv_aload_n hx hb (q_d dL_cell_0 1 rfl) rfl (lv_at hl 0 rfl) ?_
  refine va_slen hx hb hX hbl (fun q => q) hS (q_d dL_cell_0 2 rfl) ?_
  refine lv_icmp_ge (tgt := 12) hx hb (q_d dL_cell_0 3 rfl) (by decide) (fun _ => ?_) (fun h => ?_)
  · refine lv_ldc (v := nI 40692) hx hb hown (hts _ wN_L_7) (q_d dL_cell_0 8 rfl) ?_
    refine lv_iload_n hx hb (q_d dL_cell_0 9 rfl) rfl (lv_at hl 1 rfl) ?_
    refine lv_bipush (v := nI 61) hx hb (q_d dL_cell_0 10 rfl) (by decide) ?_
    refine lv_iadd hx hb (q_d dL_cell_0 11 rfl) ?_
    refine lv_imul hx hb (q_d dL_cell_0 12 rfl) ?_
    exact fin _
  · have hkL : k < L := by
      refine Nat.lt_of_not_le (fun q => h ?_)
      exact (nN_le (show L < 2 ^ 31 by omega) (show k < 2 ^ 31 by omega)).mpr q
    refine lv_aload_n hx hb (q_d dL_cell_0 4 rfl) rfl (lv_at hl 0 rfl) ?_
    refine lv_iload_n hx hb (q_d dL_cell_0 5 rfl) rfl (lv_at hl 1 rfl) ?_
    refine va_sld hx hb hX hbl (fun q => q) hS (nI_in hkL (by omega)) (q_d dL_cell_0 6 rfl) ?_
    refine lv_goto (tgt := 19) hx hb (q_d dL_cell_0 7 rfl) (by decide) ?_
    exact fin _
theorem cell_blind {k : Nat} : FrameBlind (cellP b L xs k) := by
  intro a U g mk q
  obtain ⟨q0, q1, q2⟩ := q
  exact ⟨q0, va_X.moved (u := U) (U := U.calling g mk a) (Vm.Alike.refl U.vm) q1, q2⟩
theorem qW_kept {hd : qH} {B n : Nat} {M : qM} {H H1 : Heap} (hP : va_P D vwCl (qW hd tc B n M) H) (h : ∀ a, a < n → H1[B + a]? = H[B + a]?) : va_P D vwCl (qW hd tc B n M) H1 := by
  intro k q hk
  obtain ⟨h1, rfl⟩ := qW_inv hk
  exact (hP k _ hk).kept (h k h1)
theorem lw_cell {hd : qH} {B n : Nat} {M : qM} {index k : Nat} {st : List Value} {H : Heap} {locs : List Loc} {cs sl pc : Nat} {ls : Array Slot} {Qs : State → Prop}
    (C0 : lw_At p s m meth c b L xs) (hL9 : L ≤ 260) (hk : k < 1000) (d : decode code pc = .ok (.invokestatic index, 3)) (hl : Cond.methodLink RL index yL_cell ∈ WS) (hls : ls.size = 5) (hR : cs ≤ 600000 ∧ sl ≤ 7302250) (hst : (st.map fun v => v.category).sum ≤ 8)
    (hP : va_P D vwCl (qW hd tc B n M) H) (hS : va_S (fun q => s.heap.size ≤ q) s.heap H locs)
    (k9 : ∀ (y : Nat) (H1 : Heap) (locs1 : List Loc), y < 2147483648 → va_P D vwCl (qW hd tc B n M) H1 → va_S (fun q => s.heap.size ≤ q) s.heap H1 locs1 → W p l e room_1 s m #[.ref b] below meth c H1 locs1 cs sl Qs (F0 m (pc + 3) ls (.int (nI y) :: st))) :
    W p l e room_1 s m #[.ref b] below meth c H locs cs sl Qs (F0 m pc ls (.int (nI k) :: .ref b :: st)) := by
  obtain ⟨hx, hb, hr, hml, hown, hts, hX, hbl, hlocks, hgv⟩ := id C0
  have hts9 : ∀ w ∈ WS, w.before #[.ref b] s = true := fun w h => hts w (List.mem_filter.mp h).1
  have hXH : va_X b L xs s H := hX.kept (hS.2.1 b hbl (Nat.not_le.mpr hbl))
  have hbH : b < H.size := Nat.lt_of_lt_of_le hbl hS.1
  have hPc : ∀ U : State, U.heap = H → s.WarmedH U.vm → cellP b L xs k ([.ref b, .int (nI k)] : List Value).toArray U := by
    intro U hU hW
    exact ⟨rfl, by rw [hU]; exact va_X.moved hW.alike hXH, by rw [hU]; exact hbH⟩
  have hcat : 2 * (F0 m pc ls ([] : List Value)).monitorRoom + (st.map fun v => v.category).sum ≤ 8 := lv_room hst
  have hm := uL_cell
  have hG : GoodIn WS (va_wsS RL index yL_cell (qWs mL_cell)) := by
    have g : ∀ w : Cond, w ∈ WS → w ∈ WS ∧ ((w.onTables && w.keeps) = true ∨ ∃ ty, w = .arrayClass ty) := fun w h => ⟨h, good_of_word (List.mem_filter.mp h).2⟩
    refine goodIn_app9 (fun w hw => ?_) (lGood hm.2.1)
    rcases List.mem_cons.mp hw with rfl | hw
    · exact g _ hl
    rcases List.mem_cons.mp hw with rfl | hw
    · exact g _ hm.1
    rcases List.mem_cons.mp hw with rfl | hw
    · exact g _ hm.2.2.1
    cases hw
  have hown9 : s.vm.findClass RL = some m.cls := hown
  have hrun := va_runS (p := p) (l := l) (e := e) (R := room_1) (below := below) (meth := meth) (H := H) (locs := locs) (cells := cs) (slots := sl) (As := [.ref b, .int (nI k)]) (rest := st) (g := F0 m pc ls (.int (nI k) :: .ref b :: st)) (Ts := WS) ⟨hx, hb, hml, hown9, hts9⟩ (c_cell (l := l) (b := b) (xs := xs) hL9 hk) (va_cwS 2 hts9 hG rfl rfl rfl hm.2.2.2 ⟨Nat.le_of_ble_eq_true rfl, Nat.le_of_ble_eq_true rfl⟩)
    ⟨cell_blind, hPc⟩ rfl rfl hls rfl hcat d hR
  intro U hU X
  obtain ⟨v, st₀, t, T', Lc, e0, X', hL, e1, e2, ⟨⟨y, hy, hv⟩, hF⟩, stp⟩ := hrun U hU X
  have hF1 : H.size ≤ t.heap.size := by rw [← e0]; exact hF.1
  have hF2 : ∀ q : Nat, q < H.size → t.heap[q]? = H[q]? := by
    intro q h1
    have := hF.2 q (by rw [e0]; exact h1) (fun z => z)
    rw [e0] at this; exact this
  have hvv : v = some (.int (nI y)) := Outcome.returned.inj hv
  subst hvv
  have hS1 : va_S (fun q => s.heap.size ≤ q) s.heap T'.heap (locs ++ Lc) := by
    refine ⟨Nat.le_trans hS.1 (by rw [e1]; exact hF1), fun q h1 h2 => ?_, fun q hq => ?_⟩
    · rw [e1, hF2 q (Nat.lt_of_lt_of_le h1 hS.1)]
      exact hS.2.1 q h1 h2
    · rcases List.mem_append.mp hq with h | h
      · exact hS.2.2 q h
      · exact (hL q h).elim
  obtain ⟨t2, a1, b1⟩ := k9 y T'.heap (locs ++ Lc) hy (qW_kept hP (fun a ha => by rw [e1]; exact hF2 _ ((hP a _ (qW_get ha)).lt))) hS1 T' rfl X'
  exact ⟨t2, stp t2 a1, b1⟩
/-! the law's judgement: locals lv, the object at the first free place -/
def LT (p : Program) (l : Launch) (e : Env) (s : State) (m : MethodId) (below : List Frame) (meth : Method) (c : Code) (b : Nat) (D : va_G) (tc : Nat → ClassId) (pc : Nat) (lv : List (Nat × Value)) (st : List Value) (MX : qM) : Prop :=
  ∀ (H : Heap) (locs : List Loc) (ls : Array Slot), va_S (fun q => s.heap.size ≤ q) s.heap H locs → va_P D vwCl (qW hdX tc s.heap.size 71 MX) H → lv_has ls 5 lv →
    W p l e room_1 s m #[.ref b] below meth c H locs 71 1882 (lw_Z below #[.ref b] s) (F0 m pc ls st)
variable {pc pc' tgt : Nat} {lv : List (Nat × Value)} {st : List Value} {MX : qM}
theorem LW.sub {lv' : List (Nat × Value)} (ks : List Nat) (h : lv_pick lv ks = lv') (k : LT p l e s m below meth c b D tc pc lv' st MX) : LT p l e s m below meth c b D tc pc lv st MX := by
  intro H locs ls hS hP hL
  exact k H locs ls hS hP (lv_sub hL ks h)
theorem LW.aload_n {k0 : Fin 4} {i a : Nat} (C0 : lw_At p s m meth c b L xs) (d : decode code pc = .ok (.aload_n k0, 1)) (hp : pc + 1 = pc') (hi : (k0 : Nat) = i) (j : Nat) (hj : lv[j]? = some (i, .ref a)) (k : LT p l e s m below meth c b D tc pc' lv (.ref a :: st) MX) : LT p l e s m below meth c b D tc pc lv st MX := by
  subst hp
  intro H locs ls hS hP hL
  exact lv_aload_n C0.1 C0.2.1 d hi (lv_at hL j hj) (k H locs ls hS hP hL)
theorem LW.iload_n {k0 : Fin 4} {i : Nat} {x : Int32} (C0 : lw_At p s m meth c b L xs) (d : decode code pc = .ok (.iload_n k0, 1)) (hp : pc + 1 = pc') (hi : (k0 : Nat) = i) (j : Nat) (hj : lv[j]? = some (i, .int x)) (k : LT p l e s m below meth c b D tc pc' lv (.int x :: st) MX) : LT p l e s m below meth c b D tc pc lv st MX := by
  subst hp
  intro H locs ls hS hP hL
  exact lv_iload_n C0.1 C0.2.1 d hi (lv_at hL j hj) (k H locs ls hS hP hL)
theorem LW.iload {i : Nat} {x : Int32} (C0 : lw_At p s m meth c b L xs) (d : decode code pc = .ok (.iload i, 2)) (hp : pc + 2 = pc') (j : Nat) (hj : lv[j]? = some (i, .int x)) (k : LT p l e s m below meth c b D tc pc' lv (.int x :: st) MX) : LT p l e s m below meth c b D tc pc lv st MX := by
  subst hp
  intro H locs ls hS hP hL
  exact lv_iload C0.1 C0.2.1 d (lv_at hL j hj) (k H locs ls hS hP hL)
theorem LW.istore_n {k0 : Fin 4} {i : Nat} {x : Int32} {lv' : List (Nat × Value)} (C0 : lw_At p s m meth c b L xs) (d : decode code pc = .ok (.istore_n k0, 1)) (hp : pc + 1 = pc') (hi : (k0 : Nat) = i) (hn : i < 5) (hl : (i, Value.int x) :: lv.filter (fun q => !(q.1 == i) && !(q.1 + 1 == i && q.2.category == 2)) = lv') (k : LT p l e s m below meth c b D tc pc' lv' st MX) : LT p l e s m below meth c b D tc pc lv (.int x :: st) MX := by
  subst hp
  intro H locs ls hS hP hL
  exact lv_istore_n C0.1 C0.2.1 d hi hL hn hl (fun ls' hL' => k H locs ls' hS hP hL')
theorem LW.istore {i : Nat} {x : Int32} {lv' : List (Nat × Value)} (C0 : lw_At p s m meth c b L xs) (d : decode code pc = .ok (.istore i, 2)) (hp : pc + 2 = pc') (hn : i < 5) (hl : (i, Value.int x) :: lv.filter (fun q => !(q.1 == i) && !(q.1 + 1 == i && q.2.category == 2)) = lv') (k : LT p l e s m below meth c b D tc pc' lv' st MX) : LT p l e s m below meth c b D tc pc lv (.int x :: st) MX := by
  subst hp
  intro H locs ls hS hP hL
  exact lv_istore C0.1 C0.2.1 d hL hn hl (fun ls' hL' => k H locs ls' hS hP hL')
theorem LW.iconst {n : Int} {v : Int32} (C0 : lw_At p s m meth c b L xs) (d : decode code pc = .ok (.iconst n, 1)) (hp : pc + 1 = pc') (hv : Int32.ofInt n = v) (k : LT p l e s m below meth c b D tc pc' lv (.int v :: st) MX) : LT p l e s m below meth c b D tc pc lv st MX := by
  subst hp
  intro H locs ls hS hP hL
  exact lv_iconst C0.1 C0.2.1 d hv (k H locs ls hS hP hL)
theorem LW.bipush {n : Int} {v : Int32} (C0 : lw_At p s m meth c b L xs) (d : decode code pc = .ok (.bipush n, 2)) (hp : pc + 2 = pc') (hv : (Int8.ofInt n).toInt32 = v) (k : LT p l e s m below meth c b D tc pc' lv (.int v :: st) MX) : LT p l e s m below meth c b D tc pc lv st MX := by
  subst hp
  intro H locs ls hS hP hL
  exact lv_bipush C0.1 C0.2.1 d hv (k H locs ls hS hP hL)
theorem LW.ldc {index : Nat} {v : Int32} (C0 : lw_At p s m meth c b L xs) (d : decode code pc = .ok (.ldc index, 2)) (hp : pc + 2 = pc') (hc : Cond.constant RL index v ∈ WS) (k : LT p l e s m below meth c b D tc pc' lv (.int v :: st) MX) : LT p l e s m below meth c b D tc pc lv st MX := by
  subst hp
  intro H locs ls hS hP hL
  exact lv_ldc C0.1 C0.2.1 (own := RL) C0.2.2.2.2.1 (C0.2.2.2.2.2.1 _ (List.mem_filter.mp hc).1) d (k H locs ls hS hP hL)
theorem LW.iadd {x y z : Int32} (C0 : lw_At p s m meth c b L xs) (d : decode code pc = .ok (.iadd, 1)) (hp : pc + 1 = pc') (hz : x + y = z) (k : LT p l e s m below meth c b D tc pc' lv (.int z :: st) MX) : LT p l e s m below meth c b D tc pc lv (.int y :: .int x :: st) MX := by
  subst hp; subst hz
  intro H locs ls hS hP hL
  exact lv_iadd C0.1 C0.2.1 d (k H locs ls hS hP hL)
theorem LW.irem {x y z : Int32} (C0 : lw_At p s m meth c b L xs) (d : decode code pc = .ok (.irem, 1)) (hp : pc + 1 = pc') (hne : ¬ y = 0) (hz : x - x / y * y = z) (k : LT p l e s m below meth c b D tc pc' lv (.int z :: st) MX) : LT p l e s m below meth c b D tc pc lv (.int y :: .int x :: st) MX := by
  subst hp; subst hz
  intro H locs ls hS hP hL
  exact lv_irem C0.1 C0.2.1 d hne (k H locs ls hS hP hL)
theorem LW.iinc {i : Nat} {dd : Int} {j : Nat} {x z : Int32} {lv' : List (Nat × Value)} (C0 : lw_At p s m meth c b L xs) (d : decode code pc = .ok (.iinc i dd, 3)) (hp : pc + 3 = pc') (hj : lv[j]? = some (i, .int x)) (hz : x + Int32.ofInt dd = z) (hn : i < 5) (hl : (i, Value.int z) :: lv.filter (fun q => !(q.1 == i) && !(q.1 + 1 == i && q.2.category == 2)) = lv') (k : LT p l e s m below meth c b D tc pc' lv' st MX) : LT p l e s m below meth c b D tc pc lv st MX := by
  subst hp
  intro H locs ls hS hP hL
  exact lv_iinc (k := j) C0.1 C0.2.1 d hL hj hz hn hl (fun ls' hL' => k H locs ls' hS hP hL')
theorem LW.goto {off : Int} (C0 : lw_At p s m meth c b L xs) (d : decode code pc = .ok (.goto off, 3)) (ht : (pc : Int) + off = (tgt : Int)) (k : LT p l e s m below meth c b D tc tgt lv st MX) : LT p l e s m below meth c b D tc pc lv st MX := by
  intro H locs ls hS hP hL
  exact lv_goto C0.1 C0.2.1 d ht (k H locs ls hS hP hL)
theorem LW.if_eq {a : Nat} {off : Int} (C0 : lw_At p s m meth c b L xs) (d : decode code pc = .ok (.ifCond .eq off, 3)) (ht : (pc : Int) + off = (tgt : Int)) (hp : pc + 3 = pc') (ha : a < 2 ^ 32) (kt : a = 0 → LT p l e s m below meth c b D tc tgt lv st MX) (kf : a ≠ 0 → LT p l e s m below meth c b D tc pc' lv st MX) : LT p l e s m below meth c b D tc pc lv (.int (nI a) :: st) MX := by
  subst hp
  intro H locs ls hS hP hL
  exact lv_if_eq C0.1 C0.2.1 d ht (fun q => kt ((nN_eq ha (b := 0) (by decide)).mp q) H locs ls hS hP hL) (fun q => kf (fun z => q ((nN_eq ha (b := 0) (by decide)).mpr z)) H locs ls hS hP hL)
theorem LW.if_ne {a : Nat} {off : Int} (C0 : lw_At p s m meth c b L xs) (d : decode code pc = .ok (.ifCond .ne off, 3)) (ht : (pc : Int) + off = (tgt : Int)) (hp : pc + 3 = pc') (ha : a < 2 ^ 32) (kt : a ≠ 0 → LT p l e s m below meth c b D tc tgt lv st MX) (kf : a = 0 → LT p l e s m below meth c b D tc pc' lv st MX) : LT p l e s m below meth c b D tc pc lv (.int (nI a) :: st) MX := by
  subst hp
  intro H locs ls hS hP hL
  exact lv_if_ne C0.1 C0.2.1 d ht (fun q => kt (fun z => q ((nN_eq ha (b := 0) (by decide)).mpr z)) H locs ls hS hP hL) (fun q => kf ((nN_eq ha (b := 0) (by decide)).mp q) H locs ls hS hP hL)
theorem LW.icmp_ne {a a2 : Nat} {off : Int} (C0 : lw_At p s m meth c b L xs) (d : decode code pc = .ok (.if_icmp .ne off, 3)) (ht : (pc : Int) + off = (tgt : Int)) (hp : pc + 3 = pc') (ha : a = a2) (kf : LT p l e s m below meth c b D tc pc' lv st MX) : LT p l e s m below meth c b D tc pc lv (.int (nI a2) :: .int (nI a) :: st) MX := by
  subst hp; subst ha
  intro H locs ls hS hP hL
  exact lv_icmp_ne C0.1 C0.2.1 d ht (fun q => absurd rfl q) (fun _ => kf H locs ls hS hP hL)
theorem LW.icmp_ge {a a2 : Nat} {off : Int} (C0 : lw_At p s m meth c b L xs) (d : decode code pc = .ok (.if_icmp .ge off, 3)) (ht : (pc : Int) + off = (tgt : Int)) (hp : pc + 3 = pc') (h1 : a < 2 ^ 31) (h2 : a2 < 2 ^ 31) (kt : a2 ≤ a → LT p l e s m below meth c b D tc tgt lv st MX) (kf : a < a2 → LT p l e s m below meth c b D tc pc' lv st MX) : LT p l e s m below meth c b D tc pc lv (.int (nI a2) :: .int (nI a) :: st) MX := by
  subst hp
  intro H locs ls hS hP hL
  exact lv_icmp_ge C0.1 C0.2.1 d ht (fun q => kt ((nN_le h2 h1).mp q) H locs ls hS hP hL) (fun q => kf (Nat.lt_of_not_le (fun z => q ((nN_le h2 h1).mpr z))) H locs ls hS hP hL)
theorem LW.icmp_le {a a2 : Nat} {off : Int} (C0 : lw_At p s m meth c b L xs) (d : decode code pc = .ok (.if_icmp .le off, 3)) (ht : (pc : Int) + off = (tgt : Int)) (hp : pc + 3 = pc') (h1 : a < 2 ^ 31) (h2 : a2 < 2 ^ 31) (kt : a ≤ a2 → LT p l e s m below meth c b D tc tgt lv st MX) (kf : a2 < a → LT p l e s m below meth c b D tc pc' lv st MX) : LT p l e s m below meth c b D tc pc lv (.int (nI a2) :: .int (nI a) :: st) MX := by
  subst hp
  intro H locs ls hS hP hL
  exact lv_icmp_le C0.1 C0.2.1 d ht (fun q => kt ((nN_le h1 h2).mp q) H locs ls hS hP hL) (fun q => kf (Nat.lt_of_not_le (fun z => q ((nN_le h1 h2).mpr z))) H locs ls hS hP hL)
theorem LW.if_lt {a : Nat} {off : Int} (C0 : lw_At p s m meth c b L xs) (d : decode code pc = .ok (.ifCond .lt off, 3)) (ht : (pc : Int) + off = (tgt : Int)) (hp : pc + 3 = pc') (ha : a < 2 ^ 31) (kf : LT p l e s m below meth c b D tc pc' lv st MX) : LT p l e s m below meth c b D tc pc lv (.int (nI a) :: st) MX := by
  subst hp
  intro H locs ls hS hP hL
  exact lv_if_lt C0.1 C0.2.1 d ht (fun q => absurd q (nI_pos ha)) (fun _ => kf H locs ls hS hP hL)
abbrev lwR (μ' : qMI) : Prop := μ'.2.2.2.2.cells = 0 ∧ μ'.2.2.2.2.slots = 0 ∧ μ'.2.2.2.2.frames + 1 ≤ 11 ∧ 8 + (μ'.2.2.1 + 11) + μ'.2.2.2.2.locals ≤ 452 ∧ 71 ≤ 600000 ∧ 1882 ≤ 7302250
theorem LW.callV {μ' : qMI} {Q' : Option Value → qM → Prop} {index na N : Nat} {as stk : List Value} {F : u_T} (C0 : lw_At p s m meth c b L xs) (hK : va_K D vwCl (qT tc) s) (d : decode code pc = .ok (.invokevirtual index, 3)) (hp : pc + 3 = pc') (hm : qVirt μ' na) (hl : Cond.methodLink RL index μ'.2.1 ∈ WS) (hC : Ct l hdX kX μ' (.ref 0 :: as) MX Q') (hs : stk = (as.map (qV s.heap.size)).reverse ++ .ref s.heap.size :: st) (hn : as.length = na) (hc : vwCl[5]? = some (μ'.2.1.cls, F, N)) (hR : lwR μ') (hst : (st.map fun v => v.category).sum ≤ 8)
    (k : ∀ (v : Option Value) (M' : qM), Q' v M' → LT p l e s m below meth c b D tc pc' lv ((v.map (qV s.heap.size)).toList ++ st) M') : LT p l e s m below meth c b D tc pc lv stk MX := by
  subst hp
  intro H locs ls hS hP hL
  refine lw_callV C0 hK d hm hl hC hs hn (by decide) rfl hc hL.1 hR hst hP hS (Nat.le_refl _) (fun v M' H1 locs1 q1 q2 q3 q4 => ?_)
  exact k v M' q1 H1 locs1 ls q3 q2 hL
theorem LW.callS {μ' : qMI} {Q' : Option Value → qM → Prop} {index na : Nat} {as stk : List Value} (C0 : lw_At p s m meth c b L xs) (hK : va_K D vwCl (qT tc) s) (d : decode code pc = .ok (.invokestatic index, 3)) (hp : pc + 3 = pc') (hm : qStat μ' na) (hl : Cond.methodLink RL index μ'.2.1 ∈ WS) (hC : Ct l hdX kX μ' as MX Q') (hs : stk = (as.map (qV s.heap.size)).reverse ++ st) (hn : as.length = na) (hR : lwR μ') (hst : (st.map fun v => v.category).sum ≤ 8)
    (k : ∀ (v : Option Value) (M' : qM), Q' v M' → LT p l e s m below meth c b D tc pc' lv ((v.map (qV s.heap.size)).toList ++ st) M') : LT p l e s m below meth c b D tc pc lv stk MX := by
  subst hp
  intro H locs ls hS hP hL
  refine lw_callS C0 hK d hm hl hC hs hn hL.1 hR hst hP hS (Nat.le_refl _) (fun v M' H1 locs1 q1 q2 q3 => ?_)
  exact k v M' q1 H1 locs1 ls q3 q2 hL
theorem LW.cell {k0 : Nat} (C0 : lw_At p s m meth c b L xs) (hL9 : L ≤ 260) (hk : k0 < 1000) (d : decode code pc = .ok (.invokestatic 72, 3)) (hp : pc + 3 = pc') (hst : (st.map fun v => v.category).sum ≤ 8) (k : ∀ y, y < 2147483648 → LT p l e s m below meth c b D tc pc' lv (.int (nI y) :: st) MX) : LT p l e s m below meth c b D tc pc lv (.int (nI k0) :: .ref b :: st) MX := by
  subst hp
  intro H locs ls hS hP hL
  refine lw_cell C0 hL9 hk d wM_L_72 hL.1 ⟨by decide, by decide⟩ hst hP hS (fun y H1 locs1 q1 q2 q3 => ?_)
  exact k y q1 H1 locs1 ls q3 q2 hL
theorem LW.ret (C0 : lw_At p s m meth c b L xs) (d : decode code pc = .ok (.ireturn, 1)) : LT p l e s m below meth c b D tc pc lv [.int 1] MX := by
  intro H locs ls hS hP hL
  obtain ⟨hx, hb, hr, hml, hown, hts, hX, hbl, hlocks, hgv⟩ := id C0
  refine va_forget hS.2.2 ?_
  refine W.widen (k := 600000) (n := 7302250) (by decide) (by decide) ?_
  exact lw_ret hx hb hr hlocks d
end Law
