/-! the law's own walk: two worlds, a BlindHunts from the heap's first free place on, a BlindHuntsModel behind it -/
theorem lGood {μ' : qMI} (h : Cond.code μ'.2.1 μ'.1 μ'.2.2.1 μ'.2.2.2.1 ∈ WS) : GoodIn WS (qWs μ') := by
  have g : ∀ w : Cond, w ∈ WS → w ∈ WS ∧ ((w.onTables && w.keeps) = true ∨ ∃ ty, w = .arrayClass ty) := fun w h => ⟨h, good_of_word (List.mem_filter.mp h).2⟩
  intro w hw
  rcases List.mem_cons.mp hw with rfl | hw
  · exact g _ h
  · exact g _ hw
section Law
variable {p : Program} {l : Launch} {e : Env} {s : State} {m : MethodId} {below : List Frame} {meth : Method} {c : Code} {b L : Nat} {xs : Nat → Int32} {D : va_G} {tc : Nat → ClassId}
theorem lw_callV {hd : qH} {B n : Nat} {M : qM} {μ' : qMI} {Q' : Option Value → qM → Prop} {index na : Nat} {as st stk : List Value} {ci N : Nat} {F : u_T} {H : Heap} {locs : List Loc} {cs sl pc : Nat} {ls : Array Slot} {Qs : State → Prop}
    (C0 : lw_At p s m meth c b L xs) (hK : va_K D vwCl (qT tc) s) (d : decode code pc = .ok (.invokevirtual index, 3)) (hm : qVirt μ' na) (hl : Cond.methodLink RL index μ'.2.1 ∈ WS) (hC : Ct l hd (n, false, 0, 0) μ' (.ref 0 :: as) M Q') (hs : stk = (as.map (qV B)).reverse ++ .ref B :: st) (hn : as.length = na) (h0 : 0 < n) (hh : hd 0 = .inl ci) (hc : vwCl[ci]? = some (μ'.2.1.cls, F, N)) (hls : ls.size = 4)
    (hR : μ'.2.2.2.2.cells = 0 ∧ μ'.2.2.2.2.slots = 0 ∧ μ'.2.2.2.2.frames + 1 ≤ 9 ∧ 8 + (μ'.2.2.1 + 11) + μ'.2.2.2.2.locals ≤ 334 ∧ cs ≤ 600000 ∧ sl ≤ 7302250) (hst : (st.map fun v => v.category).sum ≤ 8)
    (hP : va_P D vwCl (qW hd tc B n M) H) (hS : va_S (fun q => s.heap.size ≤ q) s.heap H locs) (hB : s.heap.size ≤ B)
    (k : ∀ (v : Option Value) (M' : qM) (H1 : Heap) (locs1 : List Loc), Q' v M' → va_P D vwCl (qW hd tc B n M') H1 → va_S (fun q => s.heap.size ≤ q) s.heap H1 locs1 → (∀ q : Nat, q < H.size → ¬ (B ≤ q ∧ q < B + n) → H1[q]? = H[q]?) → W p l e room_1 s m #[.ref b] below meth c H1 locs1 cs sl Qs (F0 m (pc + 3) ls ((v.map (qV B)).toList ++ st))) :
    W p l e room_1 s m #[.ref b] below meth c H locs cs sl Qs (F0 m pc ls stk) := by
  subst hs
  obtain ⟨hx, hb, hr, hml, hown, hts, hX, hbl, hlocks, hgv⟩ := id C0
  have hts9 : ∀ w ∈ WS, w.before #[.ref b] s = true := fun w h => hts w (List.mem_filter.mp h).1
  have hC9 := hC D tc B H.size
  have hPc : ∀ U : State, U.heap = H → s.WarmedH U.vm → va_Pc ((.ref 0 :: as).map (qV B)) (fun U => U.heap.size = H.size ∧ ((n, false, 0, 0).2.1 = true → H.size = B + n ∧ qN U) ∧ va_P D vwCl (qW hd tc B n M) U.heap ∧ va_K D vwCl (qT tc) U) ((.ref 0 :: as).map (qV B)).toArray U := by
    intro U hU hW
    exact ⟨rfl, by rw [hU], (fun h => by cases h), by rw [hU]; exact hP, va_K.moved hW.alike hK⟩
  have hcat : 2 * (F0 m pc ls ([] : List Value)).monitorRoom + (st.map fun v => v.category).sum ≤ 8 := lv_room hst
  have hG : GoodIn WS (wsV RL index μ'.2.1.cls μ'.2.1 (qWs μ')) := by
    have g : ∀ w : Cond, w ∈ WS → w ∈ WS ∧ ((w.onTables && w.keeps) = true ∨ ∃ ty, w = .arrayClass ty) := fun w h => ⟨h, good_of_word (List.mem_filter.mp h).2⟩
    refine goodIn_app9 (fun w hw => ?_) (lGood hm.2.2.1)
    rcases List.mem_cons.mp hw with rfl | hw
    · exact g _ hl
    rcases List.mem_cons.mp hw with rfl | hw
    · exact g _ hm.1
    rcases List.mem_cons.mp hw with rfl | hw
    · exact g _ hm.2.1
    rcases List.mem_cons.mp hw with rfl | hw
    · exact g _ hm.2.2.2.1
    cases hw
  have hown9 : s.vm.findClass RL = some m.cls := hown
  have hrun := va_runV (p := p) (l := l) (e := e) (R := room_1) (below := below) (meth := meth) (H := H) (locs := locs) (cells := cs) (slots := sl) (C := μ'.2.1.cls) (b := B) (As := as.map (qV B)) (rest := st) (g := F0 m pc ls ((as.map (qV B)).reverse ++ .ref B :: st)) (Ts := WS) ⟨hx, hb, hml, hown9, hts9⟩ hC9 (cwV na hts9 hG rfl hR.1 hR.2.1 ⟨rfl, hm.2.2.2.2⟩ ⟨hR.2.2.1, hR.2.2.2.1⟩)
    ⟨q_blind, va_recv (fs := qF B M 0 (qK ci)) hK hP (ci := ci) (q0 := 0) hc (by rw [qW_get h0]; simp only [qE, hh]; rfl), hPc⟩ rfl (by simpa using hn) hls rfl hcat d ⟨hR.2.2.2.2.1, hR.2.2.2.2.2⟩
  intro U hU X
  obtain ⟨v, st₀, t, T', Lc, e0, X', hL, e1, e2, ⟨⟨v', M', hv, hQ, hz, hP1⟩, hF⟩, stp⟩ := hrun U hU X
  have hlt : ∀ q : Nat, qFr B n H.size q → s.heap.size ≤ q := by
    intro q hq
    rcases hq with ⟨h1, h2⟩ | h1
    · omega
    · exact Nat.le_trans hS.1 h1
  have hF1 : H.size ≤ t.heap.size := by rw [← e0]; exact hF.1
  have hF2 : ∀ q : Nat, q < H.size → ¬ qFr B n H.size q → t.heap[q]? = H[q]? := by
    intro q h1 h2
    have := hF.2 q (by rw [e0]; exact h1) (by rw [e0]; exact h2)
    rw [e0] at this; exact this
  have hvv : v = v'.map (qV B) := Outcome.returned.inj hv
  subst hvv
  have hS1 : va_S (fun q => s.heap.size ≤ q) s.heap T'.heap (locs ++ Lc) := by
    refine ⟨Nat.le_trans hS.1 (by rw [e1]; exact hF1), fun q h1 h2 => ?_, fun q hq => ?_⟩
    · rw [e1, hF2 q (Nat.lt_of_lt_of_le h1 hS.1) (fun z => h2 (hlt q z))]
      exact hS.2.1 q h1 h2
    · rcases List.mem_append.mp hq with h | h
      · exact hS.2.2 q h
      · exact hlt _ (hL q h)
  have hkept : ∀ q : Nat, q < H.size → ¬ (B ≤ q ∧ q < B + n) → T'.heap[q]? = H[q]? := by
    intro q h1 h2
    rw [e1]
    exact hF2 q h1 (fun z => z.elim h2 (fun z => by omega))
  obtain ⟨t2, a1, b1⟩ := k v' M' T'.heap (locs ++ Lc) hQ (by rw [e1]; exact hP1) hS1 hkept T' rfl X'
  exact ⟨t2, stp t2 a1, b1⟩
theorem lw_make {hd : qH} {B kc ks : Nat} {μ' : qMI} {Q' : Option Value → qM → Prop} {i1 i2 : Nat} {st : List Value} {ci N : Nat} {F : u_T} {H : Heap} {locs : List Loc} {cs sl pc : Nat} {ls : Array Slot} {Qs : State → Prop}
    (C0 : lw_At p s m meth c b L xs) (hK : va_K D vwCl (qT tc) s) (hN : qN s) (d0 : decode code pc = .ok (.new i1, 3)) (d1 : decode code (pc + 3) = .ok (.dup, 1)) (d2 : decode code (pc + 3 + 1) = .ok (.invokespecial i2, 3)) (hm : qCtor μ' 0) (hl : Cond.methodLink RL i2 μ'.2.1 ∈ WS) (hC : Ct l hd (1, true, kc, ks) μ' [.ref 0] (MM [] []) Q') (hh : hd 0 = .inl ci) (hc : vwCl[ci]? = some (μ'.2.1.cls, F, N))
    (hin : ∀ w ∈ u_ws μ'.2.1.cls F N, w ∈ WS) (ty0 : Nat → FieldType) (hty : ∀ k, k < N → parseFieldDescriptor (F k).2.2.1 = some (ty0 k)) (h1 : Cond.classLink RL i1 μ'.2.1.cls ∈ WS) (h2 : Cond.instantiable μ'.2.1.cls N ∈ WS) (hfs : ∀ j, j < N → ((qK ci)[j]? = some true ∧ defaultValue (ty0 j) = .null) ∨ ((qK ci)[j]? = some false ∧ defaultValue (ty0 j) = .int 0)) (hls : ls.size = 4)
    (hR : μ'.2.2.2.2.cells = kc ∧ μ'.2.2.2.2.slots = ks ∧ μ'.2.2.2.2.frames + 1 ≤ 9 ∧ 8 + (μ'.2.2.1 + 11) + μ'.2.2.2.2.locals ≤ 334 ∧ cs + 1 + kc ≤ 600000 ∧ sl + N + ks ≤ 7302250) (hst : ((Value.ref B :: st).map fun v => v.category).sum ≤ 8)
    (hB : H.size = B) (hS : va_S (fun q => s.heap.size ≤ q) s.heap H locs)
    (k : ∀ (v : Option Value) (M' : qM) (H1 : Heap) (locs1 : List Loc), Q' v M' → va_P D vwCl (qW hd tc B (1 + kc) M') H1 → va_S (fun q => s.heap.size ≤ q) s.heap H1 locs1 → H1.size = B + 1 + kc → (∀ q : Nat, q < B → H1[q]? = H[q]?) → W p l e room_1 s m #[.ref b] below meth c H1 locs1 (cs + 1 + kc) (sl + N + ks) Qs (F0 m (pc + 3 + 1 + 3) ls ((v.map (qV B)).toList ++ .ref B :: st))) :
    W p l e room_1 s m #[.ref b] below meth c H locs cs sl Qs (F0 m pc ls st) := by
  obtain ⟨hx, hb, hr, hml, hown, hts, hX, hbl, hlocks, hgv⟩ := id C0
  have hts9 : ∀ w ∈ WS, w.before #[.ref b] s = true := fun w h => hts w (List.mem_filter.mp h).1
  have hown9 : s.vm.findClass RL = some m.cls := hown
  have hKn := hK.1 ci _ hc
  refine W.newcK hx hb hown9 (hts9 _ h1) (hts9 _ h2) (hts9 _ hm.2.2.2.2.1) rfl d0 (show cs + 1 ≤ 600000 by omega) (show sl + N ≤ 7302250 by omega) hKn.2.1 rfl fun H1 kC hkC e1 z1 o1 => ?_
  have hP : va_P D vwCl (qW hd tc B 1 (MM [] [])) H1 := by
    intro k9 q hk
    obtain ⟨g1, rfl⟩ := qW_inv hk
    rw [show k9 = 0 by omega]
    simp only [qE, hh]
    refine ⟨_, hc, ?_⟩
    show t_OB (B + 0) _ _ _ _ _
    rw [Nat.add_zero, ← hB]
    refine (u_born ty0 hts9 hin hKn hkC e1 hty).to (fun j hj => ?_)
    show defaultValue (ty0 j) = (qF H.size (MM [] []) 0 (qK ci)).getD j .null
    rcases hfs j hj with ⟨g1, g2⟩ | ⟨g1, g2⟩
    · rw [List.getD_eq_getElem?_getD, qF_get g1, g2]; rfl
    · rw [List.getD_eq_getElem?_getD, qF_get g1, g2]; rfl
  have hS1 : va_S (fun q => s.heap.size ≤ q) s.heap H1 locs := ⟨Nat.le_trans hS.1 (by omega), fun q h1 h2 => (o1 q (Nat.lt_of_lt_of_le h1 hS.1)).trans (hS.2.1 q h1 h2), hS.2.2⟩
  refine lv_dup hx hb d1 rfl ?_
  have hC9 := hC D tc B H1.size
  have hPc : ∀ U : State, U.heap = H1 → s.WarmedH U.vm → va_Pc (([.ref 0] : List Value).map (qV B)) (fun U => U.heap.size = H1.size ∧ ((1, true, kc, ks).2.1 = true → H1.size = B + 1 ∧ qN U) ∧ va_P D vwCl (qW hd tc B 1 (MM [] [])) U.heap ∧ va_K D vwCl (qT tc) U) (([.ref 0] : List Value).map (qV B)).toArray U := by
    intro U hU hW
    exact ⟨rfl, by rw [hU], (fun _ => ⟨by omega, qN.moved hW hN⟩), by rw [hU]; exact hP, va_K.moved hW.alike hK⟩
  have hcat : 2 * (F0 m (pc + 3 + 1) ls ([] : List Value)).monitorRoom + ((Value.ref B :: st).map fun v => v.category).sum ≤ 8 := lv_room hst
  have hrun := va_runI (p := p) (l := l) (e := e) (R := room_1) (below := below) (meth := meth) (H := H1) (locs := locs) (cells := cs + 1) (slots := sl + N) (b := B) (As := []) (rest := .ref B :: st) (g := F0 m (pc + 3 + 1) ls (.ref B :: .ref B :: st)) (Ts := WS) ⟨hx, hb, hml, hown9, hts9⟩ hC9 (cwI 0 hts9 (lGood hm.2.2.2.1) (by unfold qWs; rw [hm.2.2.1]) hR.1 hR.2.1 (hts9 _ hm.2.2.2.2.1) (hts9 _ hl) (hts9 _ hm.1) hm.2.1 hm.2.2.2.2.2 ⟨hR.2.2.1, hR.2.2.2.1⟩)
    ⟨q_blind, hPc⟩ rfl rfl hls rfl hcat d2 ⟨hR.2.2.2.2.1, hR.2.2.2.2.2⟩
  intro U hU X
  subst hB
  obtain ⟨v, st₀, t, T', Lc, e0, X', hL, e2, e3, ⟨⟨v', M', hv, hQ, hz, hP1⟩, hF⟩, stp⟩ := hrun U hU X
  have hlt : ∀ q : Nat, qFr H.size 1 H1.size q → s.heap.size ≤ q := by
    intro q hq
    have := hS.1
    rcases hq with ⟨h1, h2⟩ | h1 <;> omega
  have hF1 : H1.size ≤ t.heap.size := by rw [← e0]; exact hF.1
  have hF2 : ∀ q : Nat, q < H1.size → ¬ qFr H.size 1 H1.size q → t.heap[q]? = H1[q]? := by
    intro q h1 h2
    have := hF.2 q (by rw [e0]; exact h1) (by rw [e0]; exact h2)
    rw [e0] at this; exact this
  have hvv : v = v'.map (qV H.size) := Outcome.returned.inj hv
  subst hvv
  have hS2 : va_S (fun q => s.heap.size ≤ q) s.heap T'.heap (locs ++ Lc) := by
    refine ⟨Nat.le_trans hS1.1 (by rw [e2]; exact hF1), fun q h1 h2 => ?_, fun q hq => ?_⟩
    · rw [e2, hF2 q (Nat.lt_of_lt_of_le h1 hS1.1) (fun z => h2 (hlt q z))]
      exact hS1.2.1 q h1 h2
    · rcases List.mem_append.mp hq with h | h
      · exact hS1.2.2 q h
      · exact hlt _ (hL q h)
  have hz9 : T'.heap.size = H.size + 1 + kc := by rw [e2]; exact hz rfl
  have hkept : ∀ q : Nat, q < H.size → T'.heap[q]? = H[q]? := by
    intro q h1
    rw [e2, hF2 q (by omega) (fun z => by rcases z with ⟨z1, z2⟩ | z1 <;> omega)]
    exact o1 q h1
  obtain ⟨t2, a1, b1⟩ := k v' M' T'.heap (locs ++ Lc) hQ (by rw [e2]; exact hP1) hS2 hz9 hkept T' rfl X'
  exact ⟨t2, stp t2 a1, b1⟩
def LT (p : Program) (l : Launch) (e : Env) (s : State) (m : MethodId) (below : List Frame) (meth : Method) (c : Code) (b : Nat) (D : va_G) (tc : Nat → ClassId) (pc : Nat) (st : List Value) (i : Nat) (MX MQ : qM) : Prop :=
  ∀ (H : Heap) (locs : List Loc) (ls : Array Slot), va_S (fun q => s.heap.size ≤ q) s.heap H locs → va_P D vwCl (qW hdX tc s.heap.size 71 MX) H → va_P D vwCl (qW hdM tc (s.heap.size + 71) 11 MQ) H → lv_has ls 4 [(3, .int (nI i)), (2, .ref (s.heap.size + 71)), (1, .ref s.heap.size), (0, .ref b)] →
    W p l e room_1 s m #[.ref b] below meth c H locs 82 2719 (lw_Z below #[.ref b] s) (F0 m pc ls st)
variable {pc i : Nat} {st : List Value} {MX MQ : qM}
theorem L1 (C0 : lw_At p s m meth c b L xs) (d : decode code pc = .ok (.aload_n 1, 1)) (k : LT p l e s m below meth c b D tc (pc + 1) (.ref s.heap.size :: st) i MX MQ) : LT p l e s m below meth c b D tc pc st i MX MQ := by
  intro H locs ls hS hP hQ hL
  exact lv_aload_n C0.1 C0.2.1 d rfl (lv_at hL 2 rfl) (k H locs ls hS hP hQ hL)
theorem L2 (C0 : lw_At p s m meth c b L xs) (d : decode code pc = .ok (.aload_n 2, 1)) (k : LT p l e s m below meth c b D tc (pc + 1) (.ref (s.heap.size + 71) :: st) i MX MQ) : LT p l e s m below meth c b D tc pc st i MX MQ := by
  intro H locs ls hS hP hQ hL
  exact lv_aload_n C0.1 C0.2.1 d rfl (lv_at hL 1 rfl) (k H locs ls hS hP hQ hL)
theorem LA0 (C0 : lw_At p s m meth c b L xs) (d0 : decode code pc = .ok (.aload_n 0, 1)) (d1 : decode code (pc + 1) = .ok (.iload_n 3, 1)) (d4 : decode code (pc + 2) = .ok (.iaload, 1)) (hj : i < L) (hL9 : L ≤ 2048)
    (k : LT p l e s m below meth c b D tc (pc + 3) (.int (xs i) :: st) i MX MQ) : LT p l e s m below meth c b D tc pc st i MX MQ := by
  intro H locs ls hS hP hQ hL
  obtain ⟨hx, hb, hr, hml, hown, hts, hX, hbl, hlocks, hgv⟩ := id C0
  refine lv_aload_n hx hb d0 rfl (lv_at hL 3 rfl) ?_
  refine lv_iload_n hx hb d1 rfl (lv_at hL 0 rfl) ?_
  refine va_sld hx hb hX hbl (Nat.not_le.mpr hbl) hS (nI_in hj (by omega)) d4 ?_
  rw [nI_clamp (show i < 2 ^ 31 by omega)]
  exact k H locs ls hS hP hQ hL
theorem LA {j : Nat} {jj : Int} (hjj : Int32.ofInt jj = nI j) (C0 : lw_At p s m meth c b L xs) (d0 : decode code pc = .ok (.aload_n 0, 1)) (d1 : decode code (pc + 1) = .ok (.iload_n 3, 1)) (d2 : decode code (pc + 2) = .ok (.iconst jj, 1)) (d3 : decode code (pc + 3) = .ok (.iadd, 1)) (d4 : decode code (pc + 4) = .ok (.iaload, 1)) (hj : i + j < L) (hL9 : L ≤ 2048) {u : Nat} (hu : xs (i + j) = nI u)
    (k : LT p l e s m below meth c b D tc (pc + 5) (.int (nI u) :: st) i MX MQ) : LT p l e s m below meth c b D tc pc st i MX MQ := by
  intro H locs ls hS hP hQ hL
  obtain ⟨hx, hb, hr, hml, hown, hts, hX, hbl, hlocks, hgv⟩ := id C0
  refine lv_aload_n hx hb d0 rfl (lv_at hL 3 rfl) ?_
  refine lv_iload_n hx hb d1 rfl (lv_at hL 0 rfl) ?_
  refine lv_iconst (v := nI j) hx hb d2 hjj ?_
  refine lv_iadd hx hb d3 ?_
  rw [nI_add]
  refine va_sld hx hb hX hbl (Nat.not_le.mpr hbl) hS (nI_in hj (by omega)) d4 ?_
  rw [nI_clamp (show i + j < 2 ^ 31 by omega), hu]
  exact k H locs ls hS hP hQ hL
theorem qW_kept {hd : qH} {B n : Nat} {M : qM} {H H1 : Heap} (hP : va_P D vwCl (qW hd tc B n M) H) (h : ∀ a, a < n → H1[B + a]? = H[B + a]?) : va_P D vwCl (qW hd tc B n M) H1 := by
  intro k q hk
  obtain ⟨h1, rfl⟩ := qW_inv hk
  exact (hP k _ hk).kept (h k h1)
abbrev lwR (μ' : qMI) : Prop := μ'.2.2.2.2.cells = 0 ∧ μ'.2.2.2.2.slots = 0 ∧ μ'.2.2.2.2.frames + 1 ≤ 9 ∧ 8 + (μ'.2.2.1 + 11) + μ'.2.2.2.2.locals ≤ 334 ∧ 82 ≤ 600000 ∧ 2719 ≤ 7302250
theorem LX {μ' : qMI} {Q' : Option Value → qM → Prop} {index na N : Nat} {as stk : List Value} {F : u_T} (C0 : lw_At p s m meth c b L xs) (hK : va_K D vwCl (qT tc) s) (d : decode code pc = .ok (.invokevirtual index, 3)) (hm : qVirt μ' na) (hl : Cond.methodLink RL index μ'.2.1 ∈ WS) (hC : Ct l hdX kX μ' (.ref 0 :: as) MX Q') (hs : stk = (as.map (qV s.heap.size)).reverse ++ .ref s.heap.size :: st) (hn : as.length = na) (hc : vwCl[5]? = some (μ'.2.1.cls, F, N)) (hR : lwR μ') (hst : (st.map fun v => v.category).sum ≤ 8)
    (k : ∀ (v : Option Value) (M' : qM), Q' v M' → LT p l e s m below meth c b D tc (pc + 3) ((v.map (qV s.heap.size)).toList ++ st) i M' MQ) : LT p l e s m below meth c b D tc pc stk i MX MQ := by
  intro H locs ls hS hP hQ hL
  refine lw_callV C0 hK d hm hl hC hs hn (by decide) rfl hc hL.1 hR hst hP hS (Nat.le_refl _) (fun v M' H1 locs1 q1 q2 q3 q4 => ?_)
  exact k v M' q1 H1 locs1 ls q3 q2 (qW_kept hQ (fun a ha => q4 _ ((hQ a _ (qW_get ha)).lt) (by omega))) hL
theorem LM {μ' : qMI} {Q' : Option Value → qM → Prop} {index na N : Nat} {as stk : List Value} {F : u_T} (C0 : lw_At p s m meth c b L xs) (hK : va_K D vwCl (qT tc) s) (d : decode code pc = .ok (.invokevirtual index, 3)) (hm : qVirt μ' na) (hl : Cond.methodLink RL index μ'.2.1 ∈ WS) (hC : Ct l hdM kM μ' (.ref 0 :: as) MQ Q') (hs : stk = (as.map (qV (s.heap.size + 71))).reverse ++ .ref (s.heap.size + 71) :: st) (hn : as.length = na) (hc : vwCl[6]? = some (μ'.2.1.cls, F, N)) (hR : lwR μ') (hst : (st.map fun v => v.category).sum ≤ 8)
    (k : ∀ (v : Option Value) (M' : qM), Q' v M' → LT p l e s m below meth c b D tc (pc + 3) ((v.map (qV (s.heap.size + 71))).toList ++ st) i MX M') : LT p l e s m below meth c b D tc pc stk i MX MQ := by
  intro H locs ls hS hP hQ hL
  refine lw_callV C0 hK d hm hl hC hs hn (by decide) rfl hc hL.1 hR hst hQ hS (Nat.le_add_right _ _) (fun v M' H1 locs1 q1 q2 q3 q4 => ?_)
  exact k v M' q1 H1 locs1 ls q3 (qW_kept hP (fun a ha => q4 _ ((hP a _ (qW_get ha)).lt) (by omega))) q2 hL
theorem LEQ {z : Int32} {off : Int} (C0 : lw_At p s m meth c b L xs) (d : decode code pc = .ok (.if_icmp .eq off, 3)) (ht : (pc : Int) + off = ((744 : Nat) : Int)) (k : LT p l e s m below meth c b D tc 744 [] i MX MQ) : LT p l e s m below meth c b D tc pc [.int z, .int z] i MX MQ := by
  intro H locs ls hS hP hQ hL
  exact lv_icmp_eq C0.1 C0.2.1 d ht (fun _ => k H locs ls hS hP hQ hL) (fun h => absurd rfl h)
theorem lg_cmp_self (z : Int64) : lg_cmp z z = 0 := by
  unfold lg_cmp
  simp
theorem LEQL {z : Int64} {off : Int} (C0 : lw_At p s m meth c b L xs) (d0 : decode code pc = .ok (.lcmp, 1)) (d : decode code (pc + 1) = .ok (.ifCond .eq off, 3)) (ht : ((pc + 1 : Nat) : Int) + off = ((744 : Nat) : Int)) (k : LT p l e s m below meth c b D tc 744 [] i MX MQ) : LT p l e s m below meth c b D tc pc [.long z, .long z] i MX MQ := by
  intro H locs ls hS hP hQ hL
  refine W.lcmp C0.1 C0.2.1 d0 ?_
  exact lv_if_eq C0.1 C0.2.1 d ht (fun _ => k H locs ls hS hP hQ hL) (fun h => absurd (lg_cmp_self z) h)
theorem nI_sub4 {L : Nat} (h : L < 4) {i : Nat} (hi : i < 4) : nI L - nI 4 < nI i := by
  have key : ∀ a : Fin 4, ∀ b : Fin 4, nI a.val - nI 4 < nI b.val := by decide +kernel
  exact key ⟨L, h⟩ ⟨i, hi⟩
theorem LH (C0 : lw_At p s m meth c b L xs) (hL9 : L ≤ 2048) (hi : i ≤ L) (kt : LT p l e s m below meth c b D tc 750 [] i MX MQ) (kf : i + 4 ≤ L → LT p l e s m below meth c b D tc 26 [] i MX MQ) : LT p l e s m below meth c b D tc 18 [] i MX MQ := by
  intro H locs ls hS hP hQ hL
  obtain ⟨hx, hb, hr, hml, hown, hts, hX, hbl, hlocks, hgv⟩ := id C0
  refine lv_iload_n hx hb (q_d dL_law_0 10 rfl) rfl (lv_at hL 0 rfl) ?_
  refine lv_aload_n hx hb (q_d dL_law_0 11 rfl) rfl (lv_at hL 3 rfl) ?_
  refine va_slen hx hb hX hbl (Nat.not_le.mpr hbl) hS (q_d dL_law_0 12 rfl) ?_
  refine lv_iconst (v := nI 4) hx hb (q_d dL_law_0 13 rfl) (by decide) ?_
  refine lv_isub hx hb (q_d dL_law_0 14 rfl) ?_
  refine lv_icmp_gt (tgt := 750) hx hb (q_d dL_law_0 15 rfl) (by decide) (fun _ => kt H locs ls hS hP hQ hL) (fun h => kf ?_ H locs ls hS hP hQ hL)
  refine Nat.le_of_not_lt (fun q => h ?_)
  show nI L - nI 4 < nI i
  by_cases h4 : L < 4
  · exact nI_sub4 h4 (by omega)
  · rw [nN_sub (show 4 ≤ L by omega), nN_lt (by omega) (by omega)]
    omega
theorem LEnd (C0 : lw_At p s m meth c b L xs) : LT p l e s m below meth c b D tc 750 [] i MX MQ := by
  intro H locs ls hS hP hQ hL
  obtain ⟨hx, hb, hr, hml, hown, hts, hX, hbl, hlocks, hgv⟩ := id C0
  refine lv_iconst (v := 1) hx hb (q_d dL_law_12 20 rfl) (by decide) ?_
  refine va_forget hS.2.2 ?_
  refine W.widen (k := 600000) (n := 7302250) (by decide) (by decide) ?_
  exact lw_ret hx hb hr hlocks (q_d dL_law_12 21 rfl)
theorem LN (C0 : lw_At p s m meth c b L xs) (k : LT p l e s m below meth c b D tc 18 [] (i + 4) MX MQ) : LT p l e s m below meth c b D tc 744 [] i MX MQ := by
  intro H locs ls hS hP hQ hL
  refine lv_iinc (k := 0) (lv' := [(3, .int (nI (i + 4))), (2, .ref (s.heap.size + 71)), (1, .ref s.heap.size), (0, .ref b)]) C0.1 C0.2.1 (q_d dL_law_12 18 rfl) hL rfl (nN_p i 4) (by decide) rfl (fun ls' hL' => ?_)
  exact lv_goto (tgt := 18) C0.1 C0.2.1 (q_d dL_law_12 19 rfl) (by decide) (k H locs ls' hS hP hQ hL')
end Law
