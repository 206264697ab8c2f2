/-! the walker's own judgement T: a state is a place in the code, locals, a stack and a memory of numbers by cell and place -/
def qK : Nat → List Bool
  | 0 => [true, true, false, false]
  | 1 => [true, true, true, false, false, false]
  | 2 => [true, false, false, false, false, false, false, false, false]
  | 3 => [false, true, true, true, true, false, false, true, true, true]
  | 4 => [true, true]
  | 5 => [true, true, true, false, true, true, true, true, false, false, false, true, true]
  | 6 => [true, true, true, true, false, true, false, false, false, false, true, true, true, true, true]
  | _ => []
/-- memory: numbers (an int is nI of one), longs (lI of one), references, by cell and place -/
abbrev qM : Type := (Nat → Nat → Nat) × (Nat → Nat → Int) × (Nat → Nat → Option Nat)
def lI (z : Int) : Int64 := Int64.ofInt z
abbrev qH : Type := Nat → Nat ⊕ (Nat × Nat)
/-- a method: its code, its name, how many locals, what it answers, its room -/
abbrev qMI : Type := ByteArray × MethodName × Nat × Option FieldType × Room
def qWs (μ : qMI) : List Cond := .code μ.2.1 μ.1 μ.2.2.1 μ.2.2.2.1 :: WS
abbrev qG : Type := Nat × Bool × Nat × Nat
def qV (B : Nat) : Value → Value
  | .ref a => .ref (B + a)
  | v => v
def qF (B : Nat) (M : qM) (a : Nat) (ks : List Bool) : List Value := ks.mapIdx (fun k r => if r then va_rf ((M.2.2 a k).map (B + ·)) else .int (nI (M.1 a k)))
def qAr (B : Nat) (M : qM) (a : Nat) (tn : Nat × Nat) : vp_A := if tn.1 = 3 then (tn.2, .inr (.inl (fun j => lI (M.2.1 a j)))) else if tn.1 < 3 then (tn.2, .inl (fun j => nI (M.1 a j))) else (tn.2, .inr (.inr (.inr (.inr (fun j => (M.2.2 a j).map (B + ·))))))
def qE (tc : Nat → ClassId) (B : Nat) (hd : qH) (M : qM) (a : Nat) : va_E := match hd a with
  | .inl ci => .inr (ci, qF B M a (qK ci))
  | .inr tn => .inl (tc tn.1, qAr B M a tn)
def qW (hd : qH) (tc : Nat → ClassId) (B n : Nat) (M : qM) : va_W := (List.range n).map (fun a => (B + a, qE tc B hd M a))
def qTy : Nat → FieldType
  | 0 => .int
  | 1 => .boolean
  | 2 => .char
  | 3 => .long
  | 4 => .object "BlindHunts$State"
  | _ => .array .int
def qT (tc : Nat → ClassId) : List (ClassId × FieldType) := [(tc 0, .int), (tc 1, .boolean), (tc 2, .char), (tc 3, .long), (tc 4, .object "BlindHunts$State"), (tc 5, .array .int)]
def qFr (B n0 sz : Nat) : Nat → Prop := fun q => (B ≤ q ∧ q < B + n0) ∨ sz ≤ q
def qI (M : qM) (a k : Nat) (x : Nat) : qM := (fun b j => if b = a ∧ j = k then x else M.1 b j, M.2)
def qJ (M : qM) (a k : Nat) (x : Int) : qM := (M.1, fun b j => if b = a ∧ j = k then x else M.2.1 b j, M.2.2)
def qR (M : qM) (a k : Nat) (x : Option Nat) : qM := (M.1, M.2.1, fun b j => if b = a ∧ j = k then x else M.2.2 b j)
def qP : Nat → List (Option Value) → List (Nat × Value)
  | _, [] => []
  | i, none :: r => qP (i + 1) r
  | i, some v :: r => (i, v) :: qP (i + 1) r
def qLs (B : Nat) (loc : List (Option Value)) : List (Nat × Value) := (qP 0 loc).map (fun q => (q.1, qV B q.2))
theorem qP_mem {v : Value} {j : Nat} : ∀ {loc : List (Option Value)} {i : Nat}, (j, v) ∈ qP i loc ↔ i ≤ j ∧ loc[j - i]? = some (some v)
  | [], i => by simp [qP]
  | none :: r, i => by
    rw [qP, qP_mem (loc := r) (i := i + 1)]
    by_cases h : j = i
    · subst h
      constructor
      · intro q; omega
      · intro q; simp at q
    · by_cases h2 : i ≤ j
      · have : j - i = (j - (i + 1)) + 1 := by omega
        rw [this]; simp; omega
      · constructor
        · intro q; omega
        · intro q; omega
  | some w :: r, i => by
    rw [qP, List.mem_cons, qP_mem (loc := r) (i := i + 1)]
    by_cases h : j = i
    · subst h
      simp
      constructor
      · rintro (h | h)
        · exact h.symm
        · omega
      · intro h; exact Or.inl h.symm
    · by_cases h2 : i ≤ j
      · have : j - i = (j - (i + 1)) + 1 := by omega
        rw [this]; simp [h]; omega
      · constructor
        · rintro (q | q)
          · exact absurd (Prod.mk.inj q).1 h
          · omega
        · intro q; omega
theorem qV_cat (B : Nat) (v : Value) : (qV B v).category = v.category := by cases v <;> rfl
theorem qLs_at {B : Nat} {ls : Array Slot} {n : Nat} {loc : List (Option Value)} (h : lv_has ls n (qLs B loc)) {i : Nat} {v : Value} (hl : loc[i]? = some (some v)) : ls[i]? = some (.val (qV B v)) :=
  h.2.2 (i, qV B v) (List.mem_map.mpr ⟨(i, v), qP_mem.mpr ⟨Nat.zero_le _, by simpa using hl⟩, rfl⟩)
/-- the place ahead of i holds no long -/
def qC1 : Option (Option Value) → Bool
  | some (some v) => v.category == 1
  | _ => true
def qOk (loc : List (Option Value)) : Nat → Bool
  | 0 => true
  | i + 1 => qC1 loc[i]?
theorem qLs_set1 {B : Nat} {ls' : Array Slot} {n : Nat} {loc : List (Option Value)} {i : Nat} {v : Value} (hok : qOk loc i = true)
    (h : lv_has ls' n ((i, qV B v) :: (qLs B loc).filter (fun q => !(q.1 == i) && !(q.1 + 1 == i && q.2.category == 2)))) : lv_has ls' n (qLs B (loc.set i (some v))) := by
  refine ⟨h.1, h.2.1, fun q hq => h.2.2 q ?_⟩
  obtain ⟨⟨j, w⟩, hj, rfl⟩ := List.mem_map.mp hq
  obtain ⟨-, hk⟩ := qP_mem.mp hj
  simp only [Nat.sub_zero] at hk
  clear hj
  by_cases e : j = i
  · subst e
    have hlt : j < loc.length := by
      have := (List.getElem?_eq_some_iff.mp hk).1
      simpa using this
    rw [List.getElem?_set_self hlt] at hk
    cases hk
    exact List.mem_cons_self
  · rw [List.getElem?_set_ne (Ne.symm e)] at hk
    refine List.mem_cons_of_mem _ (List.mem_filter.mpr ⟨List.mem_map.mpr ⟨(j, w), qP_mem.mpr ⟨Nat.zero_le _, by simpa using hk⟩, rfl⟩, ?_⟩)
    have e1 : (j == i) = false := by simpa using e
    by_cases e2 : j + 1 = i
    · subst e2
      have hc : w.category = 1 := by
        have h9 : qC1 loc[j]? = true := hok
        rw [hk] at h9
        simpa [qC1] using h9
      simp [e1, qV_cat, hc]
    · simp [e1, e2]
theorem qLs_set2 {B : Nat} {ls' : Array Slot} {n : Nat} {loc : List (Option Value)} {i : Nat} {v : Value} (hok : qOk loc i = true)
    (h : lv_has ls' n ((i, qV B v) :: (qLs B loc).filter (fun q => !(q.1 == i) && (!(q.1 == i + 1) && !(q.1 + 1 == i && q.2.category == 2))))) : lv_has ls' n (qLs B ((loc.set i (some v)).set (i + 1) none)) := by
  refine ⟨h.1, h.2.1, fun q hq => h.2.2 q ?_⟩
  obtain ⟨⟨j, w⟩, hj, rfl⟩ := List.mem_map.mp hq
  obtain ⟨-, hk⟩ := qP_mem.mp hj
  simp only [Nat.sub_zero] at hk
  clear hj
  by_cases e0 : j = i + 1
  · subst e0
    have hlt : i + 1 < (loc.set i (some v)).length := by
      have := (List.getElem?_eq_some_iff.mp hk).1
      simpa using this
    rw [List.getElem?_set_self hlt] at hk
    cases hk
  · rw [List.getElem?_set_ne (Ne.symm e0)] at hk
    by_cases e : j = i
    · subst e
      have hlt : j < loc.length := by
        have := (List.getElem?_eq_some_iff.mp hk).1
        simpa using this
      rw [List.getElem?_set_self hlt] at hk
      cases hk
      exact List.mem_cons_self
    · rw [List.getElem?_set_ne (Ne.symm e)] at hk
      refine List.mem_cons_of_mem _ (List.mem_filter.mpr ⟨List.mem_map.mpr ⟨(j, w), qP_mem.mpr ⟨Nat.zero_le _, by simpa using hk⟩, rfl⟩, ?_⟩)
      have e1 : (j == i) = false := by simpa using e
      have e3 : (j == i + 1) = false := by simpa using e0
      by_cases e2 : j + 1 = i
      · subst e2
        have hc : w.category = 1 := by
          have h9 : qC1 loc[j]? = true := hok
          rw [hk] at h9
          simpa [qC1] using h9
        simp [e1, e3, qV_cat, hc]
      · simp [e1, e2, e3]
/-- fewer locals are known -/
def qLe : List (Option Value) → List (Option Value) → Prop
  | [], _ => True
  | none :: a, [] => qLe a []
  | none :: a, _ :: b => qLe a b
  | some _ :: _, [] => False
  | some v :: a, w :: b => w = some v ∧ qLe a b
theorem qLe_at : ∀ {a b : List (Option Value)}, qLe a b → ∀ {i : Nat} {v : Value}, a[i]? = some (some v) → b[i]? = some (some v)
  | [], _, _, i, v, h => by simp at h
  | none :: a, [], hl, i, v, h => by
    cases i with
    | zero => simp at h
    | succ i =>
      have := qLe_at (a := a) (b := []) hl (i := i) (v := v) (by simpa using h)
      simp at this
  | none :: a, w :: b, hl, i, v, h => by
    cases i with
    | zero => simp at h
    | succ i =>
      have := qLe_at (a := a) (b := b) hl (i := i) (v := v) (by simpa using h)
      simpa using this
  | some u :: a, [], hl, i, v, h => hl.elim
  | some u :: a, w :: b, hl, i, v, h => by
    cases i with
    | zero =>
      have e := hl.1
      subst e
      simpa using h
    | succ i =>
      have := qLe_at (a := a) (b := b) hl.2 (i := i) (v := v) (by simpa using h)
      simpa using this
theorem qLs_le {B : Nat} {ls : Array Slot} {n : Nat} {a b : List (Option Value)} (hl : qLe a b) (h : lv_has ls n (qLs B b)) : lv_has ls n (qLs B a) := by
  refine ⟨h.1, h.2.1, fun q hq => ?_⟩
  obtain ⟨⟨j, w⟩, hj, rfl⟩ := List.mem_map.mp hq
  obtain ⟨-, hj⟩ := qP_mem.mp hj
  exact qLs_at h (qLe_at hl (by simpa using hj))
theorem qW_get {hd : qH} {tc : Nat → ClassId} {B n : Nat} {M : qM} {a : Nat} (ha : a < n) : (qW hd tc B n M)[a]? = some (B + a, qE tc B hd M a) := by
  unfold qW
  rw [List.getElem?_map, List.getElem?_range ha]
  rfl
theorem qW_inv {hd : qH} {tc : Nat → ClassId} {B n : Nat} {M : qM} {a : Nat} {q : Nat × va_E} (h : (qW hd tc B n M)[a]? = some q) : a < n ∧ q = (B + a, qE tc B hd M a) := by
  have hlt : a < n := by
    have := (List.getElem?_eq_some_iff.mp h).1
    simpa [qW] using this
  rw [qW_get hlt] at h
  exact ⟨hlt, (Option.some.inj h).symm⟩
theorem qW_set {hd : qH} {tc : Nat → ClassId} {B n : Nat} {M M' : qM} {a : Nat} (ha : a < n) (ho : ∀ b, b ≠ a → qE tc B hd M' b = qE tc B hd M b) :
    (qW hd tc B n M).set a (B + a, qE tc B hd M' a) = qW hd tc B n M' := by
  apply List.ext_getElem?
  intro i
  by_cases h : i = a
  · subst h
    rw [List.getElem?_set_self (by simpa [qW] using ha), qW_get ha]
  · rw [List.getElem?_set_ne (Ne.symm h)]
    by_cases hi : i < n
    · rw [qW_get hi, qW_get hi, ho i h]
    · rw [List.getElem?_eq_none (by simpa [qW] using hi), List.getElem?_eq_none (by simpa [qW] using hi)]
theorem qW_D {hd : qH} {tc : Nat → ClassId} {B n : Nat} {M : qM} {A : Nat → Prop} (h : ∀ a, a < n → A (B + a)) : va_D A (qW hd tc B n M) := by
  refine ⟨fun i j x y hi hj hxy => ?_, fun k q hk => ?_⟩
  · obtain ⟨-, rfl⟩ := qW_inv hi
    obtain ⟨-, rfl⟩ := qW_inv hj
    have : B + i = B + j := hxy
    omega
  · obtain ⟨h1, rfl⟩ := qW_inv hk
    exact h k h1
theorem qE_congr {tc : Nat → ClassId} {B : Nat} {hd : qH} {M M' : qM} {a : Nat} (h1 : M'.1 a = M.1 a) (h2 : M'.2.1 a = M.2.1 a) (h3 : M'.2.2 a = M.2.2 a) : qE tc B hd M' a = qE tc B hd M a := by
  unfold qE
  cases hd a with
  | inl ci => simp only [qF, h1, h3]
  | inr tn => simp only [qAr, h1, h2, h3]
theorem qE_I {tc : Nat → ClassId} {B : Nat} {hd : qH} {M : qM} {a k : Nat} {x : Nat} (b : Nat) (h : b ≠ a) : qE tc B hd (qI M a k x) b = qE tc B hd M b :=
  qE_congr (funext fun j => by simp [qI, h]) rfl rfl
theorem qE_J {tc : Nat → ClassId} {B : Nat} {hd : qH} {M : qM} {a k : Nat} {x : Int} (b : Nat) (h : b ≠ a) : qE tc B hd (qJ M a k x) b = qE tc B hd M b :=
  qE_congr rfl (funext fun j => by simp [qJ, h]) rfl
theorem qE_R {tc : Nat → ClassId} {B : Nat} {hd : qH} {M : qM} {a k : Nat} {x : Option Nat} (b : Nat) (h : b ≠ a) : qE tc B hd (qR M a k x) b = qE tc B hd M b :=
  qE_congr rfl rfl (funext fun j => by simp [qR, h])
theorem qF_get {B : Nat} {M : qM} {a : Nat} {ks : List Bool} {k : Nat} {r : Bool} (h : ks[k]? = some r) : (qF B M a ks)[k]? = some (if r then va_rf ((M.2.2 a k).map (B + ·)) else .int (nI (M.1 a k))) := by
  unfold qF
  rw [List.getElem?_mapIdx, h]
  rfl
theorem qF_setI {B : Nat} {M : qM} {a : Nat} {ks : List Bool} {k : Nat} {x : Nat} (h : ks[k]? = some false) : (qF B M a ks).set k (.int (nI x)) = qF B (qI M a k x) a ks := by
  apply List.ext_getElem?
  intro i
  have hlen : k < (qF B M a ks).length := by
    have := (List.getElem?_eq_some_iff.mp h).1
    simpa [qF] using this
  by_cases e : i = k
  · subst e
    rw [List.getElem?_set_self hlen, qF_get h]
    simp [qI]
  · rw [List.getElem?_set_ne (Ne.symm e)]
    cases hi : ks[i]? with
    | none => rw [List.getElem?_eq_none (by simpa [qF] using hi), List.getElem?_eq_none (by simpa [qF] using hi)]
    | some r => rw [qF_get hi, qF_get hi]; simp [qI, e]
theorem qF_setR {B : Nat} {M : qM} {a : Nat} {ks : List Bool} {k : Nat} {x : Option Nat} (h : ks[k]? = some true) : (qF B M a ks).set k (va_rf (x.map (B + ·))) = qF B (qR M a k x) a ks := by
  apply List.ext_getElem?
  intro i
  have hlen : k < (qF B M a ks).length := by
    have := (List.getElem?_eq_some_iff.mp h).1
    simpa [qF] using this
  by_cases e : i = k
  · subst e
    rw [List.getElem?_set_self hlen, qF_get h]
    simp [qR]
  · rw [List.getElem?_set_ne (Ne.symm e)]
    cases hi : ks[i]? with
    | none => rw [List.getElem?_eq_none (by simpa [qF] using hi), List.getElem?_eq_none (by simpa [qF] using hi)]
    | some r => rw [qF_get hi, qF_get hi]; simp [qR, e]
theorem qF_len {B : Nat} {M : qM} {a : Nat} {ks : List Bool} : (qF B M a ks).length = ks.length := by simp [qF]
theorem q_over {s U : State} (hW : s.WarmedH U.vm) (h : (Cond.arrayOver (.array .int)).before #[] s = true) : (Cond.arrayOver (.array .int)).before #[] U = true := by
  have h1 : (Cond.arrayOver (.array .int)).before #[] (s.setVm U.vm) = true := by rw [Cond.arrayOver_setVmC hW.alike]; exact h
  exact h1
/-- words that hold of the machine, beside the tables: arrays of states and of rows, the constructors of nested kinds -/
def qN (U : State) : Prop := va_AO "BlindHunts$State" U ∧ (Cond.arrayOver (.array .int)).before #[] U = true ∧ va_Nw (.methodLinkNest RX5 25 yX2_init "BlindHunts") U ∧ va_Nw (.methodLinkNest RX5 32 yX1_init "BlindHunts") U ∧ va_Nw (.methodLinkNest RX5 51 yX4_init "BlindHunts") U
theorem qN.moved {s U : State} (hW : s.WarmedH U.vm) (h : qN s) : qN U :=
  ⟨va_AO.moved hW.alike h.1, q_over hW h.2.1, va_Nw.warmM hW h.2.2.1, va_Nw.warmM hW h.2.2.2.1, va_Nw.warmM hW h.2.2.2.2⟩
theorem goodIn_app9 {big a b : List Cond} (ha : GoodIn big a) (hb : GoodIn big b) : GoodIn big (a ++ b) := fun w h => (List.mem_append.mp h).elim (ha w) (hb w)
def qEnv (p : Program) (s : State) (m : MethodId) (args : Array Value) (meth : Method) (c : Code) (al : Bool) (μ : qMI) : Prop :=
  p.tables.exec = Jvm.exec ∧ c.code = μ.1 ∧ meth.sig.returnType = μ.2.2.2.1 ∧ c.maxLocals = μ.2.2.1 ∧ s.vm.findClass μ.2.1.cls = some m.cls ∧ (∀ w ∈ WS, w.before args s = true) ∧ meth.locks = false ∧ (al = true → meth.name = "<init>" ∧ qN s) ∧ (∀ w ∈ qWs μ, w.before args s = true)
def qZ (κ : qG) (B cs h0 h : Nat) : Prop := if κ.2.1 = true then h0 = B + κ.1 ∧ h = B + κ.1 + cs else cs = 0
/-- what a method answers: Q of the answer and of the memory then -/
def qQ (hd : qH) (κ : qG) (D : va_G) (tc : Nat → ClassId) (B : Nat) (Q : Option Value → qM → Prop) : Array Value → State → Outcome → State → Prop := fun _ st oc t =>
  (∃ (v : Option Value) (M : qM), oc = .returned (v.map (qV B)) ∧ Q v M ∧ (κ.2.1 = true → t.heap.size = B + κ.1 + κ.2.2.1) ∧ va_P D vwCl (qW hd tc B (κ.1 + κ.2.2.1) M) t.heap) ∧ va_F (qFr B κ.1 st.heap.size) st t
def T (l : Launch) (hd : qH) (κ : qG) (μ : qMI) (Q : Option Value → qM → Prop) (cs sl pc : Nat) (loc : List (Option Value)) (st : List Value) (M : qM) : Prop :=
  ∀ (p : Program) (e : Env) (s : State) (m : MethodId) (args : Array Value) (below : List Frame) (meth : Method) (c : Code) (H : Heap) (locs : List Loc) (ls : Array Slot) (D : va_G) (tc : Nat → ClassId) (B : Nat),
    qEnv p s m args meth c κ.2.1 μ → va_K D vwCl (qT tc) s → va_P D vwCl (qW hd tc B (κ.1 + cs) M) H → va_S (qFr B κ.1 s.heap.size) s.heap H locs → qZ κ B cs s.heap.size H.size → lv_has ls μ.2.2.1 (qLs B loc) →
    W p l e μ.2.2.2.2 s m args below meth c H locs cs sl (MQ below (qQ hd κ D tc B Q) args s κ.2.2.1 κ.2.2.2 (qFr B κ.1 s.heap.size)) (F0 m pc ls (st.map (qV B)))
/-- the contract of a method: what it answers from this memory, at these arguments -/
def Ct (l : Launch) (hd : qH) (κ : qG) (μ : qMI) (av : List Value) (M : qM) (Q : Option Value → qM → Prop) : Prop :=
  ∀ (D : va_G) (tc : Nat → ClassId) (B sz : Nat), Met l μ.2.1 (qWs μ) μ.2.2.2.2 (va_Pc (av.map (qV B)) (fun U => U.heap.size = sz ∧ (κ.2.1 = true → sz = B + κ.1 ∧ qN U) ∧ va_P D vwCl (qW hd tc B κ.1 M) U.heap ∧ va_K D vwCl (qT tc) U)) (qQ hd κ D tc B Q) κ.2.2.1 κ.2.2.2 (qFr B κ.1 sz)
theorem Ct.of {l : Launch} {hd : qH} {κ : qG} {μ : qMI} {av : List Value} {M : qM} {Q : Option Value → qM → Prop} (loc : List (Option Value))
    (hy : plainName μ.2.1.cls = true) (hi : κ.2.1 = true → μ.2.1.name = "<init>") (hlen : (lg_sl av).length ≤ μ.2.2.1) (he : lv_args 0 av = qP 0 loc)
    (k : T l hd κ μ Q 0 0 0 loc [] M) : Ct l hd κ μ av M Q := by
  intro D tc B sz
  refine Met.ofW (cc := μ.1) (maxL := μ.2.2.1) (ret := μ.2.2.2.1) hy rfl ?_
  intro p e s m args below meth c s₁ Bd hml hv
  obtain ⟨rfl, hsz, hal, hP, hK⟩ := hv
  have hts : ∀ w ∈ WS, w.before _ s = true := fun w h => atoms_spec (ws := qWs μ) Bd.pre w (List.mem_cons_of_mem _ h)
  have hown : s.vm.findClass μ.2.1.cls = some m.cls := findClass_of_methodNamed Bd.named
  have hlen' : (lg_sl (av.map (qV B))).length ≤ μ.2.2.1 := by
    have : ∀ vs : List Value, (lg_sl (vs.map (qV B))).length = (lg_sl vs).length := by
      intro vs
      induction vs with
      | nil => rfl
      | cons v vs ih =>
        by_cases hc : v.category = 2
        · simp [lg_sl, qV_cat, hc] at ih ⊢; exact ih
        · simp [lg_sl, qV_cat, hc] at ih ⊢; exact ih
    rw [this]; exact hlen
  have hl := lv_entry (av.map (qV B)) (n := μ.2.2.1) hlen'
  rw [lg_entry_eq]
  generalize (lg_sl (av.map (qV B)) ++ List.replicate (μ.2.2.1 - (lg_sl (av.map (qV B))).length) Slot.unset).toArray = ls at hl ⊢
  have hmap : ∀ (vs : List Value) (i : Nat), lv_args i (vs.map (qV B)) = (lv_args i vs).map (fun q => (q.1, qV B q.2)) := by
    intro vs
    induction vs with
    | nil => intro i; rfl
    | cons v vs ih => intro i; simp only [List.map_cons, lv_args, qV_cat, ih]
  rw [hmap, he] at hl
  subst hsz
  refine k p e s m _ below meth c s.heap [] ls D tc B ⟨Bd.exec, Bd.bytes, Bd.returns, hml, hown, hts, Bd.notSynchronized, fun h => ?_, fun w h => atoms_spec (ws := qWs μ) Bd.pre w h⟩ hK hP va_S.rf ?_ hl
  · exact ⟨by rw [← hi h]; exact (name_of_methodNamed Bd.named Bd.method).1, (hal h).2⟩
  · unfold qZ
    by_cases h : κ.2.1 = true
    · rw [if_pos h]; exact ⟨(hal h).1, (hal h).1⟩
    · rw [if_neg h]
theorem Ct.mono {l : Launch} {hd : qH} {κ : qG} {μ : qMI} {av : List Value} {M : qM} {Q Q' : Option Value → qM → Prop} (h : Ct l hd κ μ av M Q) (hq : ∀ v M', Q v M' → Q' v M') : Ct l hd κ μ av M Q' := by
  intro D tc B sz p e ha hc hk s m args below hf happ hP hK
  obtain ⟨t, o, h1, h2, h3, ⟨⟨⟨v, M', e1, e2, e3⟩, hF⟩, hL⟩⟩ := h D tc B sz p e ha hc hk s m args below hf happ hP hK
  exact ⟨t, o, h1, h2, h3, ⟨⟨⟨v, M', e1, hq _ _ e2, e3⟩, hF⟩, hL⟩⟩
