/-! constructors: a memory of a list of writes -/
def qIW : List (Nat × Nat × Nat) → Nat → Nat → Nat
  | [] => fun _ _ => 0
  | (a, k, x) :: w => fun b j => if b = a ∧ j = k then x else qIW w b j
def qRW : List (Nat × Nat × Nat) → Nat → Nat → Option Nat
  | [] => fun _ _ => none
  | (a, k, x) :: w => fun b j => if b = a ∧ j = k then some x else qRW w b j
def MM (wi wr : List (Nat × Nat × Nat)) : qM := (qIW wi, fun _ _ => 0, qRW wr)
theorem qIW_out {b j : Nat} : ∀ {w : List (Nat × Nat × Nat)}, (∀ x ∈ w, ¬(x.1 = b ∧ x.2.1 = j)) → qIW w b j = 0
  | [], _ => rfl
  | (a, k, x) :: w, h => by
    have h1 := h (a, k, x) List.mem_cons_self
    show (if b = a ∧ j = k then x else qIW w b j) = 0
    rw [if_neg (fun q => h1 ⟨q.1.symm, q.2.symm⟩)]
    exact qIW_out (fun y hy => h y (List.mem_cons_of_mem _ hy))
theorem qRW_out {b j : Nat} : ∀ {w : List (Nat × Nat × Nat)}, (∀ x ∈ w, ¬(x.1 = b ∧ x.2.1 = j)) → qRW w b j = none
  | [], _ => rfl
  | (a, k, x) :: w, h => by
    have h1 := h (a, k, x) List.mem_cons_self
    show (if b = a ∧ j = k then some x else qRW w b j) = none
    rw [if_neg (fun q => h1 ⟨q.1.symm, q.2.symm⟩)]
    exact qRW_out (fun y hy => h y (List.mem_cons_of_mem _ hy))
theorem qIW_z {c : Nat} {w wr : List (Nat × Nat × Nat)} (h : ∀ x ∈ w, x.1 < c) : (MM w wr).1 c = fun _ => 0 :=
  funext fun _ => qIW_out (fun x hx q => Nat.lt_irrefl _ (Nat.lt_of_lt_of_eq (h x hx) q.1.symm))
theorem qRW_z {c : Nat} {w wi : List (Nat × Nat × Nat)} (h : ∀ x ∈ w, x.1 < c) : (MM wi w).2.2 c = fun _ => none :=
  funext fun _ => qRW_out (fun x hx q => Nat.lt_irrefl _ (Nat.lt_of_lt_of_eq (h x hx) q.1.symm))
section Ini
variable {l : Launch} {hd : qH} {κ : qG} {μ : qMI} {Q : Option Value → qM → Prop} {cs sl pc pc' : Nat} {loc : List (Option Value)} {st : List Value} {M : qM} {wi wr : List (Nat × Nat × Nat)} {a k0 x n0 : Nat}
theorem T.at {cs' sl' : Nat} (h1 : cs = cs') (h2 : sl = sl') (k : T l hd κ μ Q cs' sl' pc loc st M) : T l hd κ μ Q cs sl pc loc st M := by
  subst h1; subst h2; exact k
theorem T.wI (k : T l hd κ μ Q cs sl pc loc st (MM ((a, k0, x) :: wi) wr)) : T l hd κ μ Q cs sl pc loc st (qI (MM wi wr) a k0 x) := k
theorem T.wR (k : T l hd κ μ Q cs sl pc loc st (MM wi ((a, k0, x) :: wr))) : T l hd κ μ Q cs sl pc loc st (qR (MM wi wr) a k0 (some x)) := k
theorem wA_eq {c : Nat} (h : (MM wi wr).2.2 c = fun _ => none) : ((MM wi wr).1, (MM wi wr).2.1, fun b j => if b = c then (if j < 5 then some (c + 1 + j) else none) else (MM wi wr).2.2 b j) = MM wi ((c, 4, c + 5) :: (c, 3, c + 4) :: (c, 2, c + 3) :: (c, 1, c + 2) :: (c, 0, c + 1) :: wr) := by
  refine Prod.ext rfl (Prod.ext rfl (funext fun b => funext fun j => ?_))
  show (if b = c then (if j < 5 then some (c + 1 + j) else none) else (MM wi wr).2.2 b j) = (if b = c ∧ j = 4 then some (c + 5) else if b = c ∧ j = 3 then some (c + 4) else if b = c ∧ j = 2 then some (c + 3) else if b = c ∧ j = 1 then some (c + 2) else if b = c ∧ j = 0 then some (c + 1) else (MM wi wr).2.2 b j)
  by_cases hb : b = c
  · subst hb
    rw [h]
    by_cases h5 : j < 5
    · rcases (by omega : j = 0 ∨ j = 1 ∨ j = 2 ∨ j = 3 ∨ j = 4) with rfl | rfl | rfl | rfl | rfl <;> simp <;> omega
    · rw [if_pos rfl, if_neg h5, if_neg (by omega), if_neg (by omega), if_neg (by omega), if_neg (by omega), if_neg (by omega)]
  · simp [hb]
theorem T.wA {c : Nat} (h : (MM wi wr).2.2 c = fun _ => none) (k : T l hd κ μ Q cs sl pc loc st (MM wi ((c, 4, c + 5) :: (c, 3, c + 4) :: (c, 2, c + 3) :: (c, 1, c + 2) :: (c, 0, c + 1) :: wr))) : T l hd κ μ Q cs sl pc loc st ((MM wi wr).1, (MM wi wr).2.1, fun b j => if b = c then (if j < 5 then some (c + 1 + j) else none) else (MM wi wr).2.2 b j) := by
  rw [wA_eq h]; exact k
theorem i_X3 (ha : hd a = .inl 3) (ha0 : a < n0) (h0 : hd (n0 + 0) = .inr (0, 7)) (h1 : hd (n0 + 1) = .inr (0, 7)) (h2 : hd (n0 + 2) = .inr (0, 7)) (h3 : hd (n0 + 3) = .inr (0, 3)) (h4 : hd (n0 + 4) = .inr (0, 8)) (h5 : hd (n0 + 5) = .inr (0, 8)) (h6 : hd (n0 + 6) = .inr (0, 8)) (hwi : ∀ w ∈ wi, w.1 < n0) :
    Ct l hd (n0, true, 7, 48) mX3_init [.ref a] (MM wi wr) (fun v M' => v = none ∧ M' = MM ((n0 + 3, 2, 1) :: wi) ((a, 9, n0 + 6) :: (a, 8, n0 + 5) :: (a, 7, n0 + 4) :: (a, 4, n0 + 3) :: (a, 3, n0 + 2) :: (a, 2, n0 + 1) :: (a, 1, n0 + 0) :: wr)) := by
  refine Ct.of [some (.ref a)] (by decide +kernel) (fun _ => rfl) (Nat.le_of_ble_eq_true rfl) rfl ?_
  refine T.aload_n (pc' := 1) (q_d dX3_init_0 0 rfl) rfl rfl rfl ?_
  refine T.objInit (pc' := 4) (q_d dX3_init_0 1 rfl) rfl wM_X3_3 wI_obj wC_obj (by decide) (Nat.le_of_ble_eq_true rfl) ?_
  refine T.aload_n (pc' := 5) (q_d dX3_init_0 2 rfl) rfl rfl rfl ?_
  refine T.bipush (pc' := 7) (v := nI 7) (q_d dX3_init_0 3 rfl) rfl (by decide) ?_
  refine T.newI (pc' := 9) (N := 7) (q_d dX3_init_0 4 rfl) rfl rfl wA_int rfl (by decide) h0 (qIW_z (fun w h => Nat.lt_of_lt_of_le (hwi w h) (Nat.le_add_right _ _))) (by decide) (by decide) ?_
  refine T.at (cs' := 1) (sl' := 7) rfl rfl ?_
  refine T.top (v' := .ref (n0 + 0)) rfl ?_
  refine T.putRF (pc' := 12) (ci := 3) (k0 := 1) (q_d dX3_init_0 5 rfl) rfl ha (Nat.lt_of_lt_of_le ha0 (Nat.le_add_right _ _)) rfl inX3 tyX3 tyX3_ok nmX3 (by decide) rfl wF_X3_9 rfl rfl rfl (fun _ => rfl) (fun _ => rfl) ?_
  refine T.wR ?_
  refine T.aload_n (pc' := 13) (q_d dX3_init_0 6 rfl) rfl rfl rfl ?_
  refine T.bipush (pc' := 15) (v := nI 7) (q_d dX3_init_0 7 rfl) rfl (by decide) ?_
  refine T.newI (pc' := 17) (N := 7) (q_d dX3_init_0 8 rfl) rfl rfl wA_int rfl (by decide) h1 (qIW_z (fun w h => Nat.lt_of_lt_of_le (hwi w h) (Nat.le_add_right _ _))) (by decide) (by decide) ?_
  refine T.at (cs' := 2) (sl' := 14) rfl rfl ?_
  refine T.top (v' := .ref (n0 + 1)) rfl ?_
  refine T.putRF (pc' := 20) (ci := 3) (k0 := 2) (q_d dX3_init_0 9 rfl) rfl ha (Nat.lt_of_lt_of_le ha0 (Nat.le_add_right _ _)) rfl inX3 tyX3 tyX3_ok nmX3 (by decide) rfl wF_X3_15 rfl rfl rfl (fun _ => rfl) (fun _ => rfl) ?_
  refine T.wR ?_
  refine T.aload_n (pc' := 21) (q_d dX3_init_0 10 rfl) rfl rfl rfl ?_
  refine T.bipush (pc' := 23) (v := nI 7) (q_d dX3_init_0 11 rfl) rfl (by decide) ?_
  refine T.newI (pc' := 25) (N := 7) (q_d dX3_init_0 12 rfl) rfl rfl wA_int rfl (by decide) h2 (qIW_z (fun w h => Nat.lt_of_lt_of_le (hwi w h) (Nat.le_add_right _ _))) (by decide) (by decide) ?_
  refine T.at (cs' := 3) (sl' := 21) rfl rfl ?_
  refine T.top (v' := .ref (n0 + 2)) rfl ?_
  refine T.putRF (pc' := 28) (ci := 3) (k0 := 3) (q_d dX3_init_0 13 rfl) rfl ha (Nat.lt_of_lt_of_le ha0 (Nat.le_add_right _ _)) rfl inX3 tyX3 tyX3_ok nmX3 (by decide) rfl wF_X3_18 rfl rfl rfl (fun _ => rfl) (fun _ => rfl) ?_
  refine T.wR ?_
  refine T.aload_n (pc' := 29) (q_d dX3_init_0 14 rfl) rfl rfl rfl ?_
  refine T.iconst (pc' := 30) (v := nI 3) (q_d dX3_init_0 15 rfl) rfl (by decide) ?_
  refine T.newI (pc' := 32) (N := 3) (q_d dX3_init_0 16 rfl) rfl rfl wA_int rfl (by decide) h3 (qIW_z (fun w h => Nat.lt_of_lt_of_le (hwi w h) (Nat.le_add_right _ _))) (by decide) (by decide) ?_
  refine T.at (cs' := 4) (sl' := 24) rfl rfl ?_
  refine T.top (v' := .ref (n0 + 3)) rfl ?_
  refine T.putRF (pc' := 35) (ci := 3) (k0 := 4) (q_d dX3_init_0 17 rfl) rfl ha (Nat.lt_of_lt_of_le ha0 (Nat.le_add_right _ _)) rfl inX3 tyX3 tyX3_ok nmX3 (by decide) rfl wF_X3_21 rfl rfl rfl (fun _ => rfl) (fun _ => rfl) ?_
  refine T.wR ?_
  refine T.aload_n (pc' := 36) (q_d dX3_init_0 18 rfl) rfl rfl rfl ?_
  refine T.bipush (pc' := 38) (v := nI 8) (q_d dX3_init_0 19 rfl) rfl (by decide) ?_
  refine T.newI (pc' := 40) (N := 8) (q_d dX3_init_0 20 rfl) rfl rfl wA_int rfl (by decide) h4 (qIW_z (fun w h => Nat.lt_of_lt_of_le (hwi w h) (Nat.le_add_right _ _))) (by decide) (by decide) ?_
  refine T.at (cs' := 5) (sl' := 32) rfl rfl ?_
  refine T.top (v' := .ref (n0 + 4)) rfl ?_
  refine T.putRF (pc' := 43) (ci := 3) (k0 := 7) (q_d dX3_init_0 21 rfl) rfl ha (Nat.lt_of_lt_of_le ha0 (Nat.le_add_right _ _)) rfl inX3 tyX3 tyX3_ok nmX3 (by decide) rfl wF_X3_24 rfl rfl rfl (fun _ => rfl) (fun _ => rfl) ?_
  refine T.wR ?_
  refine T.aload_n (pc' := 44) (q_d dX3_init_0 22 rfl) rfl rfl rfl ?_
  refine T.bipush (pc' := 46) (v := nI 8) (q_d dX3_init_0 23 rfl) rfl (by decide) ?_
  refine T.newI (pc' := 48) (N := 8) (q_d dX3_init_0 24 rfl) rfl rfl wA_int rfl (by decide) h5 (qIW_z (fun w h => Nat.lt_of_lt_of_le (hwi w h) (Nat.le_add_right _ _))) (by decide) (by decide) ?_
  refine T.at (cs' := 6) (sl' := 40) rfl rfl ?_
  refine T.top (v' := .ref (n0 + 5)) rfl ?_
  refine T.putRF (pc' := 51) (ci := 3) (k0 := 8) (q_d dX3_init_0 25 rfl) rfl ha (Nat.lt_of_lt_of_le ha0 (Nat.le_add_right _ _)) rfl inX3 tyX3 tyX3_ok nmX3 (by decide) rfl wF_X3_27 rfl rfl rfl (fun _ => rfl) (fun _ => rfl) ?_
  refine T.wR ?_
  refine T.aload_n (pc' := 52) (q_d dX3_init_0 26 rfl) rfl rfl rfl ?_
  refine T.bipush (pc' := 54) (v := nI 8) (q_d dX3_init_0 27 rfl) rfl (by decide) ?_
  refine T.newI (pc' := 56) (N := 8) (q_d dX3_init_0 28 rfl) rfl rfl wA_int rfl (by decide) h6 (qIW_z (fun w h => Nat.lt_of_lt_of_le (hwi w h) (Nat.le_add_right _ _))) (by decide) (by decide) ?_
  refine T.at (cs' := 7) (sl' := 48) rfl rfl ?_
  refine T.top (v' := .ref (n0 + 6)) rfl ?_
  refine T.putRF (pc' := 59) (ci := 3) (k0 := 9) (q_d dX3_init_0 29 rfl) rfl ha (Nat.lt_of_lt_of_le ha0 (Nat.le_add_right _ _)) rfl inX3 tyX3 tyX3_ok nmX3 (by decide) rfl wF_X3_30 rfl rfl rfl (fun _ => rfl) (fun _ => rfl) ?_
  refine T.wR ?_
  refine T.aload_n (pc' := 60) (q_d dX3_init_0 30 rfl) rfl rfl rfl ?_
  refine T.getR (pc' := 63) (ci := 3) (k0 := 4) (q_d dX3_init_0 31 rfl) rfl ha (Nat.lt_of_lt_of_le ha0 (Nat.le_add_right _ _)) rfl inX3 (by decide) rfl wF_X3_21 (show _ = some (n0 + 3) by simp [MM, qRW]) ?_
  refine T.iconst (pc' := 64) (v := nI 2) (q_d dX3_init_0 32 rfl) rfl (by decide) ?_
  refine T.iconst (pc' := 65) (v := nI 1) (q_d dX3_init_0 33 rfl) rfl (by decide) ?_
  refine T.iast (pc' := 66) (q_d dX3_init_0 34 rfl) rfl h3 (Nat.add_lt_add_left (by decide) _) rfl (by omega) (by decide) ?_
  refine T.wI ?_
  refine T.vret (q_d dX3_init_0 35 rfl) rfl rfl rfl ?_
  exact ⟨rfl, rfl⟩
theorem i_X2 (ha : hd a = .inl 2) (ha0 : a < n0) (h0 : hd (n0 + 0) = .inr (2, 60)) (hwi : ∀ w ∈ wi, w.1 < n0) :
    Ct l hd (n0, true, 1, 60) mX2_init [.ref a] (MM wi wr) (fun v M' => v = none ∧ M' = MM wi ((a, 0, n0 + 0) :: wr)) := by
  refine Ct.of [some (.ref a)] (by decide +kernel) (fun _ => rfl) (Nat.le_of_ble_eq_true rfl) rfl ?_
  refine T.aload_n (pc' := 1) (q_d dX2_init_0 0 rfl) rfl rfl rfl ?_
  refine T.objInit (pc' := 4) (q_d dX2_init_0 1 rfl) rfl wM_X2_3 wI_obj wC_obj (by decide) (Nat.le_of_ble_eq_true rfl) ?_
  refine T.aload_n (pc' := 5) (q_d dX2_init_0 2 rfl) rfl rfl rfl ?_
  refine T.bipush (pc' := 7) (v := nI 60) (q_d dX2_init_0 3 rfl) rfl (by decide) ?_
  refine T.newC (pc' := 9) (N := 60) (q_d dX2_init_0 4 rfl) rfl rfl wA_char rfl (by decide) h0 (qIW_z (fun w h => Nat.lt_of_lt_of_le (hwi w h) (Nat.le_add_right _ _))) (by decide) (by decide) ?_
  refine T.at (cs' := 1) (sl' := 60) rfl rfl ?_
  refine T.top (v' := .ref (n0 + 0)) rfl ?_
  refine T.putRF (pc' := 12) (ci := 2) (k0 := 0) (q_d dX2_init_0 5 rfl) rfl ha (Nat.lt_of_lt_of_le ha0 (Nat.le_add_right _ _)) rfl inX2 tyX2 tyX2_ok nmX2 (by decide) rfl wF_X2_9 rfl rfl rfl (fun _ => rfl) (fun _ => rfl) ?_
  refine T.wR ?_
  refine T.vret (q_d dX2_init_0 6 rfl) rfl rfl rfl ?_
  exact ⟨rfl, rfl⟩
theorem i_X1 (ha : hd a = .inl 1) (ha0 : a < n0) (h0 : hd (n0 + 0) = .inr (5, 5)) (hr : ∀ j, j < 5 → hd (n0 + 0 + 1 + j) = .inr (0, 128)) (h6 : hd (n0 + 6) = .inr (0, 5)) (h7 : hd (n0 + 7) = .inr (0, 128)) (hwi : ∀ w ∈ wi, w.1 < n0) (hwr : ∀ w ∈ wr, w.1 < n0) :
    Ct l hd (n0, true, 8, 778) mX1_init [.ref a] (MM wi wr) (fun v M' => v = none ∧ M' = MM wi ((a, 2, n0 + 7) :: (a, 1, n0 + 6) :: (a, 0, n0 + 0) :: (n0 + 0, 4, n0 + 0 + 5) :: (n0 + 0, 3, n0 + 0 + 4) :: (n0 + 0, 2, n0 + 0 + 3) :: (n0 + 0, 1, n0 + 0 + 2) :: (n0 + 0, 0, n0 + 0 + 1) :: wr)) := by
  refine Ct.of [some (.ref a)] (by decide +kernel) (fun _ => rfl) (Nat.le_of_ble_eq_true rfl) rfl ?_
  refine T.aload_n (pc' := 1) (q_d dX1_init_0 0 rfl) rfl rfl rfl ?_
  refine T.objInit (pc' := 4) (q_d dX1_init_0 1 rfl) rfl wM_X1_3 wI_obj wC_obj (by decide) (Nat.le_of_ble_eq_true rfl) ?_
  refine T.aload_n (pc' := 5) (q_d dX1_init_0 2 rfl) rfl rfl rfl ?_
  refine T.iconst (pc' := 6) (v := nI 5) (q_d dX1_init_0 3 rfl) rfl (by decide) ?_
  refine T.sipush (pc' := 9) (v := nI 128) (q_d dX1_init_0 4 rfl) rfl (by decide) ?_
  refine T.mna (pc' := 13) (N := 5) (K := 128) (q_d dX1_init_0 5 rfl) rfl rfl wL_X1_9 wA_int rfl rfl (by decide) (by decide) h0 hr (fun j _ => qIW_z (fun w h => Nat.lt_of_lt_of_le (hwi w h) (Nat.le_trans (Nat.le_add_right _ _) (Nat.le_add_right _ _)))) (by decide) (by decide) ?_
  refine T.wA (c := n0 + 0) (qRW_z (fun w h => Nat.lt_of_lt_of_le (hwr w h) (Nat.le_add_right _ _))) ?_
  refine T.top (v' := .ref (n0 + 0)) rfl ?_
  refine T.at (cs' := 6) (sl' := 645) rfl rfl ?_
  refine T.putRF (pc' := 16) (ci := 1) (k0 := 0) (q_d dX1_init_0 6 rfl) rfl ha (Nat.lt_of_lt_of_le ha0 (Nat.le_add_right _ _)) rfl inX1 tyX1 tyX1_ok nmX1 (by decide) rfl wF_X1_11 rfl rfl rfl (fun _ => rfl) (fun _ => rfl) ?_
  refine T.wR ?_
  refine T.aload_n (pc' := 17) (q_d dX1_init_0 7 rfl) rfl rfl rfl ?_
  refine T.iconst (pc' := 18) (v := nI 5) (q_d dX1_init_0 8 rfl) rfl (by decide) ?_
  refine T.newI (pc' := 20) (N := 5) (q_d dX1_init_0 9 rfl) rfl rfl wA_int rfl (by decide) h6 (qIW_z (fun w h => Nat.lt_of_lt_of_le (hwi w h) (Nat.le_add_right _ _))) (by decide) (by decide) ?_
  refine T.at (cs' := 7) (sl' := 650) rfl rfl ?_
  refine T.top (v' := .ref (n0 + 6)) rfl ?_
  refine T.putRF (pc' := 23) (ci := 1) (k0 := 1) (q_d dX1_init_0 10 rfl) rfl ha (Nat.lt_of_lt_of_le ha0 (Nat.le_add_right _ _)) rfl inX1 tyX1 tyX1_ok nmX1 (by decide) rfl wF_X1_16 rfl rfl rfl (fun _ => rfl) (fun _ => rfl) ?_
  refine T.wR ?_
  refine T.aload_n (pc' := 24) (q_d dX1_init_0 11 rfl) rfl rfl rfl ?_
  refine T.sipush (pc' := 27) (v := nI 128) (q_d dX1_init_0 12 rfl) rfl (by decide) ?_
  refine T.newI (pc' := 29) (N := 128) (q_d dX1_init_0 13 rfl) rfl rfl wA_int rfl (by decide) h7 (qIW_z (fun w h => Nat.lt_of_lt_of_le (hwi w h) (Nat.le_add_right _ _))) (by decide) (by decide) ?_
  refine T.at (cs' := 8) (sl' := 778) rfl rfl ?_
  refine T.top (v' := .ref (n0 + 7)) rfl ?_
  refine T.putRF (pc' := 32) (ci := 1) (k0 := 2) (q_d dX1_init_0 14 rfl) rfl ha (Nat.lt_of_lt_of_le ha0 (Nat.le_add_right _ _)) rfl inX1 tyX1 tyX1_ok nmX1 (by decide) rfl wF_X1_20 rfl rfl rfl (fun _ => rfl) (fun _ => rfl) ?_
  refine T.wR ?_
  refine T.vret (q_d dX1_init_0 15 rfl) rfl rfl rfl ?_
  exact ⟨rfl, rfl⟩
theorem i_X0 {u v : Nat} (ha : hd a = .inl 0) (ha0 : a < n0) (h0 : hd (n0 + 0) = .inr (0, 128)) (h1 : hd (n0 + 1) = .inr (0, 128)) (hwi : ∀ w ∈ wi, w.1 < n0) :
    Ct l hd (n0, true, 2, 256) mX0_init [.ref a, .int (nI u), .int (nI v)] (MM wi wr) (fun r M' => r = none ∧ M' = MM ((a, 3, v) :: (a, 2, u) :: wi) ((a, 1, n0 + 1) :: (a, 0, n0 + 0) :: wr)) := by
  refine Ct.of [some (.ref a), some (.int (nI u)), some (.int (nI v))] (by decide +kernel) (fun _ => rfl) (Nat.le_of_ble_eq_true rfl) rfl ?_
  refine T.aload_n (pc' := 1) (q_d dX0_init_0 0 rfl) rfl rfl rfl ?_
  refine T.objInit (pc' := 4) (q_d dX0_init_0 1 rfl) rfl wM_X0_3 wI_obj wC_obj (by decide) (Nat.le_of_ble_eq_true rfl) ?_
  refine T.aload_n (pc' := 5) (q_d dX0_init_0 2 rfl) rfl rfl rfl ?_
  refine T.sipush (pc' := 8) (v := nI 128) (q_d dX0_init_0 3 rfl) rfl (by decide) ?_
  refine T.newI (pc' := 10) (N := 128) (q_d dX0_init_0 4 rfl) rfl rfl wA_int rfl (by decide) h0 (qIW_z (fun w h => Nat.lt_of_lt_of_le (hwi w h) (Nat.le_add_right _ _))) (by decide) (by decide) ?_
  refine T.at (cs' := 1) (sl' := 128) rfl rfl ?_
  refine T.top (v' := .ref (n0 + 0)) rfl ?_
  refine T.putRF (pc' := 13) (ci := 0) (k0 := 0) (q_d dX0_init_0 5 rfl) rfl ha (Nat.lt_of_lt_of_le ha0 (Nat.le_add_right _ _)) rfl inX0 tyX0 tyX0_ok nmX0 (by decide) rfl wF_X0_9 rfl rfl rfl (fun _ => rfl) (fun _ => rfl) ?_
  refine T.wR ?_
  refine T.aload_n (pc' := 14) (q_d dX0_init_0 6 rfl) rfl rfl rfl ?_
  refine T.sipush (pc' := 17) (v := nI 128) (q_d dX0_init_0 7 rfl) rfl (by decide) ?_
  refine T.newI (pc' := 19) (N := 128) (q_d dX0_init_0 8 rfl) rfl rfl wA_int rfl (by decide) h1 (qIW_z (fun w h => Nat.lt_of_lt_of_le (hwi w h) (Nat.le_add_right _ _))) (by decide) (by decide) ?_
  refine T.at (cs' := 2) (sl' := 256) rfl rfl ?_
  refine T.top (v' := .ref (n0 + 1)) rfl ?_
  refine T.putRF (pc' := 22) (ci := 0) (k0 := 1) (q_d dX0_init_0 9 rfl) rfl ha (Nat.lt_of_lt_of_le ha0 (Nat.le_add_right _ _)) rfl inX0 tyX0 tyX0_ok nmX0 (by decide) rfl wF_X0_15 rfl rfl rfl (fun _ => rfl) (fun _ => rfl) ?_
  refine T.wR ?_
  refine T.aload_n (pc' := 23) (q_d dX0_init_0 10 rfl) rfl rfl rfl ?_
  refine T.iload_n (pc' := 24) (q_d dX0_init_0 11 rfl) rfl rfl rfl ?_
  refine T.putIF (pc' := 27) (ci := 0) (k0 := 2) (q_d dX0_init_0 12 rfl) rfl ha (Nat.lt_of_lt_of_le ha0 (Nat.le_add_right _ _)) rfl inX0 tyX0 tyX0_ok nmX0 (by decide) rfl wF_X0_18 rfl rfl rfl rfl rfl ?_
  refine T.wI ?_
  refine T.aload_n (pc' := 28) (q_d dX0_init_0 13 rfl) rfl rfl rfl ?_
  refine T.iload_n (pc' := 29) (q_d dX0_init_0 14 rfl) rfl rfl rfl ?_
  refine T.putIF (pc' := 32) (ci := 0) (k0 := 3) (q_d dX0_init_0 15 rfl) rfl ha (Nat.lt_of_lt_of_le ha0 (Nat.le_add_right _ _)) rfl inX0 tyX0 tyX0_ok nmX0 (by decide) rfl wF_X0_22 rfl rfl rfl rfl rfl ?_
  refine T.wI ?_
  refine T.vret (q_d dX0_init_0 16 rfl) rfl rfl rfl ?_
  exact ⟨rfl, rfl⟩
theorem i_X4 (ha : hd a = .inl 4) (ha0 : a < n0) (h0 : hd (n0 + 0) = .inr (3, 7)) (h1 : hd (n0 + 1) = .inr (3, 7)) :
    Ct l hd (n0, true, 2, 14) mX4_init [.ref a] (MM wi wr) (fun v M' => v = none ∧ M' = MM wi ((a, 1, n0 + 1) :: (a, 0, n0 + 0) :: wr)) := by
  refine Ct.of [some (.ref a)] (by decide +kernel) (fun _ => rfl) (Nat.le_of_ble_eq_true rfl) rfl ?_
  refine T.aload_n (pc' := 1) (q_d dX4_init_0 0 rfl) rfl rfl rfl ?_
  refine T.objInit (pc' := 4) (q_d dX4_init_0 1 rfl) rfl wM_X4_3 wI_obj wC_obj (by decide) (Nat.le_of_ble_eq_true rfl) ?_
  refine T.aload_n (pc' := 5) (q_d dX4_init_0 2 rfl) rfl rfl rfl ?_
  refine T.bipush (pc' := 7) (v := nI 7) (q_d dX4_init_0 3 rfl) rfl (by decide) ?_
  refine T.newJ (pc' := 9) (N := 7) (q_d dX4_init_0 4 rfl) rfl rfl wA_long rfl (by decide) h0 rfl (by decide) (by decide) ?_
  refine T.at (cs' := 1) (sl' := 7) rfl rfl ?_
  refine T.top (v' := .ref (n0 + 0)) rfl ?_
  refine T.putR (pc' := 12) (ci := 4) (k0 := 0) (q_d dX4_init_0 5 rfl) rfl ha (Nat.lt_of_lt_of_le ha0 (Nat.le_add_right _ _)) rfl inX4 tyX4 tyX4_ok nmX4 (by decide) rfl wF_X4_9 rfl (fun _ => rfl) (fun _ => rfl) ?_
  refine T.wR ?_
  refine T.aload_n (pc' := 13) (q_d dX4_init_0 6 rfl) rfl rfl rfl ?_
  refine T.bipush (pc' := 15) (v := nI 7) (q_d dX4_init_0 7 rfl) rfl (by decide) ?_
  refine T.newJ (pc' := 17) (N := 7) (q_d dX4_init_0 8 rfl) rfl rfl wA_long rfl (by decide) h1 rfl (by decide) (by decide) ?_
  refine T.at (cs' := 2) (sl' := 14) rfl rfl ?_
  refine T.top (v' := .ref (n0 + 1)) rfl ?_
  refine T.putR (pc' := 20) (ci := 4) (k0 := 1) (q_d dX4_init_0 9 rfl) rfl ha (Nat.lt_of_lt_of_le ha0 (Nat.le_add_right _ _)) rfl inX4 tyX4 tyX4_ok nmX4 (by decide) rfl wF_X4_15 rfl (fun _ => rfl) (fun _ => rfl) ?_
  refine T.wR ?_
  refine T.vret (q_d dX4_init_0 10 rfl) rfl rfl rfl ?_
  exact ⟨rfl, rfl⟩
end Ini
