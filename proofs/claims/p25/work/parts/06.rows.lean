section QRows
variable {l : Launch} {hd : qH} {κ : qG} {μ : qMI} {Q : Option Value → qM → Prop} {cs sl pc pc' : Nat} {loc : List (Option Value)} {st : List Value} {M : qM}
theorem T.drop {loc' : List (Option Value)} (h : qLe loc' loc) (k : T l hd κ μ Q cs sl pc loc' st M) : T l hd κ μ Q cs sl pc loc st M := by
  intro p e s m args below meth c H locs ls D tc B E hK hP hS hZ hL
  exact k p e s m args below meth c H locs ls D tc B E hK hP hS hZ (qLs_le h hL)
theorem T.to {loc' : List (Option Value)} {st' : List Value} {M' : qM} (h1 : loc = loc') (h2 : st = st') (h3 : M = M') (k : T l hd κ μ Q cs sl pc loc' st' M') : T l hd κ μ Q cs sl pc loc st M := by
  subst h1; subst h2; subst h3; exact k
theorem T.top {v v' : Value} (h : v = v') (k : T l hd κ μ Q cs sl pc loc (v' :: st) M) : T l hd κ μ Q cs sl pc loc (v :: st) M := by
  subst h; exact k
theorem T.topi {x y : Int32} (h : x = y) (k : T l hd κ μ Q cs sl pc loc (.int y :: st) M) : T l hd κ μ Q cs sl pc loc (.int x :: st) M := by
  subst h; exact k
theorem T.topl {x y : Int64} (h : x = y) (k : T l hd κ μ Q cs sl pc loc (.long y :: st) M) : T l hd κ μ Q cs sl pc loc (.long x :: st) M := by
  subst h; exact k
theorem T.iconst {n : Int} {v : Int32} (d : decode μ.1 pc = .ok (.iconst n, 1)) (hp : pc + 1 = pc') (hv : Int32.ofInt n = v) (k : T l hd κ μ Q cs sl pc' loc (.int v :: st) M) : T l hd κ μ Q cs sl pc loc (st) M := by
  subst hp
  intro p e s m args below meth c H locs ls D tc B E hK hP hS hZ hL
  exact lv_iconst E.1 E.2.1 d hv (k p e s m args below meth c H locs ls D tc B E hK hP hS hZ hL)
theorem T.bipush {n : Int} {v : Int32} (d : decode μ.1 pc = .ok (.bipush n, 2)) (hp : pc + 2 = pc') (hv : (Int8.ofInt n).toInt32 = v) (k : T l hd κ μ Q cs sl pc' loc (.int v :: st) M) : T l hd κ μ Q cs sl pc loc (st) M := by
  subst hp
  intro p e s m args below meth c H locs ls D tc B E hK hP hS hZ hL
  exact lv_bipush E.1 E.2.1 d hv (k p e s m args below meth c H locs ls D tc B E hK hP hS hZ hL)
theorem T.sipush {n : Int} {v : Int32} (d : decode μ.1 pc = .ok (.sipush n, 3)) (hp : pc + 3 = pc') (hv : (Int16.ofInt n).toInt32 = v) (k : T l hd κ μ Q cs sl pc' loc (.int v :: st) M) : T l hd κ μ Q cs sl pc loc (st) M := by
  subst hp
  intro p e s m args below meth c H locs ls D tc B E hK hP hS hZ hL
  exact lv_sipush E.1 E.2.1 d hv (k p e s m args below meth c H locs ls D tc B E hK hP hS hZ hL)
theorem T.lconst {n : Fin 2} {v : Int64} (d : decode μ.1 pc = .ok (.lconst n, 1)) (hp : pc + 1 = pc') (hv : Int64.ofNat (n : Nat) = v) (k : T l hd κ μ Q cs sl pc' loc (.long v :: st) M) : T l hd κ μ Q cs sl pc loc (st) M := by
  subst hp
  intro p e s m args below meth c H locs ls D tc B E hK hP hS hZ hL
  exact lv_lconst E.1 E.2.1 d hv (k p e s m args below meth c H locs ls D tc B E hK hP hS hZ hL)
theorem T.iload_n {k0 : Fin 4} {i : Nat} {x : Int32} (d : decode μ.1 pc = .ok (.iload_n k0, 1)) (hp : pc + 1 = pc') (hi : (k0 : Nat) = i) (hl : loc[i]? = some (some (.int x))) (k : T l hd κ μ Q cs sl pc' loc (.int x :: st) M) : T l hd κ μ Q cs sl pc loc (st) M := by
  subst hp
  intro p e s m args below meth c H locs ls D tc B E hK hP hS hZ hL
  exact lv_iload_n E.1 E.2.1 d hi (qLs_at hL hl) (k p e s m args below meth c H locs ls D tc B E hK hP hS hZ hL)
theorem T.iload {i : Nat} {x : Int32} (d : decode μ.1 pc = .ok (.iload i, 2)) (hp : pc + 2 = pc') (hl : loc[i]? = some (some (.int x))) (k : T l hd κ μ Q cs sl pc' loc (.int x :: st) M) : T l hd κ μ Q cs sl pc loc (st) M := by
  subst hp
  intro p e s m args below meth c H locs ls D tc B E hK hP hS hZ hL
  exact lv_iload E.1 E.2.1 d (qLs_at hL hl) (k p e s m args below meth c H locs ls D tc B E hK hP hS hZ hL)
theorem T.lload_n {k0 : Fin 4} {i : Nat} {x : Int64} (d : decode μ.1 pc = .ok (.lload_n k0, 1)) (hp : pc + 1 = pc') (hi : (k0 : Nat) = i) (hl : loc[i]? = some (some (.long x))) (k : T l hd κ μ Q cs sl pc' loc (.long x :: st) M) : T l hd κ μ Q cs sl pc loc (st) M := by
  subst hp
  intro p e s m args below meth c H locs ls D tc B E hK hP hS hZ hL
  exact lv_lload_n E.1 E.2.1 d hi (qLs_at hL hl) (k p e s m args below meth c H locs ls D tc B E hK hP hS hZ hL)
theorem T.lload {i : Nat} {x : Int64} (d : decode μ.1 pc = .ok (.lload i, 2)) (hp : pc + 2 = pc') (hl : loc[i]? = some (some (.long x))) (k : T l hd κ μ Q cs sl pc' loc (.long x :: st) M) : T l hd κ μ Q cs sl pc loc (st) M := by
  subst hp
  intro p e s m args below meth c H locs ls D tc B E hK hP hS hZ hL
  exact lv_lload E.1 E.2.1 d (qLs_at hL hl) (k p e s m args below meth c H locs ls D tc B E hK hP hS hZ hL)
theorem T.aload_n {k0 : Fin 4} {i : Nat} {x : Nat} (d : decode μ.1 pc = .ok (.aload_n k0, 1)) (hp : pc + 1 = pc') (hi : (k0 : Nat) = i) (hl : loc[i]? = some (some (.ref x))) (k : T l hd κ μ Q cs sl pc' loc (.ref x :: st) M) : T l hd κ μ Q cs sl pc loc (st) M := by
  subst hp
  intro p e s m args below meth c H locs ls D tc B E hK hP hS hZ hL
  exact lv_aload_n E.1 E.2.1 d hi (qLs_at hL hl) (k p e s m args below meth c H locs ls D tc B E hK hP hS hZ hL)
theorem T.aload {i : Nat} {x : Nat} (d : decode μ.1 pc = .ok (.aload i, 2)) (hp : pc + 2 = pc') (hl : loc[i]? = some (some (.ref x))) (k : T l hd κ μ Q cs sl pc' loc (.ref x :: st) M) : T l hd κ μ Q cs sl pc loc (st) M := by
  subst hp
  intro p e s m args below meth c H locs ls D tc B E hK hP hS hZ hL
  exact lv_aload E.1 E.2.1 d (qLs_at hL hl) (k p e s m args below meth c H locs ls D tc B E hK hP hS hZ hL)
theorem T.istore_n {i : Nat} {k0 : Fin 4} {x : Int32} {loc' : List (Option Value)} (d : decode μ.1 pc = .ok (.istore_n k0, 1)) (hp : pc + 1 = pc') (hi : (k0 : Nat) = i) (hn : i < μ.2.2.1) (hok : qOk loc i = true) (hl : loc.set i (some (.int x)) = loc') (k : T l hd κ μ Q cs sl pc' loc' st M) : T l hd κ μ Q cs sl pc loc (.int x :: st) M := by
  subst hp; subst hl
  intro p e s m args below meth c H locs ls D tc B E hK hP hS hZ hL
  refine lv_istore_n E.1 E.2.1 d hi hL hn rfl (fun ls' hL' => ?_)
  exact k p e s m args below meth c H locs ls' D tc B E hK hP hS hZ (qLs_set1 hok hL')
theorem T.istore {i : Nat} {x : Int32} {loc' : List (Option Value)} (d : decode μ.1 pc = .ok (.istore i, 2)) (hp : pc + 2 = pc') (hn : i < μ.2.2.1) (hok : qOk loc i = true) (hl : loc.set i (some (.int x)) = loc') (k : T l hd κ μ Q cs sl pc' loc' st M) : T l hd κ μ Q cs sl pc loc (.int x :: st) M := by
  subst hp; subst hl
  intro p e s m args below meth c H locs ls D tc B E hK hP hS hZ hL
  refine lv_istore E.1 E.2.1 d hL hn rfl (fun ls' hL' => ?_)
  exact k p e s m args below meth c H locs ls' D tc B E hK hP hS hZ (qLs_set1 hok hL')
theorem T.lstore_n {i : Nat} {k0 : Fin 4} {x : Int64} {loc' : List (Option Value)} (d : decode μ.1 pc = .ok (.lstore_n k0, 1)) (hp : pc + 1 = pc') (hi : (k0 : Nat) = i) (hn : i + 1 < μ.2.2.1) (hok : qOk loc i = true) (hl : (loc.set i (some (.long x))).set (i + 1) none = loc') (k : T l hd κ μ Q cs sl pc' loc' st M) : T l hd κ μ Q cs sl pc loc (.long x :: st) M := by
  subst hp; subst hl
  intro p e s m args below meth c H locs ls D tc B E hK hP hS hZ hL
  refine lv_lstore_n E.1 E.2.1 d hi hL hn rfl (fun ls' hL' => ?_)
  exact k p e s m args below meth c H locs ls' D tc B E hK hP hS hZ (qLs_set2 hok hL')
theorem T.lstore {i : Nat} {x : Int64} {loc' : List (Option Value)} (d : decode μ.1 pc = .ok (.lstore i, 2)) (hp : pc + 2 = pc') (hn : i + 1 < μ.2.2.1) (hok : qOk loc i = true) (hl : (loc.set i (some (.long x))).set (i + 1) none = loc') (k : T l hd κ μ Q cs sl pc' loc' st M) : T l hd κ μ Q cs sl pc loc (.long x :: st) M := by
  subst hp; subst hl
  intro p e s m args below meth c H locs ls D tc B E hK hP hS hZ hL
  refine lv_lstore E.1 E.2.1 d hL hn rfl (fun ls' hL' => ?_)
  exact k p e s m args below meth c H locs ls' D tc B E hK hP hS hZ (qLs_set2 hok hL')
theorem T.astore_n {i : Nat} {k0 : Fin 4} {x : Nat} {loc' : List (Option Value)} (d : decode μ.1 pc = .ok (.astore_n k0, 1)) (hp : pc + 1 = pc') (hi : (k0 : Nat) = i) (hn : i < μ.2.2.1) (hok : qOk loc i = true) (hl : loc.set i (some (.ref x)) = loc') (k : T l hd κ μ Q cs sl pc' loc' st M) : T l hd κ μ Q cs sl pc loc (.ref x :: st) M := by
  subst hp; subst hl
  intro p e s m args below meth c H locs ls D tc B E hK hP hS hZ hL
  refine lv_astore_n E.1 E.2.1 d hi hL hn rfl (fun ls' hL' => ?_)
  exact k p e s m args below meth c H locs ls' D tc B E hK hP hS hZ (qLs_set1 hok hL')
theorem T.astore {i : Nat} {x : Nat} {loc' : List (Option Value)} (d : decode μ.1 pc = .ok (.astore i, 2)) (hp : pc + 2 = pc') (hn : i < μ.2.2.1) (hok : qOk loc i = true) (hl : loc.set i (some (.ref x)) = loc') (k : T l hd κ μ Q cs sl pc' loc' st M) : T l hd κ μ Q cs sl pc loc (.ref x :: st) M := by
  subst hp; subst hl
  intro p e s m args below meth c H locs ls D tc B E hK hP hS hZ hL
  refine lv_astore E.1 E.2.1 d hL hn rfl (fun ls' hL' => ?_)
  exact k p e s m args below meth c H locs ls' D tc B E hK hP hS hZ (qLs_set1 hok hL')
theorem T.iinc {i : Nat} {n : Int} {x v : Int32} {loc' : List (Option Value)} (d : decode μ.1 pc = .ok (.iinc i n, 3)) (hp : pc + 3 = pc') (hl : loc[i]? = some (some (.int x))) (hv : x + Int32.ofInt n = v) (hn : i < μ.2.2.1) (hok : qOk loc i = true) (h' : loc.set i (some (.int v)) = loc') (k : T l hd κ μ Q cs sl pc' loc' st M) : T l hd κ μ Q cs sl pc loc st M := by
  subst hp; subst h'
  intro p e s m args below meth c H locs ls D tc B E hK hP hS hZ hL
  have hm : (i, Value.int x) ∈ qLs B loc := List.mem_map.mpr ⟨(i, .int x), qP_mem.mpr ⟨Nat.zero_le _, by simpa using hl⟩, rfl⟩
  obtain ⟨j, hj⟩ := List.getElem?_of_mem hm
  refine lv_iinc E.1 E.2.1 d hL (k := j) hj hv hn rfl (fun ls' hL' => ?_)
  exact k p e s m args below meth c H locs ls' D tc B E hK hP hS hZ (qLs_set1 hok hL')
theorem T.iadd {x y z : Int32} (d : decode μ.1 pc = .ok (.iadd, 1)) (hp : pc + 1 = pc') (hz : x + y = z) (k : T l hd κ μ Q cs sl pc' loc (.int z :: st) M) : T l hd κ μ Q cs sl pc loc (.int y :: .int x :: st) M := by
  subst hp; subst hz
  intro p e s m args below meth c H locs ls D tc B E hK hP hS hZ hL
  exact lv_iadd E.1 E.2.1 d (k p e s m args below meth c H locs ls D tc B E hK hP hS hZ hL)
theorem T.isub {x y z : Int32} (d : decode μ.1 pc = .ok (.isub, 1)) (hp : pc + 1 = pc') (hz : x - y = z) (k : T l hd κ μ Q cs sl pc' loc (.int z :: st) M) : T l hd κ μ Q cs sl pc loc (.int y :: .int x :: st) M := by
  subst hp; subst hz
  intro p e s m args below meth c H locs ls D tc B E hK hP hS hZ hL
  exact lv_isub E.1 E.2.1 d (k p e s m args below meth c H locs ls D tc B E hK hP hS hZ hL)
theorem T.imul {x y z : Int32} (d : decode μ.1 pc = .ok (.imul, 1)) (hp : pc + 1 = pc') (hz : x * y = z) (k : T l hd κ μ Q cs sl pc' loc (.int z :: st) M) : T l hd κ μ Q cs sl pc loc (.int y :: .int x :: st) M := by
  subst hp; subst hz
  intro p e s m args below meth c H locs ls D tc B E hK hP hS hZ hL
  exact lv_imul E.1 E.2.1 d (k p e s m args below meth c H locs ls D tc B E hK hP hS hZ hL)
theorem T.iand {x y z : Int32} (d : decode μ.1 pc = .ok (.iand, 1)) (hp : pc + 1 = pc') (hz : x &&& y = z) (k : T l hd κ μ Q cs sl pc' loc (.int z :: st) M) : T l hd κ μ Q cs sl pc loc (.int y :: .int x :: st) M := by
  subst hp; subst hz
  intro p e s m args below meth c H locs ls D tc B E hK hP hS hZ hL
  exact lv_iand E.1 E.2.1 d (k p e s m args below meth c H locs ls D tc B E hK hP hS hZ hL)
theorem T.ior {x y z : Int32} (d : decode μ.1 pc = .ok (.ior, 1)) (hp : pc + 1 = pc') (hz : x ||| y = z) (k : T l hd κ μ Q cs sl pc' loc (.int z :: st) M) : T l hd κ μ Q cs sl pc loc (.int y :: .int x :: st) M := by
  subst hp; subst hz
  intro p e s m args below meth c H locs ls D tc B E hK hP hS hZ hL
  exact lv_ior E.1 E.2.1 d (k p e s m args below meth c H locs ls D tc B E hK hP hS hZ hL)
theorem T.ixor {x y z : Int32} (d : decode μ.1 pc = .ok (.ixor, 1)) (hp : pc + 1 = pc') (hz : x ^^^ y = z) (k : T l hd κ μ Q cs sl pc' loc (.int z :: st) M) : T l hd κ μ Q cs sl pc loc (.int y :: .int x :: st) M := by
  subst hp; subst hz
  intro p e s m args below meth c H locs ls D tc B E hK hP hS hZ hL
  exact lv_ixor E.1 E.2.1 d (k p e s m args below meth c H locs ls D tc B E hK hP hS hZ hL)
theorem T.ishl {x y z : Int32} (d : decode μ.1 pc = .ok (.ishl, 1)) (hp : pc + 1 = pc') (hz : x <<< (y &&& 31) = z) (k : T l hd κ μ Q cs sl pc' loc (.int z :: st) M) : T l hd κ μ Q cs sl pc loc (.int y :: .int x :: st) M := by
  subst hp; subst hz
  intro p e s m args below meth c H locs ls D tc B E hK hP hS hZ hL
  exact lv_ishl E.1 E.2.1 d (k p e s m args below meth c H locs ls D tc B E hK hP hS hZ hL)
theorem T.ishr {x y z : Int32} (d : decode μ.1 pc = .ok (.ishr, 1)) (hp : pc + 1 = pc') (hz : x >>> (y &&& 31) = z) (k : T l hd κ μ Q cs sl pc' loc (.int z :: st) M) : T l hd κ μ Q cs sl pc loc (.int y :: .int x :: st) M := by
  subst hp; subst hz
  intro p e s m args below meth c H locs ls D tc B E hK hP hS hZ hL
  exact lv_ishr E.1 E.2.1 d (k p e s m args below meth c H locs ls D tc B E hK hP hS hZ hL)
theorem T.iushr {x y z : Int32} (d : decode μ.1 pc = .ok (.iushr, 1)) (hp : pc + 1 = pc') (hz : (x.toUInt32 >>> (y.toUInt32 &&& Int32.toUInt32 31)).toInt32 = z) (k : T l hd κ μ Q cs sl pc' loc (.int z :: st) M) : T l hd κ μ Q cs sl pc loc (.int y :: .int x :: st) M := by
  subst hp
  intro p e s m args below meth c H locs ls D tc B E hK hP hS hZ hL
  exact lv_iushr E.1 E.2.1 d hz (k p e s m args below meth c H locs ls D tc B E hK hP hS hZ hL)
theorem T.idiv {x y z : Int32} (d : decode μ.1 pc = .ok (.idiv, 1)) (hp : pc + 1 = pc') (hne : ¬ y = 0) (hz : x / y = z) (k : T l hd κ μ Q cs sl pc' loc (.int z :: st) M) : T l hd κ μ Q cs sl pc loc (.int y :: .int x :: st) M := by
  subst hp; subst hz
  intro p e s m args below meth c H locs ls D tc B E hK hP hS hZ hL
  exact lv_idiv E.1 E.2.1 d hne (k p e s m args below meth c H locs ls D tc B E hK hP hS hZ hL)
theorem T.ladd {x y z : Int64} (d : decode μ.1 pc = .ok (.ladd, 1)) (hp : pc + 1 = pc') (hz : x + y = z) (k : T l hd κ μ Q cs sl pc' loc (.long z :: st) M) : T l hd κ μ Q cs sl pc loc (.long y :: .long x :: st) M := by
  subst hp; subst hz
  intro p e s m args below meth c H locs ls D tc B E hK hP hS hZ hL
  exact lv_ladd E.1 E.2.1 d (k p e s m args below meth c H locs ls D tc B E hK hP hS hZ hL)
theorem T.lsub {x y z : Int64} (d : decode μ.1 pc = .ok (.lsub, 1)) (hp : pc + 1 = pc') (hz : x - y = z) (k : T l hd κ μ Q cs sl pc' loc (.long z :: st) M) : T l hd κ μ Q cs sl pc loc (.long y :: .long x :: st) M := by
  subst hp; subst hz
  intro p e s m args below meth c H locs ls D tc B E hK hP hS hZ hL
  exact lv_lsub E.1 E.2.1 d (k p e s m args below meth c H locs ls D tc B E hK hP hS hZ hL)
theorem T.i2l {x : Int32} {v : Int64} (d : decode μ.1 pc = .ok (.i2l, 1)) (hp : pc + 1 = pc') (hv : x.toInt64 = v) (k : T l hd κ μ Q cs sl pc' loc (.long v :: st) M) : T l hd κ μ Q cs sl pc loc (.int x :: st) M := by
  subst hp
  intro p e s m args below meth c H locs ls D tc B E hK hP hS hZ hL
  exact lv_i2l E.1 E.2.1 d hv (k p e s m args below meth c H locs ls D tc B E hK hP hS hZ hL)
theorem T.i2c {x v : Int32} (d : decode μ.1 pc = .ok (.i2c, 1)) (hp : pc + 1 = pc') (hv : (x.toUInt32 % 65536).toInt32 = v) (k : T l hd κ μ Q cs sl pc' loc (.int v :: st) M) : T l hd κ μ Q cs sl pc loc (.int x :: st) M := by
  subst hp
  intro p e s m args below meth c H locs ls D tc B E hK hP hS hZ hL
  exact lv_i2c E.1 E.2.1 d hv (k p e s m args below meth c H locs ls D tc B E hK hP hS hZ hL)
theorem T.dup {v : Value} (d : decode μ.1 pc = .ok (.dup, 1)) (hp : pc + 1 = pc') (hc : v.category = 1) (k : T l hd κ μ Q cs sl pc' loc (v :: v :: st) M) : T l hd κ μ Q cs sl pc loc (v :: st) M := by
  subst hp
  intro p e s m args below meth c H locs ls D tc B E hK hP hS hZ hL
  exact lv_dup E.1 E.2.1 d ((qV_cat B v).trans hc) (k p e s m args below meth c H locs ls D tc B E hK hP hS hZ hL)
theorem T.dup2 {v w : Value} (d : decode μ.1 pc = .ok (.dup2, 1)) (hp : pc + 1 = pc') (hc : v.category = 1) (hc2 : w.category = 1) (k : T l hd κ μ Q cs sl pc' loc (v :: w :: v :: w :: st) M) : T l hd κ μ Q cs sl pc loc (v :: w :: st) M := by
  subst hp
  intro p e s m args below meth c H locs ls D tc B E hK hP hS hZ hL
  exact lv_dup2_11 E.1 E.2.1 d ((qV_cat B v).trans hc) ((qV_cat B w).trans hc2) (k p e s m args below meth c H locs ls D tc B E hK hP hS hZ hL)
theorem T.if_eq {x : Int32} {off : Int} {tgt : Nat} (d : decode μ.1 pc = .ok (.ifCond .eq off, 3)) (hp : pc + 3 = pc') (ht : (pc : Int) + off = (tgt : Int)) (kt : x = 0 → T l hd κ μ Q cs sl tgt loc st M) (kf : ¬ x = 0 → T l hd κ μ Q cs sl pc' loc st M) : T l hd κ μ Q cs sl pc loc (.int x :: st) M := by
  subst hp
  intro p e s m args below meth c H locs ls D tc B E hK hP hS hZ hL
  exact lv_if_eq E.1 E.2.1 d ht (fun hc => (kt hc p e s m args below meth c H locs ls D tc B E hK hP hS hZ hL)) (fun hc => (kf hc p e s m args below meth c H locs ls D tc B E hK hP hS hZ hL))
theorem T.icmp_eq {x y : Int32} {off : Int} {tgt : Nat} (d : decode μ.1 pc = .ok (.if_icmp .eq off, 3)) (hp : pc + 3 = pc') (ht : (pc : Int) + off = (tgt : Int)) (kt : x = y → T l hd κ μ Q cs sl tgt loc st M) (kf : ¬ x = y → T l hd κ μ Q cs sl pc' loc st M) : T l hd κ μ Q cs sl pc loc (.int y :: .int x :: st) M := by
  subst hp
  intro p e s m args below meth c H locs ls D tc B E hK hP hS hZ hL
  exact lv_icmp_eq E.1 E.2.1 d ht (fun hc => (kt hc p e s m args below meth c H locs ls D tc B E hK hP hS hZ hL)) (fun hc => (kf hc p e s m args below meth c H locs ls D tc B E hK hP hS hZ hL))
theorem T.if_ne {x : Int32} {off : Int} {tgt : Nat} (d : decode μ.1 pc = .ok (.ifCond .ne off, 3)) (hp : pc + 3 = pc') (ht : (pc : Int) + off = (tgt : Int)) (kt : ¬ x = 0 → T l hd κ μ Q cs sl tgt loc st M) (kf : x = 0 → T l hd κ μ Q cs sl pc' loc st M) : T l hd κ μ Q cs sl pc loc (.int x :: st) M := by
  subst hp
  intro p e s m args below meth c H locs ls D tc B E hK hP hS hZ hL
  exact lv_if_ne E.1 E.2.1 d ht (fun hc => (kt hc p e s m args below meth c H locs ls D tc B E hK hP hS hZ hL)) (fun hc => (kf hc p e s m args below meth c H locs ls D tc B E hK hP hS hZ hL))
theorem T.icmp_ne {x y : Int32} {off : Int} {tgt : Nat} (d : decode μ.1 pc = .ok (.if_icmp .ne off, 3)) (hp : pc + 3 = pc') (ht : (pc : Int) + off = (tgt : Int)) (kt : ¬ x = y → T l hd κ μ Q cs sl tgt loc st M) (kf : x = y → T l hd κ μ Q cs sl pc' loc st M) : T l hd κ μ Q cs sl pc loc (.int y :: .int x :: st) M := by
  subst hp
  intro p e s m args below meth c H locs ls D tc B E hK hP hS hZ hL
  exact lv_icmp_ne E.1 E.2.1 d ht (fun hc => (kt hc p e s m args below meth c H locs ls D tc B E hK hP hS hZ hL)) (fun hc => (kf hc p e s m args below meth c H locs ls D tc B E hK hP hS hZ hL))
theorem T.if_lt {x : Int32} {off : Int} {tgt : Nat} (d : decode μ.1 pc = .ok (.ifCond .lt off, 3)) (hp : pc + 3 = pc') (ht : (pc : Int) + off = (tgt : Int)) (kt : x < 0 → T l hd κ μ Q cs sl tgt loc st M) (kf : ¬ x < 0 → T l hd κ μ Q cs sl pc' loc st M) : T l hd κ μ Q cs sl pc loc (.int x :: st) M := by
  subst hp
  intro p e s m args below meth c H locs ls D tc B E hK hP hS hZ hL
  exact lv_if_lt E.1 E.2.1 d ht (fun hc => (kt hc p e s m args below meth c H locs ls D tc B E hK hP hS hZ hL)) (fun hc => (kf hc p e s m args below meth c H locs ls D tc B E hK hP hS hZ hL))
theorem T.icmp_lt {x y : Int32} {off : Int} {tgt : Nat} (d : decode μ.1 pc = .ok (.if_icmp .lt off, 3)) (hp : pc + 3 = pc') (ht : (pc : Int) + off = (tgt : Int)) (kt : x < y → T l hd κ μ Q cs sl tgt loc st M) (kf : ¬ x < y → T l hd κ μ Q cs sl pc' loc st M) : T l hd κ μ Q cs sl pc loc (.int y :: .int x :: st) M := by
  subst hp
  intro p e s m args below meth c H locs ls D tc B E hK hP hS hZ hL
  exact lv_icmp_lt E.1 E.2.1 d ht (fun hc => (kt hc p e s m args below meth c H locs ls D tc B E hK hP hS hZ hL)) (fun hc => (kf hc p e s m args below meth c H locs ls D tc B E hK hP hS hZ hL))
theorem T.if_ge {x : Int32} {off : Int} {tgt : Nat} (d : decode μ.1 pc = .ok (.ifCond .ge off, 3)) (hp : pc + 3 = pc') (ht : (pc : Int) + off = (tgt : Int)) (kt : 0 ≤ x → T l hd κ μ Q cs sl tgt loc st M) (kf : ¬ 0 ≤ x → T l hd κ μ Q cs sl pc' loc st M) : T l hd κ μ Q cs sl pc loc (.int x :: st) M := by
  subst hp
  intro p e s m args below meth c H locs ls D tc B E hK hP hS hZ hL
  exact lv_if_ge E.1 E.2.1 d ht (fun hc => (kt hc p e s m args below meth c H locs ls D tc B E hK hP hS hZ hL)) (fun hc => (kf hc p e s m args below meth c H locs ls D tc B E hK hP hS hZ hL))
theorem T.icmp_ge {x y : Int32} {off : Int} {tgt : Nat} (d : decode μ.1 pc = .ok (.if_icmp .ge off, 3)) (hp : pc + 3 = pc') (ht : (pc : Int) + off = (tgt : Int)) (kt : y ≤ x → T l hd κ μ Q cs sl tgt loc st M) (kf : ¬ y ≤ x → T l hd κ μ Q cs sl pc' loc st M) : T l hd κ μ Q cs sl pc loc (.int y :: .int x :: st) M := by
  subst hp
  intro p e s m args below meth c H locs ls D tc B E hK hP hS hZ hL
  exact lv_icmp_ge E.1 E.2.1 d ht (fun hc => (kt hc p e s m args below meth c H locs ls D tc B E hK hP hS hZ hL)) (fun hc => (kf hc p e s m args below meth c H locs ls D tc B E hK hP hS hZ hL))
theorem T.if_gt {x : Int32} {off : Int} {tgt : Nat} (d : decode μ.1 pc = .ok (.ifCond .gt off, 3)) (hp : pc + 3 = pc') (ht : (pc : Int) + off = (tgt : Int)) (kt : 0 < x → T l hd κ μ Q cs sl tgt loc st M) (kf : ¬ 0 < x → T l hd κ μ Q cs sl pc' loc st M) : T l hd κ μ Q cs sl pc loc (.int x :: st) M := by
  subst hp
  intro p e s m args below meth c H locs ls D tc B E hK hP hS hZ hL
  exact lv_if_gt E.1 E.2.1 d ht (fun hc => (kt hc p e s m args below meth c H locs ls D tc B E hK hP hS hZ hL)) (fun hc => (kf hc p e s m args below meth c H locs ls D tc B E hK hP hS hZ hL))
theorem T.icmp_gt {x y : Int32} {off : Int} {tgt : Nat} (d : decode μ.1 pc = .ok (.if_icmp .gt off, 3)) (hp : pc + 3 = pc') (ht : (pc : Int) + off = (tgt : Int)) (kt : y < x → T l hd κ μ Q cs sl tgt loc st M) (kf : ¬ y < x → T l hd κ μ Q cs sl pc' loc st M) : T l hd κ μ Q cs sl pc loc (.int y :: .int x :: st) M := by
  subst hp
  intro p e s m args below meth c H locs ls D tc B E hK hP hS hZ hL
  exact lv_icmp_gt E.1 E.2.1 d ht (fun hc => (kt hc p e s m args below meth c H locs ls D tc B E hK hP hS hZ hL)) (fun hc => (kf hc p e s m args below meth c H locs ls D tc B E hK hP hS hZ hL))
theorem T.if_le {x : Int32} {off : Int} {tgt : Nat} (d : decode μ.1 pc = .ok (.ifCond .le off, 3)) (hp : pc + 3 = pc') (ht : (pc : Int) + off = (tgt : Int)) (kt : x ≤ 0 → T l hd κ μ Q cs sl tgt loc st M) (kf : ¬ x ≤ 0 → T l hd κ μ Q cs sl pc' loc st M) : T l hd κ μ Q cs sl pc loc (.int x :: st) M := by
  subst hp
  intro p e s m args below meth c H locs ls D tc B E hK hP hS hZ hL
  exact lv_if_le E.1 E.2.1 d ht (fun hc => (kt hc p e s m args below meth c H locs ls D tc B E hK hP hS hZ hL)) (fun hc => (kf hc p e s m args below meth c H locs ls D tc B E hK hP hS hZ hL))
theorem T.icmp_le {x y : Int32} {off : Int} {tgt : Nat} (d : decode μ.1 pc = .ok (.if_icmp .le off, 3)) (hp : pc + 3 = pc') (ht : (pc : Int) + off = (tgt : Int)) (kt : x ≤ y → T l hd κ μ Q cs sl tgt loc st M) (kf : ¬ x ≤ y → T l hd κ μ Q cs sl pc' loc st M) : T l hd κ μ Q cs sl pc loc (.int y :: .int x :: st) M := by
  subst hp
  intro p e s m args below meth c H locs ls D tc B E hK hP hS hZ hL
  exact lv_icmp_le E.1 E.2.1 d ht (fun hc => (kt hc p e s m args below meth c H locs ls D tc B E hK hP hS hZ hL)) (fun hc => (kf hc p e s m args below meth c H locs ls D tc B E hK hP hS hZ hL))
theorem T.goto {off : Int} {tgt : Nat} (d : decode μ.1 pc = .ok (.goto off, 3)) (ht : (pc : Int) + off = (tgt : Int)) (k : T l hd κ μ Q cs sl tgt loc st M) : T l hd κ μ Q cs sl pc loc st M := by
  intro p e s m args below meth c H locs ls D tc B E hK hP hS hZ hL
  exact lv_goto E.1 E.2.1 d ht (k p e s m args below meth c H locs ls D tc B E hK hP hS hZ hL)
theorem T.ldc {index : Nat} {v : Int32} (d : decode μ.1 pc = .ok (.ldc index, 2)) (hp : pc + 2 = pc') (hc : Cond.constant μ.2.1.cls index v ∈ WS) (k : T l hd κ μ Q cs sl pc' loc (.int v :: st) M) : T l hd κ μ Q cs sl pc loc st M := by
  subst hp
  intro p e s m args below meth c H locs ls D tc B E hK hP hS hZ hL
  exact lv_ldc E.1 E.2.1 E.2.2.2.2.1 (E.2.2.2.2.2.1 _ hc) d (k p e s m args below meth c H locs ls D tc B E hK hP hS hZ hL)
theorem T.ldcw {index : Nat} {v : Int32} (d : decode μ.1 pc = .ok (.ldc_w index, 3)) (hp : pc + 3 = pc') (hc : Cond.constant μ.2.1.cls index v ∈ WS) (k : T l hd κ μ Q cs sl pc' loc (.int v :: st) M) : T l hd κ μ Q cs sl pc loc st M := by
  subst hp
  intro p e s m args below meth c H locs ls D tc B E hK hP hS hZ hL
  exact lv_ldcw E.1 E.2.1 E.2.2.2.2.1 (E.2.2.2.2.2.1 _ hc) d (k p e s m args below meth c H locs ls D tc B E hK hP hS hZ hL)
theorem T.ldc2 {index : Nat} {v : Int64} (d : decode μ.1 pc = .ok (.ldc2_w index, 3)) (hp : pc + 3 = pc') (hc : Cond.constantLong μ.2.1.cls index v ∈ WS) (k : T l hd κ μ Q cs sl pc' loc (.long v :: st) M) : T l hd κ μ Q cs sl pc loc st M := by
  subst hp
  intro p e s m args below meth c H locs ls D tc B E hK hP hS hZ hL
  exact lv_ldc2 E.1 E.2.1 E.2.2.2.2.1 (E.2.2.2.2.2.1 _ hc) d (k p e s m args below meth c H locs ls D tc B E hK hP hS hZ hL)
theorem T.tableOut {dflt lo hi : Int} {offs : Array Int} {len : Nat} {x : Int32} {tgt : Nat} (d : decode μ.1 pc = .ok (.tableswitch dflt lo hi offs, len)) (h : x.toInt < lo ∨ hi < x.toInt) (ht : (pc : Int) + dflt = (tgt : Int)) (k : T l hd κ μ Q cs sl tgt loc st M) : T l hd κ μ Q cs sl pc loc (.int x :: st) M := by
  intro p e s m args below meth c H locs ls D tc B E hK hP hS hZ hL
  exact lv_tableOut E.1 E.2.1 d h ht (k p e s m args below meth c H locs ls D tc B E hK hP hS hZ hL)
theorem T.tableIn {dflt lo hi off : Int} {offs : Array Int} {len : Nat} {x : Int32} {tgt : Nat} (d : decode μ.1 pc = .ok (.tableswitch dflt lo hi offs, len)) (h1 : ¬ x.toInt < lo) (h2 : ¬ hi < x.toInt) (ho : offs[(x.toInt - lo).toNat]? = some off) (ht : (pc : Int) + off = (tgt : Int)) (k : T l hd κ μ Q cs sl tgt loc st M) : T l hd κ μ Q cs sl pc loc (.int x :: st) M := by
  intro p e s m args below meth c H locs ls D tc B E hK hP hS hZ hL
  exact lv_tableIn E.1 E.2.1 d h1 h2 ho ht (k p e s m args below meth c H locs ls D tc B E hK hP hS hZ hL)
theorem T.lcmp {x y : Int64} {z : Int32} (d : decode μ.1 pc = .ok (.lcmp, 1)) (hp : pc + 1 = pc') (hz : lg_cmp x y = z) (k : T l hd κ μ Q cs sl pc' loc (.int z :: st) M) : T l hd κ μ Q cs sl pc loc (.long y :: .long x :: st) M := by
  subst hp; subst hz
  intro p e s m args below meth c H locs ls D tc B E hK hP hS hZ hL
  exact W.lcmp E.1 E.2.1 d (k p e s m args below meth c H locs ls D tc B E hK hP hS hZ hL)
theorem qA_in {κ : qG} {B cs h0 h a : Nat} (hZ : qZ κ B cs h0 h) (ha : a < κ.1 + cs) : qFr B κ.1 h0 (B + a) := by
  unfold qZ at hZ
  by_cases hb : κ.2.1 = true
  · rw [if_pos hb] at hZ
    by_cases h1 : a < κ.1
    · exact Or.inl ⟨Nat.le_add_right _ _, by omega⟩
    · exact Or.inr (by omega)
  · rw [if_neg hb] at hZ
    subst hZ
    exact Or.inl ⟨Nat.le_add_right _ _, by omega⟩
theorem qWD {hd : qH} {κ : qG} {tc : Nat → ClassId} {B cs h0 h : Nat} {M : qM} (hZ : qZ κ B cs h0 h) : va_D (qFr B κ.1 h0) (qW hd tc B (κ.1 + cs) M) := qW_D (fun _ ha => qA_in hZ ha)
theorem qZ_put {κ : qG} {B cs h0 h h1 : Nat} (hZ : qZ κ B cs h0 h) (e : h1 = h) : qZ κ B cs h0 h1 := by subst e; exact hZ
theorem T.getI {a ci k0 index N : Nat} {C : String} {F : u_T} (d : decode μ.1 pc = .ok (.getfield index, 3)) (hp : pc + 3 = pc') (hh : hd a = .inl ci) (ha : a < κ.1 + cs) (hc : vwCl[ci]? = some (C, F, N)) (hin : ∀ w ∈ u_ws C F N, w ∈ WS) (hk : k0 < N) (hkd : (qK ci)[k0]? = some false)
    (hlink : Cond.fieldLink μ.2.1.cls index (F k0).1 (F k0).2.1 (F k0).2.2.1 ∈ WS) {x : Nat} (hx : M.1 a k0 = x) (k : T l hd κ μ Q cs sl pc' loc (.int (nI x) :: st) M) : T l hd κ μ Q cs sl pc loc (.ref a :: st) M := by
  subst hp; subst hx
  intro p e s m args below meth c H locs ls D tc B E hK hP hS hZ hL
  have he : (qW hd tc B (κ.1 + cs) M)[a]? = some (B + a, .inr (ci, qF B M a (qK ci))) := by rw [qW_get ha]; simp only [qE, hh]
  exact va_get (D := D) (ci := ci) (v := .int (nI (M.1 a k0))) E.1 E.2.1 E.2.2.2.2.2.1 hin E.2.2.2.2.1 hK hP a he hc k0 hk (E.2.2.2.2.2.1 _ hlink) (fun _ h9 => h9) (by rw [qF_get hkd]; rfl) d (k p e s m args below meth c H locs ls D tc B E hK hP hS hZ hL)
theorem T.getR {a ci k0 index N : Nat} {C : String} {F : u_T} (d : decode μ.1 pc = .ok (.getfield index, 3)) (hp : pc + 3 = pc') (hh : hd a = .inl ci) (ha : a < κ.1 + cs) (hc : vwCl[ci]? = some (C, F, N)) (hin : ∀ w ∈ u_ws C F N, w ∈ WS) (hk : k0 < N) (hkd : (qK ci)[k0]? = some true)
    (hlink : Cond.fieldLink μ.2.1.cls index (F k0).1 (F k0).2.1 (F k0).2.2.1 ∈ WS) {b : Nat} (hx : M.2.2 a k0 = some b) (k : T l hd κ μ Q cs sl pc' loc (.ref b :: st) M) : T l hd κ μ Q cs sl pc loc (.ref a :: st) M := by
  subst hp
  intro p e s m args below meth c H locs ls D tc B E hK hP hS hZ hL
  have he : (qW hd tc B (κ.1 + cs) M)[a]? = some (B + a, .inr (ci, qF B M a (qK ci))) := by rw [qW_get ha]; simp only [qE, hh]
  exact va_get (D := D) (ci := ci) (v := .ref (B + b)) E.1 E.2.1 E.2.2.2.2.2.1 hin E.2.2.2.2.1 hK hP a he hc k0 hk (E.2.2.2.2.2.1 _ hlink) (fun _ h9 => h9) (by rw [qF_get hkd, hx]; rfl) d (k p e s m args below meth c H locs ls D tc B E hK hP hS hZ hL)
/-- what a store into a cell leaves -/
theorem q_stored {D : va_G} {tc : Nat → ClassId} {hd : qH} {κ : qG} {B cs h0 a : Nat} {M M' : qM} {H H1 : Heap} {locs : List Loc} {H0 : Heap} {k9 : Nat} (hP : va_P D vwCl (qW hd tc B (κ.1 + cs) M) H) (hS : va_S (qFr B κ.1 h0) H0 H locs) (hZ : qZ κ B cs h0 H.size) (ha : a < κ.1 + cs)
    (he : va_at D vwCl (B + a, qE tc B hd M' a) H1) (z : H1.size = H.size) (oq : ∀ q : Nat, q ≠ B + a → H1[q]? = H[q]?) (ho : ∀ b, b ≠ a → qE tc B hd M' b = qE tc B hd M b) :
    va_P D vwCl (qW hd tc B (κ.1 + cs) M') H1 ∧ va_S (qFr B κ.1 h0) H0 H1 (locs ++ [⟨B + a, k9⟩]) ∧ qZ κ B cs h0 H1.size := by
  refine ⟨?_, hS.put z oq (qA_in hZ ha), qZ_put hZ z⟩
  rw [← qW_set ha ho]
  exact hP.set (qWD hZ) (qW_get ha) he oq
theorem T.putI {a ci k0 index N : Nat} {C : String} {F : u_T} {x : Nat} (d : decode μ.1 pc = .ok (.putfield index, 3)) (hp : pc + 3 = pc') (hh : hd a = .inl ci) (ha : a < κ.1 + cs) (hc : vwCl[ci]? = some (C, F, N)) (hin : ∀ w ∈ u_ws C F N, w ∈ WS) (ty0 : Nat → FieldType) (hty : ∀ k, k < N → parseFieldDescriptor (F k).2.2.1 = some (ty0 k)) (hnm : ∀ a, a < N → ∀ b, b < N → a ≠ b → (F a).2.1 ≠ (F b).2.1) (hk : k0 < N) (hkd : (qK ci)[k0]? = some false)
    (hlink : Cond.fieldLink μ.2.1.cls index (F k0).1 (F k0).2.1 (F k0).2.2.1 ∈ WS) (hfin : (F k0).2.2.2 = false) (hn : narrow (ty0 k0) (.int (nI x)) = .int (nI x)) (hft : fits (ty0 k0) (.int (nI x)) = true) (k : T l hd κ μ Q cs sl pc' loc st (qI M a k0 x)) : T l hd κ μ Q cs sl pc loc (.int (nI x) :: .ref a :: st) M := by
  subst hp
  intro p e s m args below meth c H locs ls D tc B E hK hP hS hZ hL
  have he : va_at D vwCl (B + a, .inr (ci, qF B M a (qK ci))) H := by
    have h9 := hP a _ (qW_get ha)
    simpa only [qE, hh] using h9
  have hap := va_apart (own := μ.2.1.cls) E.2.2.2.2.2.1 hin ty0 hty hnm hK hc
  obtain ⟨r, h1, cell, q1, q2, q3, q4⟩ := he
  have hr : r = (C, F, N) := Option.some.inj (h1.symm.trans hc)
  subst hr
  obtain ⟨hS9, hfc, kC, hkC, hkind⟩ := hK.1 ci _ hc
  obtain ⟨cf, kf, fi, f, hi, hsl⟩ := hS9 k0 hk
  have hlay := E.2.2.2.2.2.1 _ (hin _ (u_in_lay hk))
  unfold u_lay at hlay
  have hst := (u_facts hfc hkC (u_lays E.2.2.2.2.2.1 hin hk) hi).1
  rw [if_neg (by rw [hfin]; decide)] at hlay
  have h6 := u_store hfc hkC hkind hlay hi (hty k0 hk) hn hft
  refine W.putK E.1 E.2.1 (f := f) ⟨E.2.2.2.2.1, E.2.2.2.2.2.1 _ hlink, ⟨_, _, _, hi⟩, hst⟩ (by rw [q2]; exact h6) q1 q3 (by rw [hsl]; exact k2_hasslot (q4 k0 hk)) rfl rfl d fun H1 e1 e2 e3 => ?_
  rw [hsl] at e1 ⊢
  have hlen : k0 < (qF B M a (qK ci)).length := by rw [qF_len]; exact (List.getElem?_eq_some_iff.mp hkd).1
  have hat : va_at D vwCl (B + a, qE tc B hd (qI M a k0 x) a) H1 := by
    have h8 : qE tc B hd (qI M a k0 x) a = .inr (ci, (qF B M a (qK ci)).set k0 (.int (nI x))) := by
      simp only [qE, hh]
      rw [← qF_setI hkd]
      try rfl
    rw [h8]
    exact ⟨_, hc, t_OB.to (V := updV (vp_V (qF B M a (qK ci))) k0 (.int (nI x))) ⟨_, e1, q2, q3, t_set q4 hap hk (.int (nI x))⟩ (fun j _ => vp_updV_set hlen (.int (nI x)) j)⟩
  obtain ⟨g1, g2, g3⟩ := q_stored hP hS hZ ha hat e2 e3 (fun b hb => qE_I b hb)
  exact k p e s m args below meth c H1 _ ls D tc B E hK g1 g2 g3 hL
theorem T.putIF {a ci k0 index N : Nat} {C : String} {F : u_T} {x : Nat} (d : decode μ.1 pc = .ok (.putfield index, 3)) (hp : pc + 3 = pc') (hh : hd a = .inl ci) (ha : a < κ.1 + cs) (hc : vwCl[ci]? = some (C, F, N)) (hin : ∀ w ∈ u_ws C F N, w ∈ WS) (ty0 : Nat → FieldType) (hty : ∀ k, k < N → parseFieldDescriptor (F k).2.2.1 = some (ty0 k)) (hnm : ∀ a, a < N → ∀ b, b < N → a ≠ b → (F a).2.1 ≠ (F b).2.1) (hk : k0 < N) (hkd : (qK ci)[k0]? = some false)
    (hlink : Cond.fieldLink μ.2.1.cls index (F k0).1 (F k0).2.1 (F k0).2.2.1 ∈ WS) (hfin : (F k0).2.2.2 = true) (hal : κ.2.1 = true) (hdecl : (F k0).1 = μ.2.1.cls) (hn : narrow (ty0 k0) (.int (nI x)) = .int (nI x)) (hft : fits (ty0 k0) (.int (nI x)) = true) (k : T l hd κ μ Q cs sl pc' loc st (qI M a k0 x)) : T l hd κ μ Q cs sl pc loc (.int (nI x) :: .ref a :: st) M := by
  subst hp
  intro p e s m args below meth c H locs ls D tc B E hK hP hS hZ hL
  have he : va_at D vwCl (B + a, .inr (ci, qF B M a (qK ci))) H := by
    have h9 := hP a _ (qW_get ha)
    simpa only [qE, hh] using h9
  have hap := va_apart (own := μ.2.1.cls) E.2.2.2.2.2.1 hin ty0 hty hnm hK hc
  obtain ⟨r, h1, cell, q1, q2, q3, q4⟩ := he
  have hr : r = (C, F, N) := Option.some.inj (h1.symm.trans hc)
  subst hr
  obtain ⟨hS9, hfc, kC, hkC, hkind⟩ := hK.1 ci _ hc
  obtain ⟨cf, kf, fi, f, hi, hsl⟩ := hS9 k0 hk
  have hlay := E.2.2.2.2.2.1 _ (hin _ (u_in_lay hk))
  unfold u_lay at hlay
  have hst := (u_facts hfc hkC (u_lays E.2.2.2.2.2.1 hin hk) hi).1
  rw [if_pos hfin] at hlay
  have hcf : m.cls = cf := by
    obtain ⟨_, _, c9, _, _, _, -, -, hf9, -, -, -, ho9, -⟩ := Cond.laysFinal_spec hlay
    have e1 : c9 = cf := by have := hi.symm.trans hf9; simp at this; exact this.1.symm
    rw [hdecl] at ho9
    rw [← e1]; exact Option.some.inj (E.2.2.2.2.1.symm.trans ho9)
  have h6 := u_fits hfc hkC hkind (Or.inr hlay) hi (hty k0 hk) hn hft
  refine W.putFinK E.1 E.2.1 E.2.2.2.2.1 (E.2.2.2.2.2.1 _ hlink) hi hst hcf ((E.2.2.2.2.2.2.2.1 hal).1) (by rw [q2]; exact h6) q1 q3 (by rw [hsl]; exact k2_hasslot (q4 k0 hk)) rfl rfl d fun H1 e1 e2 e3 => ?_
  rw [hsl] at e1 ⊢
  have hlen : k0 < (qF B M a (qK ci)).length := by rw [qF_len]; exact (List.getElem?_eq_some_iff.mp hkd).1
  have hat : va_at D vwCl (B + a, qE tc B hd (qI M a k0 x) a) H1 := by
    have h8 : qE tc B hd (qI M a k0 x) a = .inr (ci, (qF B M a (qK ci)).set k0 (.int (nI x))) := by
      simp only [qE, hh]
      rw [← qF_setI hkd]
      try rfl
    rw [h8]
    exact ⟨_, hc, t_OB.to (V := updV (vp_V (qF B M a (qK ci))) k0 (.int (nI x))) ⟨_, e1, q2, q3, t_set q4 hap hk (.int (nI x))⟩ (fun j _ => vp_updV_set hlen (.int (nI x)) j)⟩
  obtain ⟨g1, g2, g3⟩ := q_stored hP hS hZ ha hat e2 e3 (fun b hb => qE_I b hb)
  exact k p e s m args below meth c H1 _ ls D tc B E hK g1 g2 g3 hL
theorem T.putR {a ci k0 index N : Nat} {C : String} {F : u_T} {x : Nat} (d : decode μ.1 pc = .ok (.putfield index, 3)) (hp : pc + 3 = pc') (hh : hd a = .inl ci) (ha : a < κ.1 + cs) (hc : vwCl[ci]? = some (C, F, N)) (hin : ∀ w ∈ u_ws C F N, w ∈ WS) (ty0 : Nat → FieldType) (hty : ∀ k, k < N → parseFieldDescriptor (F k).2.2.1 = some (ty0 k)) (hnm : ∀ a, a < N → ∀ b, b < N → a ≠ b → (F a).2.1 ≠ (F b).2.1) (hk : k0 < N) (hkd : (qK ci)[k0]? = some true)
    (hlink : Cond.fieldLink μ.2.1.cls index (F k0).1 (F k0).2.1 (F k0).2.2.1 ∈ WS) (hfin : (F k0).2.2.2 = false) (hn : ∀ y, narrow (ty0 k0) (.ref y) = .ref y) (hft : ∀ y, fits (ty0 k0) (.ref y) = true) (k : T l hd κ μ Q cs sl pc' loc st (qR M a k0 (some x))) : T l hd κ μ Q cs sl pc loc (.ref x :: .ref a :: st) M := by
  subst hp
  intro p e s m args below meth c H locs ls D tc B E hK hP hS hZ hL
  have he : va_at D vwCl (B + a, .inr (ci, qF B M a (qK ci))) H := by
    have h9 := hP a _ (qW_get ha)
    simpa only [qE, hh] using h9
  have hap := va_apart (own := μ.2.1.cls) E.2.2.2.2.2.1 hin ty0 hty hnm hK hc
  obtain ⟨r, h1, cell, q1, q2, q3, q4⟩ := he
  have hr : r = (C, F, N) := Option.some.inj (h1.symm.trans hc)
  subst hr
  obtain ⟨hS9, hfc, kC, hkC, hkind⟩ := hK.1 ci _ hc
  obtain ⟨cf, kf, fi, f, hi, hsl⟩ := hS9 k0 hk
  have hlay := E.2.2.2.2.2.1 _ (hin _ (u_in_lay hk))
  unfold u_lay at hlay
  have hst := (u_facts hfc hkC (u_lays E.2.2.2.2.2.1 hin hk) hi).1
  rw [if_neg (by rw [hfin]; decide)] at hlay
  have h6 := u_store hfc hkC hkind hlay hi (hty k0 hk) (hn (B + x)) (hft (B + x))
  refine W.putK E.1 E.2.1 (f := f) ⟨E.2.2.2.2.1, E.2.2.2.2.2.1 _ hlink, ⟨_, _, _, hi⟩, hst⟩ (by rw [q2]; exact h6) q1 q3 (by rw [hsl]; exact k2_hasslot (q4 k0 hk)) rfl rfl d fun H1 e1 e2 e3 => ?_
  rw [hsl] at e1 ⊢
  have hlen : k0 < (qF B M a (qK ci)).length := by rw [qF_len]; exact (List.getElem?_eq_some_iff.mp hkd).1
  have hat : va_at D vwCl (B + a, qE tc B hd (qR M a k0 (some x)) a) H1 := by
    have h8 : qE tc B hd (qR M a k0 (some x)) a = .inr (ci, (qF B M a (qK ci)).set k0 (.ref (B + x))) := by
      simp only [qE, hh]
      rw [← qF_setR (x := some x) hkd]
      try rfl
    rw [h8]
    exact ⟨_, hc, t_OB.to (V := updV (vp_V (qF B M a (qK ci))) k0 (.ref (B + x))) ⟨_, e1, q2, q3, t_set q4 hap hk (.ref (B + x))⟩ (fun j _ => vp_updV_set hlen (.ref (B + x)) j)⟩
  obtain ⟨g1, g2, g3⟩ := q_stored hP hS hZ ha hat e2 e3 (fun b hb => qE_R b hb)
  exact k p e s m args below meth c H1 _ ls D tc B E hK g1 g2 g3 hL
theorem T.putRF {a ci k0 index N : Nat} {C : String} {F : u_T} {x : Nat} (d : decode μ.1 pc = .ok (.putfield index, 3)) (hp : pc + 3 = pc') (hh : hd a = .inl ci) (ha : a < κ.1 + cs) (hc : vwCl[ci]? = some (C, F, N)) (hin : ∀ w ∈ u_ws C F N, w ∈ WS) (ty0 : Nat → FieldType) (hty : ∀ k, k < N → parseFieldDescriptor (F k).2.2.1 = some (ty0 k)) (hnm : ∀ a, a < N → ∀ b, b < N → a ≠ b → (F a).2.1 ≠ (F b).2.1) (hk : k0 < N) (hkd : (qK ci)[k0]? = some true)
    (hlink : Cond.fieldLink μ.2.1.cls index (F k0).1 (F k0).2.1 (F k0).2.2.1 ∈ WS) (hfin : (F k0).2.2.2 = true) (hal : κ.2.1 = true) (hdecl : (F k0).1 = μ.2.1.cls) (hn : ∀ y, narrow (ty0 k0) (.ref y) = .ref y) (hft : ∀ y, fits (ty0 k0) (.ref y) = true) (k : T l hd κ μ Q cs sl pc' loc st (qR M a k0 (some x))) : T l hd κ μ Q cs sl pc loc (.ref x :: .ref a :: st) M := by
  subst hp
  intro p e s m args below meth c H locs ls D tc B E hK hP hS hZ hL
  have he : va_at D vwCl (B + a, .inr (ci, qF B M a (qK ci))) H := by
    have h9 := hP a _ (qW_get ha)
    simpa only [qE, hh] using h9
  have hap := va_apart (own := μ.2.1.cls) E.2.2.2.2.2.1 hin ty0 hty hnm hK hc
  obtain ⟨r, h1, cell, q1, q2, q3, q4⟩ := he
  have hr : r = (C, F, N) := Option.some.inj (h1.symm.trans hc)
  subst hr
  obtain ⟨hS9, hfc, kC, hkC, hkind⟩ := hK.1 ci _ hc
  obtain ⟨cf, kf, fi, f, hi, hsl⟩ := hS9 k0 hk
  have hlay := E.2.2.2.2.2.1 _ (hin _ (u_in_lay hk))
  unfold u_lay at hlay
  have hst := (u_facts hfc hkC (u_lays E.2.2.2.2.2.1 hin hk) hi).1
  rw [if_pos hfin] at hlay
  have hcf : m.cls = cf := by
    obtain ⟨_, _, c9, _, _, _, -, -, hf9, -, -, -, ho9, -⟩ := Cond.laysFinal_spec hlay
    have e1 : c9 = cf := by have := hi.symm.trans hf9; simp at this; exact this.1.symm
    rw [hdecl] at ho9
    rw [← e1]; exact Option.some.inj (E.2.2.2.2.1.symm.trans ho9)
  have h6 := u_fits hfc hkC hkind (Or.inr hlay) hi (hty k0 hk) (hn (B + x)) (hft (B + x))
  refine W.putFinK E.1 E.2.1 E.2.2.2.2.1 (E.2.2.2.2.2.1 _ hlink) hi hst hcf ((E.2.2.2.2.2.2.2.1 hal).1) (by rw [q2]; exact h6) q1 q3 (by rw [hsl]; exact k2_hasslot (q4 k0 hk)) rfl rfl d fun H1 e1 e2 e3 => ?_
  rw [hsl] at e1 ⊢
  have hlen : k0 < (qF B M a (qK ci)).length := by rw [qF_len]; exact (List.getElem?_eq_some_iff.mp hkd).1
  have hat : va_at D vwCl (B + a, qE tc B hd (qR M a k0 (some x)) a) H1 := by
    have h8 : qE tc B hd (qR M a k0 (some x)) a = .inr (ci, (qF B M a (qK ci)).set k0 (.ref (B + x))) := by
      simp only [qE, hh]
      rw [← qF_setR (x := some x) hkd]
      try rfl
    rw [h8]
    exact ⟨_, hc, t_OB.to (V := updV (vp_V (qF B M a (qK ci))) k0 (.ref (B + x))) ⟨_, e1, q2, q3, t_set q4 hap hk (.ref (B + x))⟩ (fun j _ => vp_updV_set hlen (.ref (B + x)) j)⟩
  obtain ⟨g1, g2, g3⟩ := q_stored hP hS hZ ha hat e2 e3 (fun b hb => qE_R b hb)
  exact k p e s m args below meth c H1 _ ls D tc B E hK g1 g2 g3 hL
theorem T.iald {a n j : Nat} {i : Int32} {x : Nat} (d : decode μ.1 pc = .ok (.iaload, 1)) (hp : pc + 1 = pc') (hh : hd a = .inr (0, n)) (ha : a < κ.1 + cs) (hi : i = nI j) (hj : j < n) (hn : n < 2 ^ 31) (hx : M.1 a j = x) (k : T l hd κ μ Q cs sl pc' loc (.int (nI x) :: st) M) : T l hd κ μ Q cs sl pc loc (.int i :: .ref a :: st) M := by
  subst hp; subst hi; subst hx
  intro p e s m args below meth c H locs ls D tc B E hK hP hS hZ hL
  have he : (qW hd tc B (κ.1 + cs) M)[a]? = some (B + a, .inl (tc 0, n, .inl (fun j => nI (M.1 a j)))) := by rw [qW_get ha]; simp [qE, hh, qAr]
  refine va_iald E.1 E.2.1 hK hP a 0 he rfl (vp_in_nI hj hn) d ?_
  rw [nI_clamp (by omega)]
  exact (k p e s m args below meth c H locs ls D tc B E hK hP hS hZ hL)
theorem T.zald {a n j : Nat} {i : Int32} {x : Nat} (d : decode μ.1 pc = .ok (.baload, 1)) (hp : pc + 1 = pc') (hh : hd a = .inr (1, n)) (ha : a < κ.1 + cs) (hi : i = nI j) (hj : j < n) (hn : n < 2 ^ 31) (hx : M.1 a j = x) (k : T l hd κ μ Q cs sl pc' loc (.int (nI x) :: st) M) : T l hd κ μ Q cs sl pc loc (.int i :: .ref a :: st) M := by
  subst hp; subst hi; subst hx
  intro p e s m args below meth c H locs ls D tc B E hK hP hS hZ hL
  have he : (qW hd tc B (κ.1 + cs) M)[a]? = some (B + a, .inl (tc 1, n, .inl (fun j => nI (M.1 a j)))) := by rw [qW_get ha]; simp [qE, hh, qAr]
  refine va_zald E.1 E.2.1 hK hP a 1 he rfl (vp_in_nI hj hn) d ?_
  rw [nI_clamp (by omega)]
  exact (k p e s m args below meth c H locs ls D tc B E hK hP hS hZ hL)
theorem T.cald {a n j : Nat} {i : Int32} {x : Nat} (d : decode μ.1 pc = .ok (.caload, 1)) (hp : pc + 1 = pc') (hh : hd a = .inr (2, n)) (ha : a < κ.1 + cs) (hi : i = nI j) (hj : j < n) (hn : n < 2 ^ 31) (hx : M.1 a j = x) (k : T l hd κ μ Q cs sl pc' loc (.int (nI x) :: st) M) : T l hd κ μ Q cs sl pc loc (.int i :: .ref a :: st) M := by
  subst hp; subst hi; subst hx
  intro p e s m args below meth c H locs ls D tc B E hK hP hS hZ hL
  have he : (qW hd tc B (κ.1 + cs) M)[a]? = some (B + a, .inl (tc 2, n, .inl (fun j => nI (M.1 a j)))) := by rw [qW_get ha]; simp [qE, hh, qAr]
  refine va_cald E.1 E.2.1 hK hP a 2 he rfl (vp_in_nI hj hn) d ?_
  rw [nI_clamp (by omega)]
  exact (k p e s m args below meth c H locs ls D tc B E hK hP hS hZ hL)
theorem T.lald {a n j : Nat} {i : Int32} {x : Int} (d : decode μ.1 pc = .ok (.laload, 1)) (hp : pc + 1 = pc') (hh : hd a = .inr (3, n)) (ha : a < κ.1 + cs) (hi : i = nI j) (hj : j < n) (hn : n < 2 ^ 31) (hx : M.2.1 a j = x) (k : T l hd κ μ Q cs sl pc' loc (.long (lI x) :: st) M) : T l hd κ μ Q cs sl pc loc (.int i :: .ref a :: st) M := by
  subst hp; subst hi; subst hx
  intro p e s m args below meth c H locs ls D tc B E hK hP hS hZ hL
  have he : (qW hd tc B (κ.1 + cs) M)[a]? = some (B + a, .inl (tc 3, n, .inr (.inl (fun j => lI (M.2.1 a j))))) := by rw [qW_get ha]; simp [qE, hh, qAr]
  refine va_lald E.1 E.2.1 hK hP a 3 he rfl (vp_in_nI hj hn) d ?_
  rw [nI_clamp (by omega)]
  exact (k p e s m args below meth c H locs ls D tc B E hK hP hS hZ hL)
theorem T.iast {a n j : Nat} {i : Int32} {x : Nat} (d : decode μ.1 pc = .ok (.iastore, 1)) (hp : pc + 1 = pc') (hh : hd a = .inr (0, n)) (ha : a < κ.1 + cs) (hi : i = nI j) (hj : j < n) (hn : n < 2 ^ 31) (k : T l hd κ μ Q cs sl pc' loc st (qI M a j x)) : T l hd κ μ Q cs sl pc loc (.int (nI x) :: .int i :: .ref a :: st) M := by
  subst hp; subst hi
  intro p e s m args below meth c H locs ls D tc B E hK hP hS hZ hL
  have he : va_at D vwCl (B + a, .inl (tc 0, n, .inl (fun j => nI (M.1 a j)))) H := by
    have h9 := hP a _ (qW_get ha)
    simpa [qE, hh, qAr] using h9
  refine W.iast E.1 E.2.1 he ((hK.2 0 _ rfl).1 n (fun j => .int (nI (M.1 a j)))) (fun q => by cases q) (by show ¬ (nI j < 0 ∨ (arrV _ _ _).slots.size ≤ _); rw [arrV_size]; exact vp_in_nI hj hn) rfl rfl d fun H1 e1 e2 e3 => ?_
  have hat : va_at D vwCl (B + a, qE tc B hd (qI M a j x) a) H1 := by
    have h8 : qE tc B hd (qI M a j x) a = .inl (tc 0, n, .inl (fun y => nI ((qI M a j x).1 a y))) := by simp [qE, hh, qAr]
    rw [h8]
    show H1[B + a]? = some (vp_cell _ _)
    rw [e1, nI_clamp (by omega)]
    rw [vp_cell_i, vp_cell_i, arrV_store]
    congr 2
    funext q
    by_cases hq : q = j
    · subst hq
      simp [updV, qI]
    · simp [updV, qI, hq]
  obtain ⟨g1, g2, g3⟩ := q_stored hP hS hZ ha hat e2 e3 (fun b hb => qE_I b hb)
  exact k p e s m args below meth c H1 _ ls D tc B E hK g1 g2 g3 hL
theorem T.zast {a n j : Nat} {i : Int32} {x : Nat} (d : decode μ.1 pc = .ok (.bastore, 1)) (hp : pc + 1 = pc') (hh : hd a = .inr (1, n)) (ha : a < κ.1 + cs) (hi : i = nI j) (hj : j < n) (hn : n < 2 ^ 31) (hw : narrow .boolean (.int (nI x)) = .int (nI x)) (k : T l hd κ μ Q cs sl pc' loc st (qI M a j x)) : T l hd κ μ Q cs sl pc loc (.int (nI x) :: .int i :: .ref a :: st) M := by
  subst hp; subst hi
  intro p e s m args below meth c H locs ls D tc B E hK hP hS hZ hL
  have he : va_at D vwCl (B + a, .inl (tc 1, n, .inl (fun j => nI (M.1 a j)))) H := by
    have h9 := hP a _ (qW_get ha)
    simpa [qE, hh, qAr] using h9
  refine W.zast E.1 E.2.1 he ((hK.2 1 _ rfl).1 n (fun j => .int (nI (M.1 a j)))) (fun q => by cases q) (by show ¬ (nI j < 0 ∨ (arrV _ _ _).slots.size ≤ _); rw [arrV_size]; exact vp_in_nI hj hn) rfl rfl d fun H1 e1 e2 e3 => ?_
  have hat : va_at D vwCl (B + a, qE tc B hd (qI M a j x) a) H1 := by
    have h8 : qE tc B hd (qI M a j x) a = .inl (tc 1, n, .inl (fun y => nI ((qI M a j x).1 a y))) := by simp [qE, hh, qAr]
    rw [h8]
    show H1[B + a]? = some (vp_cell _ _)
    rw [hw] at e1
    rw [e1, nI_clamp (by omega)]
    rw [vp_cell_i, vp_cell_i, arrV_store]
    congr 2
    funext q
    by_cases hq : q = j
    · subst hq
      simp [updV, qI]
    · simp [updV, qI, hq]
  obtain ⟨g1, g2, g3⟩ := q_stored hP hS hZ ha hat e2 e3 (fun b hb => qE_I b hb)
  exact k p e s m args below meth c H1 _ ls D tc B E hK g1 g2 g3 hL
theorem T.cast {a n j : Nat} {i : Int32} {x : Nat} (d : decode μ.1 pc = .ok (.castore, 1)) (hp : pc + 1 = pc') (hh : hd a = .inr (2, n)) (ha : a < κ.1 + cs) (hi : i = nI j) (hj : j < n) (hn : n < 2 ^ 31) (hw : narrow .char (.int (nI x)) = .int (nI x)) (k : T l hd κ μ Q cs sl pc' loc st (qI M a j x)) : T l hd κ μ Q cs sl pc loc (.int (nI x) :: .int i :: .ref a :: st) M := by
  subst hp; subst hi
  intro p e s m args below meth c H locs ls D tc B E hK hP hS hZ hL
  have he : va_at D vwCl (B + a, .inl (tc 2, n, .inl (fun j => nI (M.1 a j)))) H := by
    have h9 := hP a _ (qW_get ha)
    simpa [qE, hh, qAr] using h9
  refine W.cast E.1 E.2.1 he ((hK.2 2 _ rfl).1 n (fun j => .int (nI (M.1 a j)))) (fun q => by cases q) (by show ¬ (nI j < 0 ∨ (arrV _ _ _).slots.size ≤ _); rw [arrV_size]; exact vp_in_nI hj hn) rfl rfl d fun H1 e1 e2 e3 => ?_
  have hat : va_at D vwCl (B + a, qE tc B hd (qI M a j x) a) H1 := by
    have h8 : qE tc B hd (qI M a j x) a = .inl (tc 2, n, .inl (fun y => nI ((qI M a j x).1 a y))) := by simp [qE, hh, qAr]
    rw [h8]
    show H1[B + a]? = some (vp_cell _ _)
    rw [hw] at e1
    rw [e1, nI_clamp (by omega)]
    rw [vp_cell_i, vp_cell_i, arrV_store]
    congr 2
    funext q
    by_cases hq : q = j
    · subst hq
      simp [updV, qI]
    · simp [updV, qI, hq]
  obtain ⟨g1, g2, g3⟩ := q_stored hP hS hZ ha hat e2 e3 (fun b hb => qE_I b hb)
  exact k p e s m args below meth c H1 _ ls D tc B E hK g1 g2 g3 hL
theorem T.last {a n j : Nat} {i : Int32} {x : Int} (d : decode μ.1 pc = .ok (.lastore, 1)) (hp : pc + 1 = pc') (hh : hd a = .inr (3, n)) (ha : a < κ.1 + cs) (hi : i = nI j) (hj : j < n) (hn : n < 2 ^ 31) (k : T l hd κ μ Q cs sl pc' loc st (qJ M a j x)) : T l hd κ μ Q cs sl pc loc (.long (lI x) :: .int i :: .ref a :: st) M := by
  subst hp; subst hi
  intro p e s m args below meth c H locs ls D tc B E hK hP hS hZ hL
  have he : va_at D vwCl (B + a, .inl (tc 3, n, .inr (.inl (fun j => lI (M.2.1 a j))))) H := by
    have h9 := hP a _ (qW_get ha)
    simpa [qE, hh, qAr] using h9
  refine W.last E.1 E.2.1 he ((hK.2 3 _ rfl).1 n (fun j => .long (lI (M.2.1 a j)))) (fun q => by cases q) (by show ¬ (nI j < 0 ∨ (arrV _ _ _).slots.size ≤ _); rw [arrV_size]; exact vp_in_nI hj hn) rfl rfl d fun H1 e1 e2 e3 => ?_
  have hat : va_at D vwCl (B + a, qE tc B hd (qJ M a j x) a) H1 := by
    have h8 : qE tc B hd (qJ M a j x) a = .inl (tc 3, n, .inr (.inl (fun y => lI ((qJ M a j x).2.1 a y)))) := by simp [qE, hh, qAr]
    rw [h8]
    show H1[B + a]? = some (vp_cell _ _)
    rw [e1, nI_clamp (by omega)]
    rw [vp_cell_l, vp_cell_l, arrV_store]
    congr 2
    funext q
    by_cases hq : q = j
    · subst hq
      simp [updV, qJ]
    · simp [updV, qJ, hq]
  obtain ⟨g1, g2, g3⟩ := q_stored hP hS hZ ha hat e2 e3 (fun b hb => qE_J b hb)
  exact k p e s m args below meth c H1 _ ls D tc B E hK g1 g2 g3 hL
theorem T.qald {a n j b : Nat} {i : Int32} (d : decode μ.1 pc = .ok (.aaload, 1)) (hp : pc + 1 = pc') {t : Nat} (ht : t = 4 ∨ t = 5) (hh : hd a = .inr (t, n)) (ha : a < κ.1 + cs) (hi : i = nI j) (hj : j < n) (hn : n < 2 ^ 31) (hx : M.2.2 a j = some b) (k : T l hd κ μ Q cs sl pc' loc (.ref b :: st) M) : T l hd κ μ Q cs sl pc loc (.int i :: .ref a :: st) M := by
  subst hp; subst hi
  intro p e s m args below meth c H locs ls D tc B E hK hP hS hZ hL
  have he : va_at D vwCl (B + a, .inl (tc t, n, .inr (.inr (.inr (.inr (fun j => (M.2.2 a j).map (B + ·))))))) H := by
    have h9 := hP a _ (qW_get ha)
    rcases ht with rfl | rfl <;> simpa [qE, hh, qAr] using h9
  have hT : ∃ ty : FieldType, (qT tc)[t]? = some (tc t, ty) ∧ ty.isReference = true := by
    rcases ht with rfl | rfl
    · exact ⟨_, rfl, rfl⟩
    · exact ⟨_, rfl, rfl⟩
  obtain ⟨ty, ht1, ht2⟩ := hT
  refine W.aald (v := .ref (B + b)) (ty := ty) E.1 E.2.1 he ((hK.2 t _ ht1).1 n (fun j => va_rf ((M.2.2 a j).map (B + ·)))) ht2 (fun q => by cases q) (by show ¬ (nI j < 0 ∨ (arrV _ _ _).slots.size ≤ _); rw [arrV_size]; exact vp_in_nI hj hn) ?_ rfl rfl d (k p e s m args below meth c H locs ls D tc B E hK hP hS hZ hL)
  rw [nI_clamp (by omega)]
  show (arrV _ _ _).slots[_]? = _
  rw [arrV_read _ _ hj]
  show some (va_rf ((M.2.2 a j).map (B + ·))) = _
  rw [hx]
  rfl
theorem T.qast {a n j b ci : Nat} {i : Int32} {r : vw_C} (d : decode μ.1 pc = .ok (.aastore, 1)) (hp : pc + 1 = pc') (hh : hd a = .inr (4, n)) (ha : a < κ.1 + cs) (hi : i = nI j) (hj : j < n) (hn : n < 2 ^ 31) (hb : b < κ.1 + cs) (hhb : hd b = .inl ci) (hc : vwCl[ci]? = some r) (hr : r.1 = "BlindHunts$State") (k : T l hd κ μ Q cs sl pc' loc st (qR M a j (some b))) : T l hd κ μ Q cs sl pc loc (.ref b :: .int i :: .ref a :: st) M := by
  subst hp; subst hi
  intro p e s m args below meth c H locs ls D tc B E hK hP hS hZ hL
  have he : va_at D vwCl (B + a, .inl (tc 4, n, .inr (.inr (.inr (.inr (fun j => (M.2.2 a j).map (B + ·))))))) H := by
    have h9 := hP a _ (qW_get ha)
    simpa [qE, hh, qAr] using h9
  have hv : va_at D vwCl (B + b, .inr (ci, qF B M b (qK ci))) H := by
    have h9 := hP b _ (qW_get hb)
    simpa [qE, hhb] using h9
  obtain ⟨r', hr', cellV, g1, g2, g3, -⟩ := hv
  have hcls := (hK.1 ci r hc).2
  obtain ⟨kA, comp, k1, k2, k3, -⟩ := (hK.2 4 _ rfl).2
  rw [← hr] at k3
  have hcomp : comp = D.1 ci := Option.some.inj (k3.symm.trans hcls.1)
  subst hcomp
  obtain ⟨kC, hkC, -⟩ := hcls.2
  have hin9 : vp_in (nI j) n := vp_in_nI hj hn
  refine W.aast E.1 E.2.1 he (fun q h => by cases h) (fun h => by cases h) k1 k2 rfl hkC ⟨fun q => hin9 (Or.inl q), by show _ < (arrV _ _ _).slots.size; rw [arrV_size, nI_clamp (by omega)]; exact hj⟩ g1 (fun q h => by rw [g3] at h; cases h) (by rw [g2]; exact hkC) (by rw [g2]; exact va_assign hcls) rfl rfl d fun H1 e1 e2 e3 => ?_
  have hat : va_at D vwCl (B + a, qE tc B hd (qR M a j (some b)) a) H1 := by
    have h8 : qE tc B hd (qR M a j (some b)) a = .inl (tc 4, n, .inr (.inr (.inr (.inr (fun i => ((qR M a j (some b)).2.2 a i).map (B + ·)))))) := by simp [qE, hh, qAr]
    rw [h8]
    show H1[B + a]? = some (vp_cell _ _)
    rw [e1, nI_clamp (by omega)]
    rw [vp_cell_q, vp_cell_q, arrV_store]
    congr 2
    funext q
    by_cases hq : q = j
    · subst hq
      simp [updV, qR, va_rf]
    · simp [updV, qR, hq]
  obtain ⟨w1, w2, w3⟩ := q_stored hP hS hZ ha hat e2 e3 (fun b hb => qE_R b hb)
  exact k p e s m args below meth c H1 _ ls D tc B E hK w1 w2 w3 hL
theorem q_end {D : va_G} {tc : Nat → ClassId} {B : Nat} {H : Heap} {v : Option Value} {args : Array Value} {s t : State} {locs : List Loc} (hm : cs = κ.2.2.1) (hq : Q v M) (hP : va_P D vwCl (qW hd tc B (κ.1 + cs) M) H) (hS : va_S (qFr B κ.1 s.heap.size) s.heap H locs) (hZ : qZ κ B cs s.heap.size H.size) (ht : t.heap = H) : qQ hd κ D tc B Q args s (.returned (v.map (qV B))) t := by
  subst hm
  refine ⟨⟨v, M, rfl, hq, fun h => ?_, by rw [ht]; exact hP⟩, hS.F ht⟩
  unfold qZ at hZ
  rw [if_pos h] at hZ
  rw [ht]; exact hZ.2
theorem T.iret {v : Int32} (d : decode μ.1 pc = .ok (.ireturn, 1)) (hr : μ.2.2.2.1 = some .int) (hm : cs = κ.2.2.1) (hs : sl = κ.2.2.2) (hq : Q (some (.int v)) M) : T l hd κ μ Q cs sl pc loc [.int v] M := by
  subst hs
  intro p e s m args below meth c H locs ls D tc B E hK hP hS hZ hL
  have h9 := fun (t : State) (ht : t.heap = H) (_ : s.WarmedH t.vm) => q_end (v := some (.int v)) (args := args) (t := t) hm hq hP hS hZ ht
  subst hm
  exact W.iret (v := v) E.1 E.2.1 (E.2.2.1.trans hr) h9 hS.2.2 d E.2.2.2.2.2.2.1
theorem T.zret {v : Int32} {ty : FieldType} (d : decode μ.1 pc = .ok (.ireturn, 1)) (hr : μ.2.2.2.1 = some ty) (hn : narrow ty (.int v) = .int v) (hm : cs = κ.2.2.1) (hs : sl = κ.2.2.2) (hq : Q (some (.int v)) M) : T l hd κ μ Q cs sl pc loc [.int v] M := by
  subst hs
  intro p e s m args below meth c H locs ls D tc B E hK hP hS hZ hL
  have h9 := fun (t : State) (ht : t.heap = H) (_ : s.WarmedH t.vm) => q_end (v := some (.int v)) (args := args) (t := t) hm hq hP hS hZ ht
  subst hm
  exact W.zret (v := v) E.1 E.2.1 (E.2.2.1.trans hr) hn h9 hS.2.2 d E.2.2.2.2.2.2.1
theorem T.lret {v : Int64} (d : decode μ.1 pc = .ok (.lreturn, 1)) (hr : μ.2.2.2.1 = some .long) (hm : cs = κ.2.2.1) (hs : sl = κ.2.2.2) (hq : Q (some (.long v)) M) : T l hd κ μ Q cs sl pc loc [.long v] M := by
  subst hs
  intro p e s m args below meth c H locs ls D tc B E hK hP hS hZ hL
  have h9 := fun (t : State) (ht : t.heap = H) (_ : s.WarmedH t.vm) => q_end (v := some (.long v)) (args := args) (t := t) hm hq hP hS hZ ht
  subst hm
  exact W.lret (v := v) E.1 E.2.1 (E.2.2.1.trans hr) h9 hS.2.2 d E.2.2.2.2.2.2.1
theorem T.aret {v : Nat} {n : String} (d : decode μ.1 pc = .ok (.areturn, 1)) (hr : μ.2.2.2.1 = some (.object n)) (hm : cs = κ.2.2.1) (hs : sl = κ.2.2.2) (hq : Q (some (.ref v)) M) : T l hd κ μ Q cs sl pc loc [.ref v] M := by
  subst hs
  intro p e s m args below meth c H locs ls D tc B E hK hP hS hZ hL
  have h9 := fun (t : State) (ht : t.heap = H) (_ : s.WarmedH t.vm) => q_end (v := some (.ref v)) (args := args) (t := t) hm hq hP hS hZ ht
  subst hm
  exact W.aret (v := .ref (B + v)) E.1 E.2.1 (E.2.2.1.trans hr) (Or.inl ⟨_, rfl⟩) (Or.inr ⟨_, rfl⟩) h9 hS.2.2 d E.2.2.2.2.2.2.1
theorem T.vret (d : decode μ.1 pc = .ok (.return_, 1)) (hr : μ.2.2.2.1 = none) (hm : cs = κ.2.2.1) (hs : sl = κ.2.2.2) (hq : Q none M) : T l hd κ μ Q cs sl pc loc [] M := by
  subst hs
  intro p e s m args below meth c H locs ls D tc B E hK hP hS hZ hL
  have h9 := fun (t : State) (ht : t.heap = H) (_ : s.WarmedH t.vm) => q_end (v := none) (args := args) (t := t) hm hq hP hS hZ ht
  subst hm
  exact W.vret E.1 E.2.1 (E.2.2.1.trans hr) h9 hS.2.2 d E.2.2.2.2.2.2.1
/-- behind a call -/
theorem q_back {p : Program} {e : Env} {R : Room} {s : State} {m : MethodId} {args : Array Value} {below : List Frame} {meth : Method} {c : Code} {H : Heap} {locs : List Loc} {Qs : State → Prop} {ls : Array Slot} {D : va_G} {tc : Nat → ClassId} {B : Nat} {κ' : qG} {Q' : Option Value → qM → Prop} {a9 : Array Value} {pc : Nat} {st0 : List Value}
    (hκ : κ'.1 = κ.1 + cs) (hal : κ'.2.1 = κ.2.1) (hmc : κ.2.1 = false → κ'.2.2.1 = 0)
    (hr : va_Run p l e R s m args below meth c H locs cs sl κ'.2.2.1 κ'.2.2.2 (F0 m pc ls st0) (st.map (qV B)) (qQ hd κ' D tc B Q' a9) (qFr B κ'.1 H.size))
    (hS : va_S (qFr B κ.1 s.heap.size) s.heap H locs) (hZ : qZ κ B cs s.heap.size H.size)
    (k : ∀ (v : Option Value) (M' : qM) (H1 : Heap) (locs1 : List Loc), Q' v M' → va_P D vwCl (qW hd tc B (κ.1 + (cs + κ'.2.2.1)) M') H1 → va_S (qFr B κ.1 s.heap.size) s.heap H1 locs1 → qZ κ B (cs + κ'.2.2.1) s.heap.size H1.size →
      W p l e R s m args below meth c H1 locs1 (cs + κ'.2.2.1) (sl + κ'.2.2.2) Qs (F0 m (pc + 3) ls ((v.toList ++ st).map (qV B)))) : W p l e R s m args below meth c H locs cs sl Qs (F0 m pc ls st0) := by
  intro U hU X
  obtain ⟨v, st₀, t, T', L, h0, X', hL, e1, e2, ⟨⟨v', M', hv, hQ, hz, hP1⟩, hF⟩, stp⟩ := hr U hU X
  have hin : ∀ q, qFr B κ'.1 H.size q → qFr B κ.1 s.heap.size q := by
    intro q hq
    unfold qZ at hZ
    rcases hq with ⟨h1, h2⟩ | h1
    · by_cases hb : κ.2.1 = true
      · rw [if_pos hb] at hZ
        by_cases h3 : q < B + κ.1
        · exact Or.inl ⟨h1, h3⟩
        · exact Or.inr (by omega)
      · rw [if_neg hb] at hZ
        exact Or.inl ⟨h1, by omega⟩
    · exact Or.inr (Nat.le_trans hS.1 h1)
  rw [hκ, Nat.add_assoc] at hP1
  have hF1 : H.size ≤ t.heap.size := by rw [← h0]; exact hF.1
  have hF2 : ∀ q : Nat, q < H.size → ¬ qFr B κ'.1 H.size q → t.heap[q]? = H[q]? := by rw [← h0]; exact hF.2
  have hvv : v = v'.map (qV B) := Outcome.returned.inj hv
  subst hvv
  have hS1 : va_S (qFr B κ.1 s.heap.size) s.heap T'.heap (locs ++ L) := by
    refine ⟨Nat.le_trans hS.1 (by rw [e1]; exact hF1), fun q h1 h2 => ?_, fun q hq => ?_⟩
    · rw [e1, hF2 q (Nat.lt_of_lt_of_le h1 hS.1) (fun z => h2 (hin q z))]
      exact hS.2.1 q h1 h2
    · rcases List.mem_append.mp hq with h | h
      · exact hS.2.2 q h
      · exact hin _ (hL q h)
  have hZ1 : qZ κ B (cs + κ'.2.2.1) s.heap.size T'.heap.size := by
    unfold qZ at hZ ⊢
    by_cases hb : κ.2.1 = true
    · rw [if_pos hb] at hZ ⊢
      have := hz (hal.trans hb)
      rw [e1]
      exact ⟨hZ.1, by omega⟩
    · rw [if_neg hb] at hZ ⊢
      have := hmc (by simpa using hb)
      omega
  obtain ⟨t2, a1, b1⟩ := k v' M' T'.heap (locs ++ L) hQ (by rw [e1]; exact hP1) hS1 hZ1 T' rfl X'
  refine ⟨t2, stp t2 ?_, b1⟩
  have hst : (v'.map (qV B)).toList ++ st.map (qV B) = (v'.toList ++ st).map (qV B) := by cases v' <;> simp
  rw [hst]
  exact a1
theorem q_blind {D : va_G} {tc : Nat → ClassId} {hd : qH} {κ : qG} {B sz : Nat} {M : qM} {av : List Value} : FrameBlind (va_Pc av (fun U => U.heap.size = sz ∧ (κ.2.1 = true → sz = B + κ.1 ∧ qN U) ∧ va_P D vwCl (qW hd tc B κ.1 M) U.heap ∧ va_K D vwCl (qT tc) U)) := by
  intro a U g mk q
  obtain ⟨q0, q1, q2, q3, q4⟩ := q
  exact ⟨q0, q1, fun h => ⟨(q2 h).1, (q2 h).2⟩, q3, va_K.moved (u := U) (U := U.calling g mk a) (Vm.Alike.refl U.vm) q4⟩
abbrev qOkR (κ' : qG) (μ μ' : qMI) (cs sl : Nat) : Prop := μ'.2.2.2.2.cells = κ'.2.2.1 ∧ μ'.2.2.2.2.slots = κ'.2.2.2 ∧ μ'.2.2.2.2.frames + 1 ≤ μ.2.2.2.2.frames ∧ 8 + (μ'.2.2.1 + 11) + μ'.2.2.2.2.locals ≤ μ.2.2.2.2.locals ∧ cs + κ'.2.2.1 ≤ μ.2.2.2.2.cells ∧ sl + κ'.2.2.2 ≤ μ.2.2.2.2.slots
def qMeth (μ : qMI) (n : Nat) : Prop := Cond.code μ.2.1 μ.1 μ.2.2.1 μ.2.2.2.1 ∈ WS ∧ Cond.initialized μ.2.1.cls ∈ WS ∧ μ.2.1.cls ≠ "java/lang/invoke/MethodHandle" ∧ μ.2.1.cls ≠ "java/lang/invoke/VarHandle" ∧ (parseMethodDescriptor μ.2.1.desc).map (fun d => d.parameters.length) = some n
def qVirt (μ : qMI) (n : Nat) : Prop := Cond.instanceMethod μ.2.1 ∈ WS ∧ Cond.selects μ.2.1.cls μ.2.1 μ.2.1 ∈ WS ∧ qMeth μ n
def qStat (μ : qMI) (n : Nat) : Prop := Cond.static μ.2.1 ∈ WS ∧ qMeth μ n
def qCtor (μ : qMI) (n : Nat) : Prop := Cond.instanceMethod μ.2.1 ∈ WS ∧ μ.2.1.name = "<init>" ∧ μ.2.2.2.1 = none ∧ qMeth μ n
theorem qIn {μ : qMI} {w : Cond} (h : w ∈ WS) : w ∈ qWs μ ∧ ((w.onTables && w.keeps) = true ∨ ∃ ty, w = .arrayClass ty) := ⟨List.mem_cons_of_mem _ h, good_of_word (List.mem_filter.mp h).2⟩
theorem qGood {μ μ' : qMI} (h : Cond.code μ'.2.1 μ'.1 μ'.2.2.1 μ'.2.2.2.1 ∈ WS) : GoodIn (qWs μ) (qWs μ') := by
  intro w hw
  rcases List.mem_cons.mp hw with rfl | hw
  · exact qIn h
  · exact qIn hw
theorem T.callV {μ' : qMI} {κ' : qG} {Q' : Option Value → qM → Prop} {index n b : Nat} {as st stk : List Value} {ci N : Nat} {F : u_T} (d : decode μ.1 pc = .ok (.invokevirtual index, 3)) (hp : pc + 3 = pc') (hm : qVirt μ' n) (hl : Cond.methodLink μ.2.1.cls index μ'.2.1 ∈ WS) (hC : Ct l hd κ' μ' (.ref b :: as) M Q') (hs : stk = as.reverse ++ .ref b :: st) (hn : as.length = n) (hb : b < κ.1 + cs) (hhb : hd b = .inl ci) (hc : vwCl[ci]? = some (μ'.2.1.cls, F, N)) (hR : qOkR κ' μ μ' cs sl) (hst : (st.map fun v => v.category).sum ≤ 8)
    (hκ : κ'.1 = κ.1 + cs) (hal : κ'.2.1 = κ.2.1) (hmc : κ.2.1 = false → κ'.2.2.1 = 0)
    (k : ∀ (v : Option Value) (M' : qM), Q' v M' → T l hd κ μ Q (cs + κ'.2.2.1) (sl + κ'.2.2.2) pc' loc (v.toList ++ st) M') : T l hd κ μ Q cs sl pc loc stk M := by
  subst hp; subst hs
  intro p e s m args below meth c H locs ls D tc B E hK hP hS hZ hL
  have hC9 := hC D tc B H.size
  have hts := E.2.2.2.2.2.1
  have hPc : ∀ U : State, U.heap = H → s.WarmedH U.vm → va_Pc ((.ref b :: as).map (qV B)) (fun U => U.heap.size = H.size ∧ (κ'.2.1 = true → H.size = B + κ'.1 ∧ qN U) ∧ va_P D vwCl (qW hd tc B κ'.1 M) U.heap ∧ va_K D vwCl (qT tc) U) ((.ref b :: as).map (qV B)).toArray U := by
    intro U hU hW
    refine ⟨rfl, by rw [hU], fun h => ?_, by rw [hU, hκ]; exact hP, va_K.moved hW.alike hK⟩
    refine ⟨?_, qN.moved hW (E.2.2.2.2.2.2.2.1 (hal ▸ h)).2⟩
    unfold qZ at hZ
    rw [if_pos (hal ▸ h)] at hZ
    rw [hκ]; omega
  have hcat : 2 * (F0 m pc ls ([] : List Value)).monitorRoom + ((st.map (qV B)).map fun v => v.category).sum ≤ 8 := by
    refine lv_room ?_
    rw [List.map_map]
    have : ((fun v : Value => v.category) ∘ qV B) = fun v => v.category := funext fun v => qV_cat B v
    rw [this]; exact hst
  have hG : GoodIn (qWs μ) (wsV μ.2.1.cls index μ'.2.1.cls μ'.2.1 (qWs μ')) := by
    refine goodIn_app9 (fun w hw => ?_) (qGood hm.2.2.1)
    rcases List.mem_cons.mp hw with rfl | hw
    · exact qIn hl
    rcases List.mem_cons.mp hw with rfl | hw
    · exact qIn hm.1
    rcases List.mem_cons.mp hw with rfl | hw
    · exact qIn hm.2.1
    rcases List.mem_cons.mp hw with rfl | hw
    · exact qIn hm.2.2.2.1
    cases hw
  have hts9 : ∀ w ∈ qWs μ, w.before args s = true := E.2.2.2.2.2.2.2.2
  have hrun := va_runV (p := p) (e := e) (below := below) (meth := meth) (H := H) (locs := locs) (cells := cs) (slots := sl) (C := μ'.2.1.cls) (b := B + b) (As := as.map (qV B)) (rest := st.map (qV B)) (g := F0 m pc ls ((as.reverse ++ .ref b :: st).map (qV B))) (Ts := qWs μ) ⟨E.1, E.2.1, E.2.2.2.1, E.2.2.2.2.1, hts9⟩ hC9 (cwV n hts9 hG rfl hR.1 hR.2.1 ⟨rfl, hm.2.2.2.2⟩ ⟨hR.2.2.1, hR.2.2.2.1⟩)
    ⟨q_blind, va_recv (fs := qF B M b (qK ci)) hK hP (ci := ci) (q0 := b) hc (by rw [qW_get hb]; simp only [qE, hhb]), hPc⟩ rfl (by simpa using hn) (hL.1) (by simp [qV]) hcat d ⟨hR.2.2.2.2.1, hR.2.2.2.2.2⟩
  refine q_back hκ hal hmc hrun hS hZ (fun v M' H1 locs1 hQ hP1 hS1 hZ1 => ?_)
  exact k v M' hQ p e s m args below meth c H1 locs1 ls D tc B E hK hP1 hS1 hZ1 hL
theorem T.callS {μ' : qMI} {κ' : qG} {Q' : Option Value → qM → Prop} {index n : Nat} {as st stk : List Value} (d : decode μ.1 pc = .ok (.invokestatic index, 3)) (hp : pc + 3 = pc') (hm : qStat μ' n) (hl : Cond.methodLink μ.2.1.cls index μ'.2.1 ∈ WS) (hC : Ct l hd κ' μ' as M Q') (hs : stk = as.reverse ++ st) (hn : as.length = n) (hR : qOkR κ' μ μ' cs sl) (hst : (st.map fun v => v.category).sum ≤ 8)
    (hκ : κ'.1 = κ.1 + cs) (hal : κ'.2.1 = κ.2.1) (hmc : κ.2.1 = false → κ'.2.2.1 = 0)
    (k : ∀ (v : Option Value) (M' : qM), Q' v M' → T l hd κ μ Q (cs + κ'.2.2.1) (sl + κ'.2.2.2) pc' loc (v.toList ++ st) M') : T l hd κ μ Q cs sl pc loc stk M := by
  subst hp; subst hs
  intro p e s m args below meth c H locs ls D tc B E hK hP hS hZ hL
  have hC9 := hC D tc B H.size
  have hts := E.2.2.2.2.2.1
  have hPc : ∀ U : State, U.heap = H → s.WarmedH U.vm → va_Pc (as.map (qV B)) (fun U => U.heap.size = H.size ∧ (κ'.2.1 = true → H.size = B + κ'.1 ∧ qN U) ∧ va_P D vwCl (qW hd tc B κ'.1 M) U.heap ∧ va_K D vwCl (qT tc) U) (as.map (qV B)).toArray U := by
    intro U hU hW
    refine ⟨rfl, by rw [hU], fun h => ?_, by rw [hU, hκ]; exact hP, va_K.moved hW.alike hK⟩
    refine ⟨?_, qN.moved hW (E.2.2.2.2.2.2.2.1 (hal ▸ h)).2⟩
    unfold qZ at hZ
    rw [if_pos (hal ▸ h)] at hZ
    rw [hκ]; omega
  have hcat : 2 * (F0 m pc ls ([] : List Value)).monitorRoom + ((st.map (qV B)).map fun v => v.category).sum ≤ 8 := by
    refine lv_room ?_
    rw [List.map_map]
    have : ((fun v : Value => v.category) ∘ qV B) = fun v => v.category := funext fun v => qV_cat B v
    rw [this]; exact hst
  have hG : GoodIn (qWs μ) (va_wsS μ.2.1.cls index μ'.2.1 (qWs μ')) := by
    refine goodIn_app9 (fun w hw => ?_) (qGood hm.2.1)
    rcases List.mem_cons.mp hw with rfl | hw
    · exact qIn hl
    rcases List.mem_cons.mp hw with rfl | hw
    · exact qIn hm.1
    rcases List.mem_cons.mp hw with rfl | hw
    · exact qIn hm.2.2.1
    cases hw
  have hts9 : ∀ w ∈ qWs μ, w.before args s = true := E.2.2.2.2.2.2.2.2
  have hrun := va_runS (p := p) (e := e) (below := below) (meth := meth) (H := H) (locs := locs) (cells := cs) (slots := sl) (As := as.map (qV B)) (rest := st.map (qV B)) (g := F0 m pc ls ((as.reverse ++ st).map (qV B))) (Ts := qWs μ) ⟨E.1, E.2.1, E.2.2.2.1, E.2.2.2.2.1, hts9⟩ hC9 (va_cwS n hts9 hG rfl hR.1 hR.2.1 hm.2.2.2 ⟨hR.2.2.1, hR.2.2.2.1⟩)
    ⟨q_blind, hPc⟩ rfl (by simpa using hn) (hL.1) (by simp) hcat d ⟨hR.2.2.2.2.1, hR.2.2.2.2.2⟩
  refine q_back hκ hal hmc hrun hS hZ (fun v M' H1 locs1 hQ hP1 hS1 hZ1 => ?_)
  exact k v M' hQ p e s m args below meth c H1 locs1 ls D tc B E hK hP1 hS1 hZ1 hL
theorem T.callI {μ' : qMI} {κ' : qG} {Q' : Option Value → qM → Prop} {index n b : Nat} {as st stk : List Value} (d : decode μ.1 pc = .ok (.invokespecial index, 3)) (hp : pc + 3 = pc') (hm : qCtor μ' n) (hl : Cond.methodLink μ.2.1.cls index μ'.2.1 ∈ WS) (hC : Ct l hd κ' μ' (.ref b :: as) M Q') (hs : stk = as.reverse ++ .ref b :: st) (hn : as.length = n) (hR : qOkR κ' μ μ' cs sl) (hst : (st.map fun v => v.category).sum ≤ 8)
    (hκ : κ'.1 = κ.1 + cs) (hal : κ'.2.1 = κ.2.1) (hmc : κ.2.1 = false → κ'.2.2.1 = 0)
    (k : ∀ (v : Option Value) (M' : qM), Q' v M' → T l hd κ μ Q (cs + κ'.2.2.1) (sl + κ'.2.2.2) pc' loc (v.toList ++ st) M') : T l hd κ μ Q cs sl pc loc stk M := by
  subst hp; subst hs
  intro p e s m args below meth c H locs ls D tc B E hK hP hS hZ hL
  have hC9 := hC D tc B H.size
  have hts := E.2.2.2.2.2.1
  have hPc : ∀ U : State, U.heap = H → s.WarmedH U.vm → va_Pc ((.ref b :: as).map (qV B)) (fun U => U.heap.size = H.size ∧ (κ'.2.1 = true → H.size = B + κ'.1 ∧ qN U) ∧ va_P D vwCl (qW hd tc B κ'.1 M) U.heap ∧ va_K D vwCl (qT tc) U) ((.ref b :: as).map (qV B)).toArray U := by
    intro U hU hW
    refine ⟨rfl, by rw [hU], fun h => ?_, by rw [hU, hκ]; exact hP, va_K.moved hW.alike hK⟩
    refine ⟨?_, qN.moved hW (E.2.2.2.2.2.2.2.1 (hal ▸ h)).2⟩
    unfold qZ at hZ
    rw [if_pos (hal ▸ h)] at hZ
    rw [hκ]; omega
  have hcat : 2 * (F0 m pc ls ([] : List Value)).monitorRoom + ((st.map (qV B)).map fun v => v.category).sum ≤ 8 := by
    refine lv_room ?_
    rw [List.map_map]
    have : ((fun v : Value => v.category) ∘ qV B) = fun v => v.category := funext fun v => qV_cat B v
    rw [this]; exact hst
  have hts9 : ∀ w ∈ qWs μ, w.before args s = true := E.2.2.2.2.2.2.2.2
  have hrun := va_runI (p := p) (e := e) (below := below) (meth := meth) (H := H) (locs := locs) (cells := cs) (slots := sl) (b := B + b) (As := as.map (qV B)) (rest := st.map (qV B)) (g := F0 m pc ls ((as.reverse ++ .ref b :: st).map (qV B))) (Ts := qWs μ) ⟨E.1, E.2.1, E.2.2.2.1, E.2.2.2.2.1, hts9⟩ hC9 (cwI n hts9 (qGood hm.2.2.2.1) (by unfold qWs; rw [hm.2.2.1]) hR.1 hR.2.1 (hts _ hm.2.2.2.2.1) (hts _ hl) (hts _ hm.1) hm.2.1 hm.2.2.2.2.2 ⟨hR.2.2.1, hR.2.2.2.1⟩)
    ⟨q_blind, hPc⟩ rfl (by simpa using hn) (hL.1) (by simp [qV]) hcat d ⟨hR.2.2.2.2.1, hR.2.2.2.2.2⟩
  refine q_back hκ hal hmc hrun hS hZ (fun v M' H1 locs1 hQ hP1 hS1 hZ1 => ?_)
  exact k v M' hQ p e s m args below meth c H1 locs1 ls D tc B E hK hP1 hS1 hZ1 hL
theorem T.callIN {μ' : qMI} {κ' : qG} {Q' : Option Value → qM → Prop} {index n b : Nat} {as st stk : List Value} {host : String} (d : decode μ.1 pc = .ok (.invokespecial index, 3)) (hp : pc + 3 = pc') (hm : qCtor μ' n) (hl : ∀ s : State, qN s → va_Nw (.methodLinkNest μ.2.1.cls index μ'.2.1 host) s) (hC : Ct l hd κ' μ' (.ref b :: as) M Q') (hs : stk = as.reverse ++ .ref b :: st) (hn : as.length = n) (hala : κ.2.1 = true) (hR : qOkR κ' μ μ' cs sl) (hst : (st.map fun v => v.category).sum ≤ 8)
    (hκ : κ'.1 = κ.1 + cs) (hal : κ'.2.1 = κ.2.1) (hmc : κ.2.1 = false → κ'.2.2.1 = 0)
    (k : ∀ (v : Option Value) (M' : qM), Q' v M' → T l hd κ μ Q (cs + κ'.2.2.1) (sl + κ'.2.2.2) pc' loc (v.toList ++ st) M') : T l hd κ μ Q cs sl pc loc stk M := by
  subst hp; subst hs
  intro p e s m args below meth c H locs ls D tc B E hK hP hS hZ hL
  have hC9 := hC D tc B H.size
  have hts := E.2.2.2.2.2.1
  have hPc : ∀ U : State, U.heap = H → s.WarmedH U.vm → va_Pc ((.ref b :: as).map (qV B)) (fun U => U.heap.size = H.size ∧ (κ'.2.1 = true → H.size = B + κ'.1 ∧ qN U) ∧ va_P D vwCl (qW hd tc B κ'.1 M) U.heap ∧ va_K D vwCl (qT tc) U) ((.ref b :: as).map (qV B)).toArray U := by
    intro U hU hW
    refine ⟨rfl, by rw [hU], fun h => ?_, by rw [hU, hκ]; exact hP, va_K.moved hW.alike hK⟩
    refine ⟨?_, qN.moved hW (E.2.2.2.2.2.2.2.1 (hal ▸ h)).2⟩
    unfold qZ at hZ
    rw [if_pos (hal ▸ h)] at hZ
    rw [hκ]; omega
  have hcat : 2 * (F0 m pc ls ([] : List Value)).monitorRoom + ((st.map (qV B)).map fun v => v.category).sum ≤ 8 := by
    refine lv_room ?_
    rw [List.map_map]
    have : ((fun v : Value => v.category) ∘ qV B) = fun v => v.category := funext fun v => qV_cat B v
    rw [this]; exact hst
  have hts9 : ∀ w ∈ qWs μ, w.before args s = true := E.2.2.2.2.2.2.2.2
  have hnw : va_Nw (.methodLinkNest μ.2.1.cls index μ'.2.1 host) s := hl s (E.2.2.2.2.2.2.2.1 hala).2
  have hrun := va_runIN (p := p) (e := e) (below := below) (meth := meth) (H := H) (locs := locs) (cells := cs) (slots := sl) (b := B + b) (As := as.map (qV B)) (rest := st.map (qV B)) (g := F0 m pc ls ((as.reverse ++ .ref b :: st).map (qV B))) (Ts := qWs μ) ⟨E.1, E.2.1, E.2.2.2.1, E.2.2.2.2.1, hts9⟩ hC9 ⟨va_cnB (host := host) n hts9 (qGood hm.2.2.2.1) (by unfold qWs; rw [hm.2.2.1]) hR.1 hR.2.1 hnw (hts _ hm.2.2.2.2.1) hm.2.2.2.2.2 ⟨hR.2.2.1, hR.2.2.2.1⟩, hm.2.1, hts _ hm.1⟩
    ⟨q_blind, hPc⟩ rfl (by simpa using hn) (hL.1) (by simp [qV]) hcat d ⟨hR.2.2.2.2.1, hR.2.2.2.2.2⟩
  refine q_back hκ hal hmc hrun hS hZ (fun v M' H1 locs1 hQ hP1 hS1 hZ1 => ?_)
  exact k v M' hQ p e s m args below meth c H1 locs1 ls D tc B E hK hP1 hS1 hZ1 hL
theorem T.objInit {a index : Nat} (d : decode μ.1 pc = .ok (.invokespecial index, 3)) (hp : pc + 3 = pc') (h1 : Cond.methodLink μ.2.1.cls index objectInit ∈ WS) (h2 : Cond.instanceMethod objectInit ∈ WS) (h3 : Cond.code objectInit ⟨#[0xb1]⟩ 1 none ∈ WS) (hf : 1 ≤ μ.2.2.2.2.frames) (hl : (st.map fun v => v.category).sum + 12 ≤ μ.2.2.2.2.locals) (k : T l hd κ μ Q cs sl pc' loc st M) : T l hd κ μ Q cs sl pc loc (.ref a :: st) M := by
  subst hp
  intro p e s m args below meth c H locs ls D tc B E hK hP hS hZ hL
  have hts := E.2.2.2.2.2.1
  have hcat : 2 * (F0 m pc ls ([] : List Value)).monitorRoom + ((st.map (qV B)).map fun v => v.category).sum + 12 ≤ μ.2.2.2.2.locals := by
    have e9 : (F0 m pc ls ([] : List Value)).monitorRoom = 0 := rfl
    rw [e9, List.map_map]
    have : ((fun v : Value => v.category) ∘ qV B) = fun v => v.category := funext fun v => qV_cat B v
    rw [this]; omega
  exact W.objInit E.1 E.2.1 E.2.2.2.2.1 (hts _ h1) (hts _ h2) (hts _ h3) rfl (by rw [E.2.2.2.1]; exact hL.1) rfl d hf hcat (k p e s m args below meth c H locs ls D tc B E hK hP hS hZ hL)
theorem T.mmax {x y z : Int32} {index : Nat} (d : decode μ.1 pc = .ok (.invokestatic index, 3)) (hp : pc + 3 = pc') (h1 : Cond.methodLink μ.2.1.cls index Lib.Math.max.name ∈ WS) (h2 : Cond.static Lib.Math.max.name ∈ WS) (h3 : Cond.initialized "java/lang/Math" ∈ WS) (h4 : Cond.code Lib.Math.max.name Lib.Math.max.code 2 (some .int) ∈ WS) (hf : 1 ≤ μ.2.2.2.2.frames) (hl : (st.map fun v => v.category).sum + 13 ≤ μ.2.2.2.2.locals) (hc : cs ≤ μ.2.2.2.2.cells) (hs : sl ≤ μ.2.2.2.2.slots) (hz : (if x < y then y else x) = z) (k : T l hd κ μ Q cs sl pc' loc (.int z :: st) M) : T l hd κ μ Q cs sl pc loc (.int y :: .int x :: st) M := by
  subst hp; subst hz
  intro p e s m args below meth c H locs ls D tc B E hK hP hS hZ hL
  have hts := E.2.2.2.2.2.1
  have hcat : ((st.map (qV B)).map fun v => v.category).sum + 13 ≤ μ.2.2.2.2.locals := by
    rw [List.map_map]
    have : ((fun v : Value => v.category) ∘ qV B) = fun v => v.category := funext fun v => qV_cat B v
    rw [this]; omega
  exact va_mmax E.1 E.2.1 (by rw [E.2.2.2.1]; exact hL.1.symm) E.2.2.2.2.1 (hts _ h1) (hts _ h2) (hts _ h3) (hts _ h4) hf hcat hc hs d (k p e s m args below meth c H locs ls D tc B E hK hP hS hZ hL)
theorem T.mmin {x y z : Int32} {index : Nat} (d : decode μ.1 pc = .ok (.invokestatic index, 3)) (hp : pc + 3 = pc') (h1 : Cond.methodLink μ.2.1.cls index Lib.Math.min.name ∈ WS) (h2 : Cond.static Lib.Math.min.name ∈ WS) (h3 : Cond.initialized "java/lang/Math" ∈ WS) (h4 : Cond.code Lib.Math.min.name Lib.Math.min.code 2 (some .int) ∈ WS) (hf : 1 ≤ μ.2.2.2.2.frames) (hl : (st.map fun v => v.category).sum + 13 ≤ μ.2.2.2.2.locals) (hc : cs ≤ μ.2.2.2.2.cells) (hs : sl ≤ μ.2.2.2.2.slots) (hz : (if y < x then y else x) = z) (k : T l hd κ μ Q cs sl pc' loc (.int z :: st) M) : T l hd κ μ Q cs sl pc loc (.int y :: .int x :: st) M := by
  subst hp; subst hz
  intro p e s m args below meth c H locs ls D tc B E hK hP hS hZ hL
  have hts := E.2.2.2.2.2.1
  have hcat : ((st.map (qV B)).map fun v => v.category).sum + 13 ≤ μ.2.2.2.2.locals := by
    rw [List.map_map]
    have : ((fun v : Value => v.category) ∘ qV B) = fun v => v.category := funext fun v => qV_cat B v
    rw [this]; omega
  exact va_mmin E.1 E.2.1 (by rw [E.2.2.2.1]; exact hL.1.symm) E.2.2.2.2.1 (hts _ h1) (hts _ h2) (hts _ h3) (hts _ h4) hf hcat hc hs d (k p e s m args below meth c H locs ls D tc B E hK hP hS hZ hL)
theorem qW_app {D : va_G} {tc : Nat → ClassId} {hd : qH} {B n : Nat} {M : qM} {H H1 : Heap} (hP : va_P D vwCl (qW hd tc B n M) H) (ho : ∀ q, q < H.size → H1[q]? = H[q]?) (he : va_at D vwCl (B + n, qE tc B hd M n) H1) : va_P D vwCl (qW hd tc B (n + 1) M) H1 := by
  intro k q hk
  obtain ⟨h1, rfl⟩ := qW_inv hk
  by_cases h : k < n
  · exact (hP k _ (qW_get h)).kept (ho _ ((hP k _ (qW_get h)).lt))
  · rw [show k = n by omega]
    exact he
theorem qS_app {κ : qG} {B h0 : Nat} {H0 H H1 : Heap} {locs : List Loc} (hS : va_S (qFr B κ.1 h0) H0 H locs) (hz : H.size ≤ H1.size) (ho : ∀ q, q < H.size → H1[q]? = H[q]?) : va_S (qFr B κ.1 h0) H0 H1 locs :=
  ⟨Nat.le_trans hS.1 hz, fun q h1 h2 => (ho q (Nat.lt_of_lt_of_le h1 hS.1)).trans (hS.2.1 q h1 h2), hS.2.2⟩
theorem T.newo {ci index N : Nat} {C : String} {F : u_T} (d : decode μ.1 pc = .ok (.new index, 3)) (hp : pc + 3 = pc') (hal : κ.2.1 = true) (hh : hd (κ.1 + cs) = .inl ci) (hc : vwCl[ci]? = some (C, F, N)) (hin : ∀ w ∈ u_ws C F N, w ∈ WS) (ty0 : Nat → FieldType) (hty : ∀ k, k < N → parseFieldDescriptor (F k).2.2.1 = some (ty0 k))
    (h1 : Cond.classLink μ.2.1.cls index C ∈ WS) (h2 : Cond.instantiable C N ∈ WS) (h3 : Cond.initialized C ∈ WS) (hfs : ∀ j, j < N → ((qK ci)[j]? = some true ∧ defaultValue (ty0 j) = .null) ∨ ((qK ci)[j]? = some false ∧ defaultValue (ty0 j) = .int 0)) (hM : M.1 (κ.1 + cs) = fun _ => 0) (hM2 : M.2.2 (κ.1 + cs) = fun _ => none)
    (hcells : cs + 1 ≤ μ.2.2.2.2.cells) (hslots : sl + N ≤ μ.2.2.2.2.slots) (k : T l hd κ μ Q (cs + 1) (sl + N) pc' loc (.ref (κ.1 + cs) :: st) M) : T l hd κ μ Q cs sl pc loc st M := by
  subst hp
  intro p e s m args below meth c H locs ls D tc B E hK hP hS hZ hL
  have hts := E.2.2.2.2.2.1
  have hKn := hK.1 ci _ hc
  have hZ0 := hZ
  unfold qZ at hZ0
  rw [if_pos hal] at hZ0
  refine W.newcK E.1 E.2.1 E.2.2.2.2.1 (hts _ h1) (hts _ h2) (hts _ h3) rfl d hcells hslots hKn.2.1 rfl fun H1 kC hkC e1 z1 o1 => ?_
  have hat : va_at D vwCl (B + (κ.1 + cs), qE tc B hd M (κ.1 + cs)) H1 := by
    simp only [qE, hh]
    refine ⟨_, hc, ?_⟩
    have e9 : B + (κ.1 + cs) = H.size := by omega
    show t_OB (B + (κ.1 + cs)) _ _ _ _ _
    rw [e9]
    refine (u_born ty0 hts hin hKn hkC e1 hty).to (fun j hj => ?_)
    show defaultValue (ty0 j) = (qF B M (κ.1 + cs) (qK ci)).getD j .null
    rcases hfs j hj with ⟨g1, g2⟩ | ⟨g1, g2⟩
    · rw [List.getD_eq_getElem?_getD, qF_get g1, g2, hM2]; rfl
    · rw [List.getD_eq_getElem?_getD, qF_get g1, g2, hM]; rfl
  have w1 := qW_app hP o1 hat
  have w3 : qZ κ B (cs + 1) s.heap.size H1.size := by
    unfold qZ
    rw [if_pos hal]
    exact ⟨hZ0.1, by omega⟩
  have w4 := k p e s m args below meth c H1 locs ls D tc B E hK (by rw [← Nat.add_assoc]; exact w1) (qS_app hS (by omega) o1) w3 hL
  have e9 : B + (κ.1 + cs) = H.size := by omega
  have e8 : (Value.ref (κ.1 + cs) :: st).map (qV B) = .ref H.size :: st.map (qV B) := by
    show Value.ref (B + (κ.1 + cs)) :: _ = _
    rw [e9]
  rw [e8] at w4
  exact w4
theorem T.newI {N : Nat} {i : Int32} (d : decode μ.1 pc = .ok (.newarray .int, 2)) (hp : pc + 2 = pc') (hal : κ.2.1 = true) (hw : Cond.arrayClass .int ∈ WS) (hi : i = nI N) (hN : N < 2 ^ 20) (hh : hd (κ.1 + cs) = .inr (0, N)) (hM : M.1 (κ.1 + cs) = fun _ => 0) (hcells : cs + 1 ≤ μ.2.2.2.2.cells) (hslots : sl + N ≤ μ.2.2.2.2.slots) (k : T l hd κ μ Q (cs + 1) (sl + N) pc' loc (.ref (κ.1 + cs) :: st) M) : T l hd κ μ Q cs sl pc loc (.int i :: st) M := by
  subst hp; subst hi
  intro p e s m args below meth c H locs ls D tc B E hK hP hS hZ hL
  have hZ0 := hZ
  unfold qZ at hZ0
  rw [if_pos hal] at hZ0
  have hN31 : N < 2 ^ 31 := Nat.lt_trans hN (by decide)
  refine va_newaK (atype := .int) E.1 E.2.1 (E.2.2.2.2.2.1 _ hw) (g := F0 m pc ls ((.int (nI N) :: st).map (qV B))) rfl d rfl (nI_pos hN31) (nI_clamp hN31) (Nat.le_trans (Nat.mul_le_mul (Nat.le_of_lt hN) (show componentBytes (newarray.typeOf .int) ≤ 8 by decide)) (by decide)) hcells hslots rfl fun H1 cA e1 z1 o1 hAr hNm => ?_
  have hcA : cA = tc 0 := by
    have h9 : va_RA s (tc 0) .int := (hK.2 0 _ rfl).2
    have h8 : s.vm.findClass ("[" ++ (.int : FieldType).toString) = some (tc 0) := h9
    exact Option.some.inj (hNm.symm.trans h8)
  subst hcA
  have hat : va_at D vwCl (B + (κ.1 + cs), qE tc B hd M (κ.1 + cs)) H1 := by
    have e9 : B + (κ.1 + cs) = H.size := by omega
    simp only [qE, hh]
    show H1[B + (κ.1 + cs)]? = some (vp_cell _ _)
    rw [e9, e1]
    simp only [qAr]
    simp [hM, vp_cell]
    rfl
  have w1 := qW_app hP o1 hat
  have w3 : qZ κ B (cs + 1) s.heap.size H1.size := by
    unfold qZ
    rw [if_pos hal]
    exact ⟨hZ0.1, by omega⟩
  have w4 := k p e s m args below meth c H1 locs ls D tc B E hK (by rw [← Nat.add_assoc]; exact w1) (qS_app hS (by omega) o1) w3 hL
  have e9 : B + (κ.1 + cs) = H.size := by omega
  have e8 : (Value.ref (κ.1 + cs) :: st).map (qV B) = .ref H.size :: st.map (qV B) := by
    show Value.ref (B + (κ.1 + cs)) :: _ = _
    rw [e9]
  rw [e8] at w4
  exact w4
theorem T.newZ {N : Nat} {i : Int32} (d : decode μ.1 pc = .ok (.newarray .boolean, 2)) (hp : pc + 2 = pc') (hal : κ.2.1 = true) (hw : Cond.arrayClass .boolean ∈ WS) (hi : i = nI N) (hN : N < 2 ^ 20) (hh : hd (κ.1 + cs) = .inr (1, N)) (hM : M.1 (κ.1 + cs) = fun _ => 0) (hcells : cs + 1 ≤ μ.2.2.2.2.cells) (hslots : sl + N ≤ μ.2.2.2.2.slots) (k : T l hd κ μ Q (cs + 1) (sl + N) pc' loc (.ref (κ.1 + cs) :: st) M) : T l hd κ μ Q cs sl pc loc (.int i :: st) M := by
  subst hp; subst hi
  intro p e s m args below meth c H locs ls D tc B E hK hP hS hZ hL
  have hZ0 := hZ
  unfold qZ at hZ0
  rw [if_pos hal] at hZ0
  have hN31 : N < 2 ^ 31 := Nat.lt_trans hN (by decide)
  refine va_newaK (atype := .boolean) E.1 E.2.1 (E.2.2.2.2.2.1 _ hw) (g := F0 m pc ls ((.int (nI N) :: st).map (qV B))) rfl d rfl (nI_pos hN31) (nI_clamp hN31) (Nat.le_trans (Nat.mul_le_mul (Nat.le_of_lt hN) (show componentBytes (newarray.typeOf .boolean) ≤ 8 by decide)) (by decide)) hcells hslots rfl fun H1 cA e1 z1 o1 hAr hNm => ?_
  have hcA : cA = tc 1 := by
    have h9 : va_RA s (tc 1) .boolean := (hK.2 1 _ rfl).2
    have h8 : s.vm.findClass ("[" ++ (.boolean : FieldType).toString) = some (tc 1) := h9
    exact Option.some.inj (hNm.symm.trans h8)
  subst hcA
  have hat : va_at D vwCl (B + (κ.1 + cs), qE tc B hd M (κ.1 + cs)) H1 := by
    have e9 : B + (κ.1 + cs) = H.size := by omega
    simp only [qE, hh]
    show H1[B + (κ.1 + cs)]? = some (vp_cell _ _)
    rw [e9, e1]
    simp only [qAr]
    simp [hM, vp_cell]
    rfl
  have w1 := qW_app hP o1 hat
  have w3 : qZ κ B (cs + 1) s.heap.size H1.size := by
    unfold qZ
    rw [if_pos hal]
    exact ⟨hZ0.1, by omega⟩
  have w4 := k p e s m args below meth c H1 locs ls D tc B E hK (by rw [← Nat.add_assoc]; exact w1) (qS_app hS (by omega) o1) w3 hL
  have e9 : B + (κ.1 + cs) = H.size := by omega
  have e8 : (Value.ref (κ.1 + cs) :: st).map (qV B) = .ref H.size :: st.map (qV B) := by
    show Value.ref (B + (κ.1 + cs)) :: _ = _
    rw [e9]
  rw [e8] at w4
  exact w4
theorem T.newC {N : Nat} {i : Int32} (d : decode μ.1 pc = .ok (.newarray .char, 2)) (hp : pc + 2 = pc') (hal : κ.2.1 = true) (hw : Cond.arrayClass .char ∈ WS) (hi : i = nI N) (hN : N < 2 ^ 20) (hh : hd (κ.1 + cs) = .inr (2, N)) (hM : M.1 (κ.1 + cs) = fun _ => 0) (hcells : cs + 1 ≤ μ.2.2.2.2.cells) (hslots : sl + N ≤ μ.2.2.2.2.slots) (k : T l hd κ μ Q (cs + 1) (sl + N) pc' loc (.ref (κ.1 + cs) :: st) M) : T l hd κ μ Q cs sl pc loc (.int i :: st) M := by
  subst hp; subst hi
  intro p e s m args below meth c H locs ls D tc B E hK hP hS hZ hL
  have hZ0 := hZ
  unfold qZ at hZ0
  rw [if_pos hal] at hZ0
  have hN31 : N < 2 ^ 31 := Nat.lt_trans hN (by decide)
  refine va_newaK (atype := .char) E.1 E.2.1 (E.2.2.2.2.2.1 _ hw) (g := F0 m pc ls ((.int (nI N) :: st).map (qV B))) rfl d rfl (nI_pos hN31) (nI_clamp hN31) (Nat.le_trans (Nat.mul_le_mul (Nat.le_of_lt hN) (show componentBytes (newarray.typeOf .char) ≤ 8 by decide)) (by decide)) hcells hslots rfl fun H1 cA e1 z1 o1 hAr hNm => ?_
  have hcA : cA = tc 2 := by
    have h9 : va_RA s (tc 2) .char := (hK.2 2 _ rfl).2
    have h8 : s.vm.findClass ("[" ++ (.char : FieldType).toString) = some (tc 2) := h9
    exact Option.some.inj (hNm.symm.trans h8)
  subst hcA
  have hat : va_at D vwCl (B + (κ.1 + cs), qE tc B hd M (κ.1 + cs)) H1 := by
    have e9 : B + (κ.1 + cs) = H.size := by omega
    simp only [qE, hh]
    show H1[B + (κ.1 + cs)]? = some (vp_cell _ _)
    rw [e9, e1]
    simp only [qAr]
    simp [hM, vp_cell]
    rfl
  have w1 := qW_app hP o1 hat
  have w3 : qZ κ B (cs + 1) s.heap.size H1.size := by
    unfold qZ
    rw [if_pos hal]
    exact ⟨hZ0.1, by omega⟩
  have w4 := k p e s m args below meth c H1 locs ls D tc B E hK (by rw [← Nat.add_assoc]; exact w1) (qS_app hS (by omega) o1) w3 hL
  have e9 : B + (κ.1 + cs) = H.size := by omega
  have e8 : (Value.ref (κ.1 + cs) :: st).map (qV B) = .ref H.size :: st.map (qV B) := by
    show Value.ref (B + (κ.1 + cs)) :: _ = _
    rw [e9]
  rw [e8] at w4
  exact w4
theorem T.newJ {N : Nat} {i : Int32} (d : decode μ.1 pc = .ok (.newarray .long, 2)) (hp : pc + 2 = pc') (hal : κ.2.1 = true) (hw : Cond.arrayClass .long ∈ WS) (hi : i = nI N) (hN : N < 2 ^ 20) (hh : hd (κ.1 + cs) = .inr (3, N)) (hM : M.2.1 (κ.1 + cs) = fun _ => 0) (hcells : cs + 1 ≤ μ.2.2.2.2.cells) (hslots : sl + N ≤ μ.2.2.2.2.slots) (k : T l hd κ μ Q (cs + 1) (sl + N) pc' loc (.ref (κ.1 + cs) :: st) M) : T l hd κ μ Q cs sl pc loc (.int i :: st) M := by
  subst hp; subst hi
  intro p e s m args below meth c H locs ls D tc B E hK hP hS hZ hL
  have hZ0 := hZ
  unfold qZ at hZ0
  rw [if_pos hal] at hZ0
  have hN31 : N < 2 ^ 31 := Nat.lt_trans hN (by decide)
  refine va_newaK (atype := .long) E.1 E.2.1 (E.2.2.2.2.2.1 _ hw) (g := F0 m pc ls ((.int (nI N) :: st).map (qV B))) rfl d rfl (nI_pos hN31) (nI_clamp hN31) (Nat.le_trans (Nat.mul_le_mul (Nat.le_of_lt hN) (show componentBytes (newarray.typeOf .long) ≤ 8 by decide)) (by decide)) hcells hslots rfl fun H1 cA e1 z1 o1 hAr hNm => ?_
  have hcA : cA = tc 3 := by
    have h9 : va_RA s (tc 3) .long := (hK.2 3 _ rfl).2
    have h8 : s.vm.findClass ("[" ++ (.long : FieldType).toString) = some (tc 3) := h9
    exact Option.some.inj (hNm.symm.trans h8)
  subst hcA
  have hat : va_at D vwCl (B + (κ.1 + cs), qE tc B hd M (κ.1 + cs)) H1 := by
    have e9 : B + (κ.1 + cs) = H.size := by omega
    simp only [qE, hh]
    show H1[B + (κ.1 + cs)]? = some (vp_cell _ _)
    rw [e9, e1]
    simp only [qAr]
    simp [hM, vp_cell]
    rfl
  have w1 := qW_app hP o1 hat
  have w3 : qZ κ B (cs + 1) s.heap.size H1.size := by
    unfold qZ
    rw [if_pos hal]
    exact ⟨hZ0.1, by omega⟩
  have w4 := k p e s m args below meth c H1 locs ls D tc B E hK (by rw [← Nat.add_assoc]; exact w1) (qS_app hS (by omega) o1) w3 hL
  have e9 : B + (κ.1 + cs) = H.size := by omega
  have e8 : (Value.ref (κ.1 + cs) :: st).map (qV B) = .ref H.size :: st.map (qV B) := by
    show Value.ref (B + (κ.1 + cs)) :: _ = _
    rw [e9]
  rw [e8] at w4
  exact w4
theorem T.newS {N index : Nat} {i : Int32} (d : decode μ.1 pc = .ok (.anewarray index, 3)) (hp : pc + 3 = pc') (hal : κ.2.1 = true) (h1 : Cond.classLink μ.2.1.cls index "BlindHunts$State" ∈ WS) (hi : i = nI N) (hN : N < 2 ^ 20) (hh : hd (κ.1 + cs) = .inr (4, N)) (hM : M.2.2 (κ.1 + cs) = fun _ => none) (hcells : cs + 1 ≤ μ.2.2.2.2.cells) (hslots : sl + N ≤ μ.2.2.2.2.slots) (k : T l hd κ μ Q (cs + 1) (sl + N) pc' loc (.ref (κ.1 + cs) :: st) M) : T l hd κ μ Q cs sl pc loc (.int i :: st) M := by
  subst hp; subst hi
  intro p e s m args below meth c H locs ls D tc B E hK hP hS hZ hL
  have hZ0 := hZ
  unfold qZ at hZ0
  rw [if_pos hal] at hZ0
  have hN31 : N < 2 ^ 31 := Nat.lt_trans hN (by decide)
  refine W.anew E.1 E.2.1 E.2.2.2.2.1 (E.2.2.2.2.2.1 _ h1) (va_AO.use (E.2.2.2.2.2.2.2.1 hal).2.1) (g := F0 m pc ls ((.int (nI N) :: st).map (qV B))) rfl d rfl (nI_pos hN31) (by rw [nI_clamp hN31]; omega) hcells (by rw [nI_clamp hN31]; exact hslots) fun cA kA comp f1 f2 f3 f4 => ?_
  rw [nI_clamp hN31]
  generalize hH1 : H.push ({ cls := cA, slots := Array.replicate N .null, vm := .none } : Cell) = H1
  have z1 : H1.size = H.size + 1 := by rw [← hH1, Array.size_push]
  have e1 : H1[H.size]? = some (arrV cA N (fun _ => .null)) := by rw [← hH1, Array.getElem?_push_size, ← arrV_new]
  have o1 : ∀ q : Nat, q < H.size → H1[q]? = H[q]? := fun q hq => by rw [← hH1, Array.getElem?_push, if_neg (Nat.ne_of_lt hq)]
  have hcA : cA = tc 4 := by
    obtain ⟨_, _, _, _, _, h8⟩ := (hK.2 4 _ rfl).2
    exact Option.some.inj (f1.symm.trans h8)
  subst hcA
  have hat : va_at D vwCl (B + (κ.1 + cs), qE tc B hd M (κ.1 + cs)) H1 := by
    have e9 : B + (κ.1 + cs) = H.size := by omega
    simp only [qE, hh]
    show H1[B + (κ.1 + cs)]? = some (vp_cell _ _)
    rw [e9, e1]
    simp only [qAr]
    simp [hM, vp_cell, va_rf]
  have w1 := qW_app hP o1 hat
  have w3 : qZ κ B (cs + 1) s.heap.size H1.size := by
    unfold qZ
    rw [if_pos hal]
    exact ⟨hZ0.1, by omega⟩
  have w4 := k p e s m args below meth c H1 locs ls D tc B E hK (by rw [← Nat.add_assoc]; exact w1) (qS_app hS (by omega) o1) w3 hL
  have e9 : B + (κ.1 + cs) = H.size := by omega
  have e8 : (Value.ref (κ.1 + cs) :: st).map (qV B) = .ref H.size :: st.map (qV B) := by
    show Value.ref (B + (κ.1 + cs)) :: _ = _
    rw [e9]
  rw [e8] at w4
  exact w4
theorem T.mna {index N K : Nat} (d : decode μ.1 pc = .ok (.multianewarray index 2, 4)) (hp : pc + 4 = pc') (hal : κ.2.1 = true) (h1 : Cond.classLink μ.2.1.cls index ("[" ++ (FieldType.array .int).toString) ∈ WS) (h3 : Cond.arrayClass .int ∈ WS) {n k9 : Int32} (hn : n = nI N) (hk9 : k9 = nI K) (hN : N < 2 ^ 20) (hK9 : K < 2 ^ 20)
    (hh : hd (κ.1 + cs) = .inr (5, N)) (hhi : ∀ j, j < N → hd (κ.1 + cs + 1 + j) = .inr (0, K)) (hM : ∀ j, j < N → M.1 (κ.1 + cs + 1 + j) = fun _ => 0) (hcells : cs + (1 + N) ≤ μ.2.2.2.2.cells) (hslots : sl + (N + N * K) ≤ μ.2.2.2.2.slots)
    (k : T l hd κ μ Q (cs + 1 + N) (sl + N + N * K) pc' loc (.ref (κ.1 + cs) :: st) (M.1, M.2.1, fun b j => if b = κ.1 + cs then (if j < N then some (κ.1 + cs + 1 + j) else none) else M.2.2 b j)) : T l hd κ μ Q cs sl pc loc (.int k9 :: .int n :: st) M := by
  subst hp; subst hn; subst hk9
  intro p e s m args below meth c H locs ls D tc B E hK hP hS hZ hL
  have hts := E.2.2.2.2.2.1
  have hZ0 := hZ
  unfold qZ at hZ0
  rw [if_pos hal] at hZ0
  have hN31 : N < 2 ^ 31 := Nat.lt_trans hN (by decide)
  have hK31 : K < 2 ^ 31 := Nat.lt_trans hK9 (by decide)
  intro U hU Xs
  subst hU
  have hb : c.code = μ.1 := E.2.1
  obtain ⟨vm₁, cA, comp, -, fA, fC, hO, -, X', step⟩ := Xs.multianewarray2F (ty := .int) E.1 E.2.2.2.2.1 (hts _ h1) (show (Cond.arrayOver (.array .int)).before args s = true from (E.2.2.2.2.2.2.2.1 hal).2.2.1) (hts _ h3) (g := F0 m pc ls ((.int (nI K) :: .int (nI N) :: st).map (qV B))) rfl (by rw [hb]; exact d) rfl (nI_pos hN31) (nI_pos hK31) (by rw [nI_clamp hN31]; omega) (by rw [nI_clamp hK31]; show K * 4 ≤ _; omega) (by rw [nI_clamp hK31]; omega) rfl rfl (by rw [nI_clamp hN31]; exact hcells) (by rw [nI_clamp hN31, nI_clamp hK31]; exact hslots)
  rw [nI_clamp hN31, nI_clamp hK31] at X' step
  have ec : tc 0 = comp := by
    have h9 : va_RA s (tc 0) .int := (hK.2 0 _ rfl).2
    have h8 : s.vm.findClass ("[" ++ (FieldType.int).toString) = some (tc 0) := h9
    exact Option.some.inj (h8.symm.trans fC)
  have ea : cA = tc 5 := by
    have h9 : va_RA s (tc 5) (.array .int) := (hK.2 5 _ rfl).2
    have h8 : s.vm.findClass ("[" ++ (FieldType.array .int).toString) = some (tc 5) := h9
    exact Option.some.inj (fA.symm.trans h8)
  subst ec; subst ea
  generalize hF : Jvm.Free.Multi.fill (U.setVm vm₁) (tc 5) (tc 0) N K (defaultValue .int) N = F at X' step
  obtain ⟨f1, f2, -, -⟩ := Jvm.Free.Multi.fill_facts (U.setVm vm₁) (tc 5) (tc 0) N K (defaultValue .int) N
  rw [hF] at f1 f2
  have hold : ∀ x : Nat, x < U.heap.size → F.heap[x]? = U.heap[x]? := fun x hx => by
    have := Jvm.Free.Multi.fill_old (U.setVm vm₁) (tc 5) (tc 0) N K (defaultValue .int) (a := x) hx N
    rw [hF] at this
    exact this
  have hrow : ∀ j : Nat, j < N → F.heap[U.heap.size + 1 + j]? = some (vp_cell (tc 0) (K, .inl (fun _ => 0))) := fun j hj => by
    have := Jvm.Free.Multi.fill_inner (U.setVm vm₁) (tc 5) (tc 0) N K (defaultValue .int) N j hj
    rw [hF] at this
    rw [show U.heap.size + 1 + j = (U.setVm vm₁).heap.size + 1 + j from rfl, this]
    congr 1
    show ({ cls := tc 0, slots := Array.replicate K (.int 0), vm := .none } : Cell) = _
    rw [arrV_new, vp_cell_i]
  have hout : F.heap[U.heap.size]? = some (vp_cell (tc 5) (N, .inr (.inr (.inr (.inr (fun i => if i < N then some (U.heap.size + 1 + i) else none)))))) := by
    rw [show U.heap.size = (U.setVm vm₁).heap.size from rfl, f2, vr_outer, vp_cell_q]
  have hz1 : F.heap.size = U.heap.size + 1 + N := f1
  have e9 : B + (κ.1 + cs) = U.heap.size := by omega
  have hP1 : va_P D vwCl (qW hd tc B (κ.1 + (cs + 1 + N)) (M.1, M.2.1, fun b j => if b = κ.1 + cs then (if j < N then some (κ.1 + cs + 1 + j) else none) else M.2.2 b j)) F.heap := by
    intro k8 q hk8
    obtain ⟨g1, rfl⟩ := qW_inv hk8
    by_cases h : k8 < κ.1 + cs
    · have hco : (fun b j => if b = κ.1 + cs then (if j < N then some (κ.1 + cs + 1 + j) else none) else M.2.2 b j) k8 = M.2.2 k8 := by
        funext j
        show (if k8 = κ.1 + cs then _ else M.2.2 k8 j) = M.2.2 k8 j
        exact if_neg (by omega)
      have hqe : qE tc B hd (M.1, M.2.1, fun b j => if b = κ.1 + cs then (if j < N then some (κ.1 + cs + 1 + j) else none) else M.2.2 b j) k8 = qE tc B hd M k8 := qE_congr rfl rfl hco
      rw [hqe]
      exact (hP k8 _ (qW_get h)).kept (hold _ ((hP k8 _ (qW_get h)).lt))
    · by_cases h9 : k8 = κ.1 + cs
      · subst h9
        simp only [qE, hh]
        show F.heap[B + (κ.1 + cs)]? = some (vp_cell _ _)
        rw [e9, hout]
        congr 2
        simp only [qAr]
        rw [if_neg (by decide), if_neg (by decide)]
        congr 5
        funext i
        simp only [if_true]
        by_cases hi : i < N
        · simp only [hi, if_true, Option.map_some]; congr 1; omega
        · simp only [hi, if_false, Option.map_none]
      · obtain ⟨j, hj, rfl⟩ : ∃ j, j < N ∧ k8 = κ.1 + cs + 1 + j := ⟨k8 - (κ.1 + cs + 1), by omega, by omega⟩
        simp only [qE, hhi j hj]
        show F.heap[B + (κ.1 + cs + 1 + j)]? = some (vp_cell _ _)
        rw [show B + (κ.1 + cs + 1 + j) = U.heap.size + 1 + j by omega, hrow j hj]
        simp only [qAr]
        rw [if_neg (by decide), if_pos (by decide), hM j hj]
        show some (vp_cell (tc 0) (K, .inl fun _ => 0)) = some (vp_cell (tc 0) (K, .inl fun _ => nI 0))
        rw [nI_0]
  have w3 : qZ κ B (cs + 1 + N) s.heap.size F.heap.size := by
    unfold qZ
    rw [if_pos hal]
    exact ⟨hZ0.1, by omega⟩
  have w4 := k p e s m args below meth c F.heap locs ls D tc B E hK hP1 (qS_app hS (by omega) hold) w3 hL F rfl X'
  obtain ⟨t, a1, b1⟩ := w4
  refine ⟨t, step t ?_, b1⟩
  have e8 : (Value.ref (κ.1 + cs) :: st).map (qV B) = .ref U.heap.size :: st.map (qV B) := by
    show Value.ref (B + (κ.1 + cs)) :: _ = _
    rw [e9]
  rw [e8] at a1
  exact a1
end QRows
