section SHS
variable {G : sh_G} {M : sh_M} {kc ks pc : Nat} {w : List sh_C} {lv : List (Option Value)} {st : List Value} {Q : Option Value → List sh_C → Prop}
theorem e_iconst {n : Int} {v : Int32} (d : decode M.2.2.1 pc = .ok (.iconst n, 1)) (hv : Int32.ofInt n = v) (k : Ev G M kc ks w (pc + 1) lv (.int v :: st) Q) : Ev G M kc ks w pc lv (st) Q := by
  intro p e R s m args below meth c H locs cells slots ls Qf cx sx hS ht hl h1 h2 fin
  exact lv_iconst cx.1 cx.2.1 d hv (k p e R s m args below meth c H locs cells slots ls Qf cx sx hS ht hl h1 h2 fin)
theorem e_bipush {n : Int} {v : Int32} (d : decode M.2.2.1 pc = .ok (.bipush n, 2)) (hv : (Int8.ofInt n).toInt32 = v) (k : Ev G M kc ks w (pc + 2) lv (.int v :: st) Q) : Ev G M kc ks w pc lv (st) Q := by
  intro p e R s m args below meth c H locs cells slots ls Qf cx sx hS ht hl h1 h2 fin
  exact lv_bipush cx.1 cx.2.1 d hv (k p e R s m args below meth c H locs cells slots ls Qf cx sx hS ht hl h1 h2 fin)
theorem e_sipush {n : Int} {v : Int32} (d : decode M.2.2.1 pc = .ok (.sipush n, 3)) (hv : (Int16.ofInt n).toInt32 = v) (k : Ev G M kc ks w (pc + 3) lv (.int v :: st) Q) : Ev G M kc ks w pc lv (st) Q := by
  intro p e R s m args below meth c H locs cells slots ls Qf cx sx hS ht hl h1 h2 fin
  exact lv_sipush cx.1 cx.2.1 d hv (k p e R s m args below meth c H locs cells slots ls Qf cx sx hS ht hl h1 h2 fin)
theorem e_lconst {n : Fin 2} {v : Int64} (d : decode M.2.2.1 pc = .ok (.lconst n, 1)) (hv : Int64.ofNat (n : Nat) = v) (k : Ev G M kc ks w (pc + 1) lv (.long v :: st) Q) : Ev G M kc ks w pc lv (st) Q := by
  intro p e R s m args below meth c H locs cells slots ls Qf cx sx hS ht hl h1 h2 fin
  exact lv_lconst cx.1 cx.2.1 d hv (k p e R s m args below meth c H locs cells slots ls Qf cx sx hS ht hl h1 h2 fin)
theorem e_iadd {x y : Int32} (d : decode M.2.2.1 pc = .ok (.iadd, 1)) (k : Ev G M kc ks w (pc + 1) lv (.int (x + y) :: st) Q) : Ev G M kc ks w pc lv (.int y :: .int x :: st) Q := by
  intro p e R s m args below meth c H locs cells slots ls Qf cx sx hS ht hl h1 h2 fin
  exact lv_iadd cx.1 cx.2.1 d (k p e R s m args below meth c H locs cells slots ls Qf cx sx hS ht hl h1 h2 fin)
theorem e_isub {x y : Int32} (d : decode M.2.2.1 pc = .ok (.isub, 1)) (k : Ev G M kc ks w (pc + 1) lv (.int (x - y) :: st) Q) : Ev G M kc ks w pc lv (.int y :: .int x :: st) Q := by
  intro p e R s m args below meth c H locs cells slots ls Qf cx sx hS ht hl h1 h2 fin
  exact lv_isub cx.1 cx.2.1 d (k p e R s m args below meth c H locs cells slots ls Qf cx sx hS ht hl h1 h2 fin)
theorem e_imul {x y : Int32} (d : decode M.2.2.1 pc = .ok (.imul, 1)) (k : Ev G M kc ks w (pc + 1) lv (.int (x * y) :: st) Q) : Ev G M kc ks w pc lv (.int y :: .int x :: st) Q := by
  intro p e R s m args below meth c H locs cells slots ls Qf cx sx hS ht hl h1 h2 fin
  exact lv_imul cx.1 cx.2.1 d (k p e R s m args below meth c H locs cells slots ls Qf cx sx hS ht hl h1 h2 fin)
theorem e_iand {x y : Int32} (d : decode M.2.2.1 pc = .ok (.iand, 1)) (k : Ev G M kc ks w (pc + 1) lv (.int (x &&& y) :: st) Q) : Ev G M kc ks w pc lv (.int y :: .int x :: st) Q := by
  intro p e R s m args below meth c H locs cells slots ls Qf cx sx hS ht hl h1 h2 fin
  exact lv_iand cx.1 cx.2.1 d (k p e R s m args below meth c H locs cells slots ls Qf cx sx hS ht hl h1 h2 fin)
theorem e_ior {x y : Int32} (d : decode M.2.2.1 pc = .ok (.ior, 1)) (k : Ev G M kc ks w (pc + 1) lv (.int (x ||| y) :: st) Q) : Ev G M kc ks w pc lv (.int y :: .int x :: st) Q := by
  intro p e R s m args below meth c H locs cells slots ls Qf cx sx hS ht hl h1 h2 fin
  exact lv_ior cx.1 cx.2.1 d (k p e R s m args below meth c H locs cells slots ls Qf cx sx hS ht hl h1 h2 fin)
theorem e_ixor {x y : Int32} (d : decode M.2.2.1 pc = .ok (.ixor, 1)) (k : Ev G M kc ks w (pc + 1) lv (.int (x ^^^ y) :: st) Q) : Ev G M kc ks w pc lv (.int y :: .int x :: st) Q := by
  intro p e R s m args below meth c H locs cells slots ls Qf cx sx hS ht hl h1 h2 fin
  exact lv_ixor cx.1 cx.2.1 d (k p e R s m args below meth c H locs cells slots ls Qf cx sx hS ht hl h1 h2 fin)
theorem e_ishl {x y : Int32} (d : decode M.2.2.1 pc = .ok (.ishl, 1)) (k : Ev G M kc ks w (pc + 1) lv (.int (x <<< (y &&& 31)) :: st) Q) : Ev G M kc ks w pc lv (.int y :: .int x :: st) Q := by
  intro p e R s m args below meth c H locs cells slots ls Qf cx sx hS ht hl h1 h2 fin
  exact lv_ishl cx.1 cx.2.1 d (k p e R s m args below meth c H locs cells slots ls Qf cx sx hS ht hl h1 h2 fin)
theorem e_ishr {x y : Int32} (d : decode M.2.2.1 pc = .ok (.ishr, 1)) (k : Ev G M kc ks w (pc + 1) lv (.int (x >>> (y &&& 31)) :: st) Q) : Ev G M kc ks w pc lv (.int y :: .int x :: st) Q := by
  intro p e R s m args below meth c H locs cells slots ls Qf cx sx hS ht hl h1 h2 fin
  exact lv_ishr cx.1 cx.2.1 d (k p e R s m args below meth c H locs cells slots ls Qf cx sx hS ht hl h1 h2 fin)
theorem e_iushr {x y : Int32} (d : decode M.2.2.1 pc = .ok (.iushr, 1)) (k : Ev G M kc ks w (pc + 1) lv (.int ((x.toUInt32 >>> (y.toUInt32 &&& Int32.toUInt32 31)).toInt32) :: st) Q) : Ev G M kc ks w pc lv (.int y :: .int x :: st) Q := by
  intro p e R s m args below meth c H locs cells slots ls Qf cx sx hS ht hl h1 h2 fin
  exact lv_iushr cx.1 cx.2.1 d rfl (k p e R s m args below meth c H locs cells slots ls Qf cx sx hS ht hl h1 h2 fin)
theorem e_idiv {x y : Int32} (d : decode M.2.2.1 pc = .ok (.idiv, 1)) (hne : ¬ y = 0) (k : Ev G M kc ks w (pc + 1) lv (.int (x / y) :: st) Q) : Ev G M kc ks w pc lv (.int y :: .int x :: st) Q := by
  intro p e R s m args below meth c H locs cells slots ls Qf cx sx hS ht hl h1 h2 fin
  exact lv_idiv cx.1 cx.2.1 d hne (k p e R s m args below meth c H locs cells slots ls Qf cx sx hS ht hl h1 h2 fin)
theorem e_irem {x y : Int32} (d : decode M.2.2.1 pc = .ok (.irem, 1)) (hne : ¬ y = 0) (k : Ev G M kc ks w (pc + 1) lv (.int (x - x / y * y) :: st) Q) : Ev G M kc ks w pc lv (.int y :: .int x :: st) Q := by
  intro p e R s m args below meth c H locs cells slots ls Qf cx sx hS ht hl h1 h2 fin
  exact lv_irem cx.1 cx.2.1 d hne (k p e R s m args below meth c H locs cells slots ls Qf cx sx hS ht hl h1 h2 fin)
theorem e_ineg {x : Int32} (d : decode M.2.2.1 pc = .ok (.ineg, 1)) (k : Ev G M kc ks w (pc + 1) lv (.int (-x) :: st) Q) : Ev G M kc ks w pc lv (.int x :: st) Q := by
  intro p e R s m args below meth c H locs cells slots ls Qf cx sx hS ht hl h1 h2 fin
  exact lv_ineg cx.1 cx.2.1 d (k p e R s m args below meth c H locs cells slots ls Qf cx sx hS ht hl h1 h2 fin)
theorem e_ladd {x y : Int64} (d : decode M.2.2.1 pc = .ok (.ladd, 1)) (k : Ev G M kc ks w (pc + 1) lv (.long (x + y) :: st) Q) : Ev G M kc ks w pc lv (.long y :: .long x :: st) Q := by
  intro p e R s m args below meth c H locs cells slots ls Qf cx sx hS ht hl h1 h2 fin
  exact lv_ladd cx.1 cx.2.1 d (k p e R s m args below meth c H locs cells slots ls Qf cx sx hS ht hl h1 h2 fin)
theorem e_lsub {x y : Int64} (d : decode M.2.2.1 pc = .ok (.lsub, 1)) (k : Ev G M kc ks w (pc + 1) lv (.long (x - y) :: st) Q) : Ev G M kc ks w pc lv (.long y :: .long x :: st) Q := by
  intro p e R s m args below meth c H locs cells slots ls Qf cx sx hS ht hl h1 h2 fin
  exact lv_lsub cx.1 cx.2.1 d (k p e R s m args below meth c H locs cells slots ls Qf cx sx hS ht hl h1 h2 fin)
theorem e_land {x y : Int64} (d : decode M.2.2.1 pc = .ok (.land, 1)) (k : Ev G M kc ks w (pc + 1) lv (.long (x &&& y) :: st) Q) : Ev G M kc ks w pc lv (.long y :: .long x :: st) Q := by
  intro p e R s m args below meth c H locs cells slots ls Qf cx sx hS ht hl h1 h2 fin
  exact lv_land cx.1 cx.2.1 d (k p e R s m args below meth c H locs cells slots ls Qf cx sx hS ht hl h1 h2 fin)
theorem e_lor {x y : Int64} (d : decode M.2.2.1 pc = .ok (.lor, 1)) (k : Ev G M kc ks w (pc + 1) lv (.long (x ||| y) :: st) Q) : Ev G M kc ks w pc lv (.long y :: .long x :: st) Q := by
  intro p e R s m args below meth c H locs cells slots ls Qf cx sx hS ht hl h1 h2 fin
  exact lv_lor cx.1 cx.2.1 d (k p e R s m args below meth c H locs cells slots ls Qf cx sx hS ht hl h1 h2 fin)
theorem e_lshl {x : Int64} {y : Int32} (d : decode M.2.2.1 pc = .ok (.lshl, 1)) (k : Ev G M kc ks w (pc + 1) lv (.long (x <<< (y.toInt64 &&& 63)) :: st) Q) : Ev G M kc ks w pc lv (.int y :: .long x :: st) Q := by
  intro p e R s m args below meth c H locs cells slots ls Qf cx sx hS ht hl h1 h2 fin
  exact lv_lshl cx.1 cx.2.1 d rfl (k p e R s m args below meth c H locs cells slots ls Qf cx sx hS ht hl h1 h2 fin)
theorem e_lcmp {x y : Int64} (d : decode M.2.2.1 pc = .ok (.lcmp, 1)) (k : Ev G M kc ks w (pc + 1) lv (.int (lg_cmp x y) :: st) Q) : Ev G M kc ks w pc lv (.long y :: .long x :: st) Q := by
  intro p e R s m args below meth c H locs cells slots ls Qf cx sx hS ht hl h1 h2 fin
  exact W.lcmp cx.1 cx.2.1 d (k p e R s m args below meth c H locs cells slots ls Qf cx sx hS ht hl h1 h2 fin)
theorem e_i2l {x : Int32} (d : decode M.2.2.1 pc = .ok (.i2l, 1)) (k : Ev G M kc ks w (pc + 1) lv (.long x.toInt64 :: st) Q) : Ev G M kc ks w pc lv (.int x :: st) Q := by
  intro p e R s m args below meth c H locs cells slots ls Qf cx sx hS ht hl h1 h2 fin
  exact lv_i2l cx.1 cx.2.1 d rfl (k p e R s m args below meth c H locs cells slots ls Qf cx sx hS ht hl h1 h2 fin)
theorem e_i2b {x : Int32} (d : decode M.2.2.1 pc = .ok (.i2b, 1)) (k : Ev G M kc ks w (pc + 1) lv (.int x.toInt8.toInt32 :: st) Q) : Ev G M kc ks w pc lv (.int x :: st) Q := by
  intro p e R s m args below meth c H locs cells slots ls Qf cx sx hS ht hl h1 h2 fin
  exact lv_i2b cx.1 cx.2.1 d rfl (k p e R s m args below meth c H locs cells slots ls Qf cx sx hS ht hl h1 h2 fin)
theorem e_i2s {x : Int32} (d : decode M.2.2.1 pc = .ok (.i2s, 1)) (k : Ev G M kc ks w (pc + 1) lv (.int x.toInt16.toInt32 :: st) Q) : Ev G M kc ks w pc lv (.int x :: st) Q := by
  intro p e R s m args below meth c H locs cells slots ls Qf cx sx hS ht hl h1 h2 fin
  exact lv_i2s cx.1 cx.2.1 d rfl (k p e R s m args below meth c H locs cells slots ls Qf cx sx hS ht hl h1 h2 fin)
theorem e_dup {v : Value} (d : decode M.2.2.1 pc = .ok (.dup, 1)) (hc : v.category = 1) (k : Ev G M kc ks w (pc + 1) lv (v :: v :: st) Q) : Ev G M kc ks w pc lv (v :: st) Q := by
  intro p e R s m args below meth c H locs cells slots ls Qf cx sx hS ht hl h1 h2 fin
  exact lv_dup cx.1 cx.2.1 d (by rw [sh_cat]; exact hc) (k p e R s m args below meth c H locs cells slots ls Qf cx sx hS ht hl h1 h2 fin)
theorem e_dup_x1 {a b : Value} (d : decode M.2.2.1 pc = .ok (.dup_x1, 1)) (ha : a.category = 1) (hb : b.category = 1) (k : Ev G M kc ks w (pc + 1) lv (a :: b :: a :: st) Q) : Ev G M kc ks w pc lv (a :: b :: st) Q := by
  intro p e R s m args below meth c H locs cells slots ls Qf cx sx hS ht hl h1 h2 fin
  exact lv_dup_x1 cx.1 cx.2.1 d (by rw [sh_cat]; exact ha) (by rw [sh_cat]; exact hb) (k p e R s m args below meth c H locs cells slots ls Qf cx sx hS ht hl h1 h2 fin)
theorem e_dup2 {a b : Value} (d : decode M.2.2.1 pc = .ok (.dup2, 1)) (ha : a.category = 1) (hb : b.category = 1) (k : Ev G M kc ks w (pc + 1) lv (a :: b :: a :: b :: st) Q) : Ev G M kc ks w pc lv (a :: b :: st) Q := by
  intro p e R s m args below meth c H locs cells slots ls Qf cx sx hS ht hl h1 h2 fin
  exact lv_dup2_11 cx.1 cx.2.1 d (by rw [sh_cat]; exact ha) (by rw [sh_cat]; exact hb) (k p e R s m args below meth c H locs cells slots ls Qf cx sx hS ht hl h1 h2 fin)
theorem e_ldcw {i : Nat} {v : Int32} (d : decode M.2.2.1 pc = .ok (.ldc_w i, 3)) (hk : Cond.constant M.1 i v ∈ lw_tbl) (k : Ev G M kc ks w (pc + 3) lv (.int v :: st) Q) : Ev G M kc ks w pc lv st Q := by
  intro p e R s m args below meth c H locs cells slots ls Qf cx sx hS ht hl h1 h2 fin
  exact lv_ldcw cx.1 cx.2.1 cx.2.2.2.1 (cx.2.2.2.2.1 _ (lw_g_of hk rfl)) d (k p e R s m args below meth c H locs cells slots ls Qf cx sx hS ht hl h1 h2 fin)
theorem e_ldc2 {i : Nat} {v : Int64} (d : decode M.2.2.1 pc = .ok (.ldc2_w i, 3)) (hk : Cond.constantLong M.1 i v ∈ lw_tbl) (k : Ev G M kc ks w (pc + 3) lv (.long v :: st) Q) : Ev G M kc ks w pc lv st Q := by
  intro p e R s m args below meth c H locs cells slots ls Qf cx sx hS ht hl h1 h2 fin
  exact lv_ldc2 cx.1 cx.2.1 cx.2.2.2.1 (cx.2.2.2.2.1 _ (lw_g_of hk rfl)) d (k p e R s m args below meth c H locs cells slots ls Qf cx sx hS ht hl h1 h2 fin)
theorem e_iload_n {j : Fin 4} {x : Int32} (i : Nat) (d : decode M.2.2.1 pc = .ok (.iload_n j, 1)) (hj : (j : Nat) = i) (h : lv[i]? = some (some (.int x))) (k : Ev G M kc ks w (pc + 1) lv (.int x :: st) Q) : Ev G M kc ks w pc lv st Q := by
  intro p e R s m args below meth c H locs cells slots ls Qf cx sx hS ht hl h1 h2 fin
  exact lv_iload_n cx.1 cx.2.1 d hj (hl.2.2.2 _ _ h) (k p e R s m args below meth c H locs cells slots ls Qf cx sx hS ht hl h1 h2 fin)
theorem e_iload {i : Nat} {x : Int32} (d : decode M.2.2.1 pc = .ok (.iload i, 2)) (h : lv[i]? = some (some (.int x))) (k : Ev G M kc ks w (pc + 2) lv (.int x :: st) Q) : Ev G M kc ks w pc lv st Q := by
  intro p e R s m args below meth c H locs cells slots ls Qf cx sx hS ht hl h1 h2 fin
  exact lv_iload cx.1 cx.2.1 d (hl.2.2.2 _ _ h) (k p e R s m args below meth c H locs cells slots ls Qf cx sx hS ht hl h1 h2 fin)
theorem e_lload_n {j : Fin 4} {x : Int64} (i : Nat) (d : decode M.2.2.1 pc = .ok (.lload_n j, 1)) (hj : (j : Nat) = i) (h : lv[i]? = some (some (.long x))) (k : Ev G M kc ks w (pc + 1) lv (.long x :: st) Q) : Ev G M kc ks w pc lv st Q := by
  intro p e R s m args below meth c H locs cells slots ls Qf cx sx hS ht hl h1 h2 fin
  exact lv_lload_n cx.1 cx.2.1 d hj (hl.2.2.2 _ _ h) (k p e R s m args below meth c H locs cells slots ls Qf cx sx hS ht hl h1 h2 fin)
theorem e_lload {i : Nat} {x : Int64} (d : decode M.2.2.1 pc = .ok (.lload i, 2)) (h : lv[i]? = some (some (.long x))) (k : Ev G M kc ks w (pc + 2) lv (.long x :: st) Q) : Ev G M kc ks w pc lv st Q := by
  intro p e R s m args below meth c H locs cells slots ls Qf cx sx hS ht hl h1 h2 fin
  exact lv_lload cx.1 cx.2.1 d (hl.2.2.2 _ _ h) (k p e R s m args below meth c H locs cells slots ls Qf cx sx hS ht hl h1 h2 fin)
theorem e_aload_n {j : Fin 4} {x : Nat} (i : Nat) (d : decode M.2.2.1 pc = .ok (.aload_n j, 1)) (hj : (j : Nat) = i) (h : lv[i]? = some (some (.ref x))) (k : Ev G M kc ks w (pc + 1) lv (.ref x :: st) Q) : Ev G M kc ks w pc lv st Q := by
  intro p e R s m args below meth c H locs cells slots ls Qf cx sx hS ht hl h1 h2 fin
  exact lv_aload_n cx.1 cx.2.1 d hj (hl.2.2.2 _ _ h) (k p e R s m args below meth c H locs cells slots ls Qf cx sx hS ht hl h1 h2 fin)
theorem e_aload {i : Nat} {x : Nat} (d : decode M.2.2.1 pc = .ok (.aload i, 2)) (h : lv[i]? = some (some (.ref x))) (k : Ev G M kc ks w (pc + 2) lv (.ref x :: st) Q) : Ev G M kc ks w pc lv st Q := by
  intro p e R s m args below meth c H locs cells slots ls Qf cx sx hS ht hl h1 h2 fin
  exact lv_aload cx.1 cx.2.1 d (hl.2.2.2 _ _ h) (k p e R s m args below meth c H locs cells slots ls Qf cx sx hS ht hl h1 h2 fin)
theorem e_istore_n {j : Fin 4} {x : Int32} {lv' : List (Option Value)} (i : Nat) (d : decode M.2.2.1 pc = .ok (.istore_n j, 1)) (hj : (j : Nat) = i) (hi : i < lv.length) (hp : sh_np lv i = true) (he : lv.set i (some (.int x)) = lv') (k : Ev G M kc ks w (pc + 1) lv' st Q) : Ev G M kc ks w pc lv (.int x :: st) Q := by
  subst he
  intro p e R s m args below meth c H locs cells slots ls Qf cx sx hS ht hl h1 h2 fin
  exact lv_istore_n cx.1 cx.2.1 d hj hl.has (Nat.lt_of_lt_of_le hi hl.2.2.1) rfl (fun ls2 hl2 => k p e R s m args below meth c H locs cells slots ls2 Qf cx sx hS ht (sh_lo_set1 hl hi hp hl2) h1 h2 fin)
theorem e_istore {i : Nat} {x : Int32} {lv' : List (Option Value)} (d : decode M.2.2.1 pc = .ok (.istore i, 2)) (hi : i < lv.length) (hp : sh_np lv i = true) (he : lv.set i (some (.int x)) = lv') (k : Ev G M kc ks w (pc + 2) lv' st Q) : Ev G M kc ks w pc lv (.int x :: st) Q := by
  subst he
  intro p e R s m args below meth c H locs cells slots ls Qf cx sx hS ht hl h1 h2 fin
  exact lv_istore cx.1 cx.2.1 d hl.has (Nat.lt_of_lt_of_le hi hl.2.2.1) rfl (fun ls2 hl2 => k p e R s m args below meth c H locs cells slots ls2 Qf cx sx hS ht (sh_lo_set1 hl hi hp hl2) h1 h2 fin)
theorem e_astore_n {j : Fin 4} {x : Nat} {lv' : List (Option Value)} (i : Nat) (d : decode M.2.2.1 pc = .ok (.astore_n j, 1)) (hj : (j : Nat) = i) (hi : i < lv.length) (hp : sh_np lv i = true) (he : lv.set i (some (.ref x)) = lv') (k : Ev G M kc ks w (pc + 1) lv' st Q) : Ev G M kc ks w pc lv (.ref x :: st) Q := by
  subst he
  intro p e R s m args below meth c H locs cells slots ls Qf cx sx hS ht hl h1 h2 fin
  exact lv_astore_n cx.1 cx.2.1 d hj hl.has (Nat.lt_of_lt_of_le hi hl.2.2.1) rfl (fun ls2 hl2 => k p e R s m args below meth c H locs cells slots ls2 Qf cx sx hS ht (sh_lo_set1 hl hi hp hl2) h1 h2 fin)
theorem e_astore {i : Nat} {x : Nat} {lv' : List (Option Value)} (d : decode M.2.2.1 pc = .ok (.astore i, 2)) (hi : i < lv.length) (hp : sh_np lv i = true) (he : lv.set i (some (.ref x)) = lv') (k : Ev G M kc ks w (pc + 2) lv' st Q) : Ev G M kc ks w pc lv (.ref x :: st) Q := by
  subst he
  intro p e R s m args below meth c H locs cells slots ls Qf cx sx hS ht hl h1 h2 fin
  exact lv_astore cx.1 cx.2.1 d hl.has (Nat.lt_of_lt_of_le hi hl.2.2.1) rfl (fun ls2 hl2 => k p e R s m args below meth c H locs cells slots ls2 Qf cx sx hS ht (sh_lo_set1 hl hi hp hl2) h1 h2 fin)
theorem e_lstore {i : Nat} {x : Int64} {lv' : List (Option Value)} (d : decode M.2.2.1 pc = .ok (.lstore i, 2)) (hi : i + 1 < lv.length) (hp : sh_np lv i = true) (he : (lv.set i (some (.long x))).set (i + 1) none = lv') (k : Ev G M kc ks w (pc + 2) lv' st Q) : Ev G M kc ks w pc lv (.long x :: st) Q := by
  subst he
  intro p e R s m args below meth c H locs cells slots ls Qf cx sx hS ht hl h1 h2 fin
  exact lv_lstore cx.1 cx.2.1 d hl.has (Nat.lt_of_lt_of_le hi hl.2.2.1) rfl (fun ls2 hl2 => k p e R s m args below meth c H locs cells slots ls2 Qf cx sx hS ht (sh_lo_set2 hl (Nat.lt_of_succ_lt hi) hp hl2) h1 h2 fin)
theorem e_iinc {i : Nat} {n : Int} {x v : Int32} {lv' : List (Option Value)} (d : decode M.2.2.1 pc = .ok (.iinc i n, 3)) (h : lv[i]? = some (some (.int x))) (hi : i < lv.length) (hp : sh_np lv i = true) (hv : x + Int32.ofInt n = v) (he : lv.set i (some (.int v)) = lv') (k : Ev G M kc ks w (pc + 3) lv' st Q) : Ev G M kc ks w pc lv st Q := by
  subst he
  intro p e R s m args below meth c H locs cells slots ls Qf cx sx hS ht hl h1 h2 fin
  obtain ⟨j, hj⟩ := List.getElem?_of_mem (sh_al_mem (G := G) h)
  exact lv_iinc cx.1 cx.2.1 d hl.has hj hv (Nat.lt_of_lt_of_le hi hl.2.2.1) rfl (fun ls2 hl2 => k p e R s m args below meth c H locs cells slots ls2 Qf cx sx hS ht (sh_lo_set1 hl hi hp hl2) h1 h2 fin)
theorem e_if_eq {x : Int32} {off : Int} {tgt : Nat} (d : decode M.2.2.1 pc = .ok (.ifCond .eq off, 3)) (htg : (pc : Int) + off = (tgt : Int)) (kt : x = 0 → Ev G M kc ks w tgt lv st Q) (kf : ¬ x = 0 → Ev G M kc ks w (pc + 3) lv st Q) : Ev G M kc ks w pc lv (.int x :: st) Q := by
  intro p e R s m args below meth c H locs cells slots ls Qf cx sx hS ht hl h1 h2 fin
  exact lv_if_eq cx.1 cx.2.1 d htg (fun h => kt h p e R s m args below meth c H locs cells slots ls Qf cx sx hS ht hl h1 h2 fin) (fun h => kf h p e R s m args below meth c H locs cells slots ls Qf cx sx hS ht hl h1 h2 fin)
theorem e_icmp_eq {x y : Int32} {off : Int} {tgt : Nat} (d : decode M.2.2.1 pc = .ok (.if_icmp .eq off, 3)) (htg : (pc : Int) + off = (tgt : Int)) (kt : x = y → Ev G M kc ks w tgt lv st Q) (kf : ¬ x = y → Ev G M kc ks w (pc + 3) lv st Q) : Ev G M kc ks w pc lv (.int y :: .int x :: st) Q := by
  intro p e R s m args below meth c H locs cells slots ls Qf cx sx hS ht hl h1 h2 fin
  exact lv_icmp_eq cx.1 cx.2.1 d htg (fun h => kt h p e R s m args below meth c H locs cells slots ls Qf cx sx hS ht hl h1 h2 fin) (fun h => kf h p e R s m args below meth c H locs cells slots ls Qf cx sx hS ht hl h1 h2 fin)
theorem e_if_ne {x : Int32} {off : Int} {tgt : Nat} (d : decode M.2.2.1 pc = .ok (.ifCond .ne off, 3)) (htg : (pc : Int) + off = (tgt : Int)) (kt : x ≠ 0 → Ev G M kc ks w tgt lv st Q) (kf : x = 0 → Ev G M kc ks w (pc + 3) lv st Q) : Ev G M kc ks w pc lv (.int x :: st) Q := by
  intro p e R s m args below meth c H locs cells slots ls Qf cx sx hS ht hl h1 h2 fin
  exact lv_if_ne cx.1 cx.2.1 d htg (fun h => kt h p e R s m args below meth c H locs cells slots ls Qf cx sx hS ht hl h1 h2 fin) (fun h => kf h p e R s m args below meth c H locs cells slots ls Qf cx sx hS ht hl h1 h2 fin)
theorem e_icmp_ne {x y : Int32} {off : Int} {tgt : Nat} (d : decode M.2.2.1 pc = .ok (.if_icmp .ne off, 3)) (htg : (pc : Int) + off = (tgt : Int)) (kt : x ≠ y → Ev G M kc ks w tgt lv st Q) (kf : x = y → Ev G M kc ks w (pc + 3) lv st Q) : Ev G M kc ks w pc lv (.int y :: .int x :: st) Q := by
  intro p e R s m args below meth c H locs cells slots ls Qf cx sx hS ht hl h1 h2 fin
  exact lv_icmp_ne cx.1 cx.2.1 d htg (fun h => kt h p e R s m args below meth c H locs cells slots ls Qf cx sx hS ht hl h1 h2 fin) (fun h => kf h p e R s m args below meth c H locs cells slots ls Qf cx sx hS ht hl h1 h2 fin)
theorem e_if_lt {x : Int32} {off : Int} {tgt : Nat} (d : decode M.2.2.1 pc = .ok (.ifCond .lt off, 3)) (htg : (pc : Int) + off = (tgt : Int)) (kt : x < 0 → Ev G M kc ks w tgt lv st Q) (kf : ¬ x < 0 → Ev G M kc ks w (pc + 3) lv st Q) : Ev G M kc ks w pc lv (.int x :: st) Q := by
  intro p e R s m args below meth c H locs cells slots ls Qf cx sx hS ht hl h1 h2 fin
  exact lv_if_lt cx.1 cx.2.1 d htg (fun h => kt h p e R s m args below meth c H locs cells slots ls Qf cx sx hS ht hl h1 h2 fin) (fun h => kf h p e R s m args below meth c H locs cells slots ls Qf cx sx hS ht hl h1 h2 fin)
theorem e_icmp_lt {x y : Int32} {off : Int} {tgt : Nat} (d : decode M.2.2.1 pc = .ok (.if_icmp .lt off, 3)) (htg : (pc : Int) + off = (tgt : Int)) (kt : x < y → Ev G M kc ks w tgt lv st Q) (kf : ¬ x < y → Ev G M kc ks w (pc + 3) lv st Q) : Ev G M kc ks w pc lv (.int y :: .int x :: st) Q := by
  intro p e R s m args below meth c H locs cells slots ls Qf cx sx hS ht hl h1 h2 fin
  exact lv_icmp_lt cx.1 cx.2.1 d htg (fun h => kt h p e R s m args below meth c H locs cells slots ls Qf cx sx hS ht hl h1 h2 fin) (fun h => kf h p e R s m args below meth c H locs cells slots ls Qf cx sx hS ht hl h1 h2 fin)
theorem e_if_ge {x : Int32} {off : Int} {tgt : Nat} (d : decode M.2.2.1 pc = .ok (.ifCond .ge off, 3)) (htg : (pc : Int) + off = (tgt : Int)) (kt : 0 ≤ x → Ev G M kc ks w tgt lv st Q) (kf : ¬ 0 ≤ x → Ev G M kc ks w (pc + 3) lv st Q) : Ev G M kc ks w pc lv (.int x :: st) Q := by
  intro p e R s m args below meth c H locs cells slots ls Qf cx sx hS ht hl h1 h2 fin
  exact lv_if_ge cx.1 cx.2.1 d htg (fun h => kt h p e R s m args below meth c H locs cells slots ls Qf cx sx hS ht hl h1 h2 fin) (fun h => kf h p e R s m args below meth c H locs cells slots ls Qf cx sx hS ht hl h1 h2 fin)
theorem e_icmp_ge {x y : Int32} {off : Int} {tgt : Nat} (d : decode M.2.2.1 pc = .ok (.if_icmp .ge off, 3)) (htg : (pc : Int) + off = (tgt : Int)) (kt : y ≤ x → Ev G M kc ks w tgt lv st Q) (kf : ¬ y ≤ x → Ev G M kc ks w (pc + 3) lv st Q) : Ev G M kc ks w pc lv (.int y :: .int x :: st) Q := by
  intro p e R s m args below meth c H locs cells slots ls Qf cx sx hS ht hl h1 h2 fin
  exact lv_icmp_ge cx.1 cx.2.1 d htg (fun h => kt h p e R s m args below meth c H locs cells slots ls Qf cx sx hS ht hl h1 h2 fin) (fun h => kf h p e R s m args below meth c H locs cells slots ls Qf cx sx hS ht hl h1 h2 fin)
theorem e_if_gt {x : Int32} {off : Int} {tgt : Nat} (d : decode M.2.2.1 pc = .ok (.ifCond .gt off, 3)) (htg : (pc : Int) + off = (tgt : Int)) (kt : 0 < x → Ev G M kc ks w tgt lv st Q) (kf : ¬ 0 < x → Ev G M kc ks w (pc + 3) lv st Q) : Ev G M kc ks w pc lv (.int x :: st) Q := by
  intro p e R s m args below meth c H locs cells slots ls Qf cx sx hS ht hl h1 h2 fin
  exact lv_if_gt cx.1 cx.2.1 d htg (fun h => kt h p e R s m args below meth c H locs cells slots ls Qf cx sx hS ht hl h1 h2 fin) (fun h => kf h p e R s m args below meth c H locs cells slots ls Qf cx sx hS ht hl h1 h2 fin)
theorem e_icmp_gt {x y : Int32} {off : Int} {tgt : Nat} (d : decode M.2.2.1 pc = .ok (.if_icmp .gt off, 3)) (htg : (pc : Int) + off = (tgt : Int)) (kt : y < x → Ev G M kc ks w tgt lv st Q) (kf : ¬ y < x → Ev G M kc ks w (pc + 3) lv st Q) : Ev G M kc ks w pc lv (.int y :: .int x :: st) Q := by
  intro p e R s m args below meth c H locs cells slots ls Qf cx sx hS ht hl h1 h2 fin
  exact lv_icmp_gt cx.1 cx.2.1 d htg (fun h => kt h p e R s m args below meth c H locs cells slots ls Qf cx sx hS ht hl h1 h2 fin) (fun h => kf h p e R s m args below meth c H locs cells slots ls Qf cx sx hS ht hl h1 h2 fin)
theorem e_if_le {x : Int32} {off : Int} {tgt : Nat} (d : decode M.2.2.1 pc = .ok (.ifCond .le off, 3)) (htg : (pc : Int) + off = (tgt : Int)) (kt : x ≤ 0 → Ev G M kc ks w tgt lv st Q) (kf : ¬ x ≤ 0 → Ev G M kc ks w (pc + 3) lv st Q) : Ev G M kc ks w pc lv (.int x :: st) Q := by
  intro p e R s m args below meth c H locs cells slots ls Qf cx sx hS ht hl h1 h2 fin
  exact lv_if_le cx.1 cx.2.1 d htg (fun h => kt h p e R s m args below meth c H locs cells slots ls Qf cx sx hS ht hl h1 h2 fin) (fun h => kf h p e R s m args below meth c H locs cells slots ls Qf cx sx hS ht hl h1 h2 fin)
theorem e_icmp_le {x y : Int32} {off : Int} {tgt : Nat} (d : decode M.2.2.1 pc = .ok (.if_icmp .le off, 3)) (htg : (pc : Int) + off = (tgt : Int)) (kt : x ≤ y → Ev G M kc ks w tgt lv st Q) (kf : ¬ x ≤ y → Ev G M kc ks w (pc + 3) lv st Q) : Ev G M kc ks w pc lv (.int y :: .int x :: st) Q := by
  intro p e R s m args below meth c H locs cells slots ls Qf cx sx hS ht hl h1 h2 fin
  exact lv_icmp_le cx.1 cx.2.1 d htg (fun h => kt h p e R s m args below meth c H locs cells slots ls Qf cx sx hS ht hl h1 h2 fin) (fun h => kf h p e R s m args below meth c H locs cells slots ls Qf cx sx hS ht hl h1 h2 fin)
theorem e_goto {off : Int} {tgt : Nat} (d : decode M.2.2.1 pc = .ok (.goto off, 3)) (htg : (pc : Int) + off = (tgt : Int)) (k : Ev G M kc ks w tgt lv st Q) : Ev G M kc ks w pc lv st Q := by
  intro p e R s m args below meth c H locs cells slots ls Qf cx sx hS ht hl h1 h2 fin
  exact lv_goto cx.1 cx.2.1 d htg (k p e R s m args below meth c H locs cells slots ls Qf cx sx hS ht hl h1 h2 fin)
theorem e_lookup {dflt : Int} {ps : Array (Int × Int)} {len : Nat} {x : Int32} {off : Int} {tgt : Nat} (d : decode M.2.2.1 pc = .ok (.lookupswitch dflt ps, len)) (hp : (ps.toList.zip (ps.toList.drop 1)).all (fun (a, next) => a.1 < next.1) = true) (ho : Op.lookupswitch.offset ps.toList dflt x.toInt = off) (htg : (pc : Int) + off = (tgt : Int)) (k : Ev G M kc ks w tgt lv st Q) : Ev G M kc ks w pc lv (.int x :: st) Q := by
  intro p e R s m args below meth c H locs cells slots ls Qf cx sx hS ht hl h1 h2 fin
  exact lv_lookup cx.1 cx.2.1 d hp ho htg (k p e R s m args below meth c H locs cells slots ls Qf cx sx hS ht hl h1 h2 fin)
theorem e_tableOut {dflt lo hi : Int} {offs : Array Int} {len : Nat} {x : Int32} {tgt : Nat} (d : decode M.2.2.1 pc = .ok (.tableswitch dflt lo hi offs, len)) (h : x.toInt < lo ∨ hi < x.toInt) (htg : (pc : Int) + dflt = (tgt : Int)) (k : Ev G M kc ks w tgt lv st Q) : Ev G M kc ks w pc lv (.int x :: st) Q := by
  intro p e R s m args below meth c H locs cells slots ls Qf cx sx hS ht hl h1 h2 fin
  exact lv_tableOut cx.1 cx.2.1 d h htg (k p e R s m args below meth c H locs cells slots ls Qf cx sx hS ht hl h1 h2 fin)
theorem e_tableIn {dflt lo hi : Int} {offs : Array Int} {len : Nat} {x : Int32} {off : Int} {tgt : Nat} (d : decode M.2.2.1 pc = .ok (.tableswitch dflt lo hi offs, len)) (h3 : ¬ x.toInt < lo) (h4 : ¬ hi < x.toInt) (ho : offs[(x.toInt - lo).toNat]? = some off) (htg : (pc : Int) + off = (tgt : Int)) (k : Ev G M kc ks w tgt lv st Q) : Ev G M kc ks w pc lv (.int x :: st) Q := by
  intro p e R s m args below meth c H locs cells slots ls Qf cx sx hS ht hl h1 h2 fin
  exact lv_tableIn cx.1 cx.2.1 d h3 h4 ho htg (k p e R s m args below meth c H locs cells slots ls Qf cx sx hS ht hl h1 h2 fin)
end SHS
