section QR
variable {l : Launch} {g : qG} {M : qMt} {d n mc ms ce sl : Nat} {Z : List Frame → Array Value → State → State → Prop} {pc : Nat} {lv : List (Nat × Value)} {st : List Value} {h : qH}
theorem q_iconst {i : Int} {v : Int32} (hd : decode M.2.1 pc = .ok (.iconst i, 1)) (hv : Int32.ofInt i = v) (k : qV l g M d n mc ms ce sl Z (pc + 1) lv (.int v :: st) h) : qV l g M d n mc ms ce sl Z pc lv (st) h := by
  intro p e s m args below meth c H locs ls hF hs hn hl hI hS
  exact lv_iconst hF.1 hF.2.1 hd hv (k p e s m args below meth c H locs ls hF hs hn hl hI hS)
theorem q_bipush {i : Int} {v : Int32} (hd : decode M.2.1 pc = .ok (.bipush i, 2)) (hv : (Int8.ofInt i).toInt32 = v) (k : qV l g M d n mc ms ce sl Z (pc + 2) lv (.int v :: st) h) : qV l g M d n mc ms ce sl Z pc lv (st) h := by
  intro p e s m args below meth c H locs ls hF hs hn hl hI hS
  exact lv_bipush hF.1 hF.2.1 hd hv (k p e s m args below meth c H locs ls hF hs hn hl hI hS)
theorem q_sipush {i : Int} {v : Int32} (hd : decode M.2.1 pc = .ok (.sipush i, 3)) (hv : (Int16.ofInt i).toInt32 = v) (k : qV l g M d n mc ms ce sl Z (pc + 3) lv (.int v :: st) h) : qV l g M d n mc ms ce sl Z pc lv (st) h := by
  intro p e s m args below meth c H locs ls hF hs hn hl hI hS
  exact lv_sipush hF.1 hF.2.1 hd hv (k p e s m args below meth c H locs ls hF hs hn hl hI hS)
theorem q_lconst {i : Fin 2} {v : Int64} (hd : decode M.2.1 pc = .ok (.lconst i, 1)) (hv : Int64.ofNat (i : Nat) = v) (k : qV l g M d n mc ms ce sl Z (pc + 1) lv (.long v :: st) h) : qV l g M d n mc ms ce sl Z pc lv (st) h := by
  intro p e s m args below meth c H locs ls hF hs hn hl hI hS
  exact lv_lconst hF.1 hF.2.1 hd hv (k p e s m args below meth c H locs ls hF hs hn hl hI hS)
theorem q_iadd {x y : Int32} (hd : decode M.2.1 pc = .ok (.iadd, 1)) (k : qV l g M d n mc ms ce sl Z (pc + 1) lv (.int (x + y) :: st) h) : qV l g M d n mc ms ce sl Z pc lv (.int y :: .int x :: st) h := by
  intro p e s m args below meth c H locs ls hF hs hn hl hI hS
  exact lv_iadd hF.1 hF.2.1 hd (k p e s m args below meth c H locs ls hF hs hn hl hI hS)
theorem q_isub {x y : Int32} (hd : decode M.2.1 pc = .ok (.isub, 1)) (k : qV l g M d n mc ms ce sl Z (pc + 1) lv (.int (x - y) :: st) h) : qV l g M d n mc ms ce sl Z pc lv (.int y :: .int x :: st) h := by
  intro p e s m args below meth c H locs ls hF hs hn hl hI hS
  exact lv_isub hF.1 hF.2.1 hd (k p e s m args below meth c H locs ls hF hs hn hl hI hS)
theorem q_imul {x y : Int32} (hd : decode M.2.1 pc = .ok (.imul, 1)) (k : qV l g M d n mc ms ce sl Z (pc + 1) lv (.int (x * y) :: st) h) : qV l g M d n mc ms ce sl Z pc lv (.int y :: .int x :: st) h := by
  intro p e s m args below meth c H locs ls hF hs hn hl hI hS
  exact lv_imul hF.1 hF.2.1 hd (k p e s m args below meth c H locs ls hF hs hn hl hI hS)
theorem q_iand {x y : Int32} (hd : decode M.2.1 pc = .ok (.iand, 1)) (k : qV l g M d n mc ms ce sl Z (pc + 1) lv (.int (x &&& y) :: st) h) : qV l g M d n mc ms ce sl Z pc lv (.int y :: .int x :: st) h := by
  intro p e s m args below meth c H locs ls hF hs hn hl hI hS
  exact lv_iand hF.1 hF.2.1 hd (k p e s m args below meth c H locs ls hF hs hn hl hI hS)
theorem q_ior {x y : Int32} (hd : decode M.2.1 pc = .ok (.ior, 1)) (k : qV l g M d n mc ms ce sl Z (pc + 1) lv (.int (x ||| y) :: st) h) : qV l g M d n mc ms ce sl Z pc lv (.int y :: .int x :: st) h := by
  intro p e s m args below meth c H locs ls hF hs hn hl hI hS
  exact lv_ior hF.1 hF.2.1 hd (k p e s m args below meth c H locs ls hF hs hn hl hI hS)
theorem q_ixor {x y : Int32} (hd : decode M.2.1 pc = .ok (.ixor, 1)) (k : qV l g M d n mc ms ce sl Z (pc + 1) lv (.int (x ^^^ y) :: st) h) : qV l g M d n mc ms ce sl Z pc lv (.int y :: .int x :: st) h := by
  intro p e s m args below meth c H locs ls hF hs hn hl hI hS
  exact lv_ixor hF.1 hF.2.1 hd (k p e s m args below meth c H locs ls hF hs hn hl hI hS)
theorem q_ishl {x y : Int32} (hd : decode M.2.1 pc = .ok (.ishl, 1)) (k : qV l g M d n mc ms ce sl Z (pc + 1) lv (.int (x <<< (y &&& 31)) :: st) h) : qV l g M d n mc ms ce sl Z pc lv (.int y :: .int x :: st) h := by
  intro p e s m args below meth c H locs ls hF hs hn hl hI hS
  exact lv_ishl hF.1 hF.2.1 hd (k p e s m args below meth c H locs ls hF hs hn hl hI hS)
theorem q_ishr {x y : Int32} (hd : decode M.2.1 pc = .ok (.ishr, 1)) (k : qV l g M d n mc ms ce sl Z (pc + 1) lv (.int (x >>> (y &&& 31)) :: st) h) : qV l g M d n mc ms ce sl Z pc lv (.int y :: .int x :: st) h := by
  intro p e s m args below meth c H locs ls hF hs hn hl hI hS
  exact lv_ishr hF.1 hF.2.1 hd (k p e s m args below meth c H locs ls hF hs hn hl hI hS)
theorem q_idiv {x y : Int32} (hd : decode M.2.1 pc = .ok (.idiv, 1)) (hy : ¬ y = 0) (k : qV l g M d n mc ms ce sl Z (pc + 1) lv (.int (x / y) :: st) h) : qV l g M d n mc ms ce sl Z pc lv (.int y :: .int x :: st) h := by
  intro p e s m args below meth c H locs ls hF hs hn hl hI hS
  exact lv_idiv hF.1 hF.2.1 hd hy (k p e s m args below meth c H locs ls hF hs hn hl hI hS)
theorem q_irem {x y : Int32} (hd : decode M.2.1 pc = .ok (.irem, 1)) (hy : ¬ y = 0) (k : qV l g M d n mc ms ce sl Z (pc + 1) lv (.int (x - x / y * y) :: st) h) : qV l g M d n mc ms ce sl Z pc lv (.int y :: .int x :: st) h := by
  intro p e s m args below meth c H locs ls hF hs hn hl hI hS
  exact lv_irem hF.1 hF.2.1 hd hy (k p e s m args below meth c H locs ls hF hs hn hl hI hS)
theorem q_ladd {x y : Int64} (hd : decode M.2.1 pc = .ok (.ladd, 1)) (k : qV l g M d n mc ms ce sl Z (pc + 1) lv (.long (x + y) :: st) h) : qV l g M d n mc ms ce sl Z pc lv (.long y :: .long x :: st) h := by
  intro p e s m args below meth c H locs ls hF hs hn hl hI hS
  exact lv_ladd hF.1 hF.2.1 hd (k p e s m args below meth c H locs ls hF hs hn hl hI hS)
theorem q_lsub {x y : Int64} (hd : decode M.2.1 pc = .ok (.lsub, 1)) (k : qV l g M d n mc ms ce sl Z (pc + 1) lv (.long (x - y) :: st) h) : qV l g M d n mc ms ce sl Z pc lv (.long y :: .long x :: st) h := by
  intro p e s m args below meth c H locs ls hF hs hn hl hI hS
  exact lv_lsub hF.1 hF.2.1 hd (k p e s m args below meth c H locs ls hF hs hn hl hI hS)
theorem q_lmul {x y : Int64} (hd : decode M.2.1 pc = .ok (.lmul, 1)) (k : qV l g M d n mc ms ce sl Z (pc + 1) lv (.long (x * y) :: st) h) : qV l g M d n mc ms ce sl Z pc lv (.long y :: .long x :: st) h := by
  intro p e s m args below meth c H locs ls hF hs hn hl hI hS
  exact lv_lmul hF.1 hF.2.1 hd (k p e s m args below meth c H locs ls hF hs hn hl hI hS)
theorem q_land {x y : Int64} (hd : decode M.2.1 pc = .ok (.land, 1)) (k : qV l g M d n mc ms ce sl Z (pc + 1) lv (.long (x &&& y) :: st) h) : qV l g M d n mc ms ce sl Z pc lv (.long y :: .long x :: st) h := by
  intro p e s m args below meth c H locs ls hF hs hn hl hI hS
  exact lv_land hF.1 hF.2.1 hd (k p e s m args below meth c H locs ls hF hs hn hl hI hS)
theorem q_lor {x y : Int64} (hd : decode M.2.1 pc = .ok (.lor, 1)) (k : qV l g M d n mc ms ce sl Z (pc + 1) lv (.long (x ||| y) :: st) h) : qV l g M d n mc ms ce sl Z pc lv (.long y :: .long x :: st) h := by
  intro p e s m args below meth c H locs ls hF hs hn hl hI hS
  exact lv_lor hF.1 hF.2.1 hd (k p e s m args below meth c H locs ls hF hs hn hl hI hS)
theorem q_ldiv {x y : Int64} (hd : decode M.2.1 pc = .ok (.ldiv, 1)) (hy : ¬ y = 0) (k : qV l g M d n mc ms ce sl Z (pc + 1) lv (.long (x / y) :: st) h) : qV l g M d n mc ms ce sl Z pc lv (.long y :: .long x :: st) h := by
  intro p e s m args below meth c H locs ls hF hs hn hl hI hS
  exact lv_ldiv hF.1 hF.2.1 hd hy (k p e s m args below meth c H locs ls hF hs hn hl hI hS)
theorem q_lrem {x y : Int64} (hd : decode M.2.1 pc = .ok (.lrem, 1)) (hy : ¬ y = 0) (k : qV l g M d n mc ms ce sl Z (pc + 1) lv (.long (x - x / y * y) :: st) h) : qV l g M d n mc ms ce sl Z pc lv (.long y :: .long x :: st) h := by
  intro p e s m args below meth c H locs ls hF hs hn hl hI hS
  exact lv_lrem hF.1 hF.2.1 hd hy (k p e s m args below meth c H locs ls hF hs hn hl hI hS)
theorem q_lshl {x : Int64} {y : Int32} (hd : decode M.2.1 pc = .ok (.lshl, 1)) (k : qV l g M d n mc ms ce sl Z (pc + 1) lv (.long (x <<< (y.toInt64 &&& 63)) :: st) h) : qV l g M d n mc ms ce sl Z pc lv (.int y :: .long x :: st) h := by
  intro p e s m args below meth c H locs ls hF hs hn hl hI hS
  exact lv_lshl hF.1 hF.2.1 hd rfl (k p e s m args below meth c H locs ls hF hs hn hl hI hS)
theorem q_lshr {x : Int64} {y : Int32} (hd : decode M.2.1 pc = .ok (.lshr, 1)) (k : qV l g M d n mc ms ce sl Z (pc + 1) lv (.long (x >>> (y.toInt64 &&& 63)) :: st) h) : qV l g M d n mc ms ce sl Z pc lv (.int y :: .long x :: st) h := by
  intro p e s m args below meth c H locs ls hF hs hn hl hI hS
  exact lv_lshr hF.1 hF.2.1 hd rfl (k p e s m args below meth c H locs ls hF hs hn hl hI hS)
theorem q_iushr {x y : Int32} (hd : decode M.2.1 pc = .ok (.iushr, 1)) (k : qV l g M d n mc ms ce sl Z (pc + 1) lv (.int (x.toUInt32 >>> (y.toUInt32 &&& Int32.toUInt32 31)).toInt32 :: st) h) : qV l g M d n mc ms ce sl Z pc lv (.int y :: .int x :: st) h := by
  intro p e s m args below meth c H locs ls hF hs hn hl hI hS
  exact lv_iushr hF.1 hF.2.1 hd rfl (k p e s m args below meth c H locs ls hF hs hn hl hI hS)
theorem q_lcmp {x y : Int64} (hd : decode M.2.1 pc = .ok (.lcmp, 1)) (k : qV l g M d n mc ms ce sl Z (pc + 1) lv (.int (lg_cmp x y) :: st) h) : qV l g M d n mc ms ce sl Z pc lv (.long y :: .long x :: st) h := by
  intro p e s m args below meth c H locs ls hF hs hn hl hI hS
  exact W.lcmp hF.1 hF.2.1 hd (k p e s m args below meth c H locs ls hF hs hn hl hI hS)
theorem q_i2l {x : Int32} (hd : decode M.2.1 pc = .ok (.i2l, 1)) (k : qV l g M d n mc ms ce sl Z (pc + 1) lv (.long x.toInt64 :: st) h) : qV l g M d n mc ms ce sl Z pc lv (.int x :: st) h := by
  intro p e s m args below meth c H locs ls hF hs hn hl hI hS
  exact lv_i2l hF.1 hF.2.1 hd rfl (k p e s m args below meth c H locs ls hF hs hn hl hI hS)
theorem q_l2i {x : Int64} (hd : decode M.2.1 pc = .ok (.l2i, 1)) (k : qV l g M d n mc ms ce sl Z (pc + 1) lv (.int x.toInt32 :: st) h) : qV l g M d n mc ms ce sl Z pc lv (.long x :: st) h := by
  intro p e s m args below meth c H locs ls hF hs hn hl hI hS
  exact lv_l2i hF.1 hF.2.1 hd rfl (k p e s m args below meth c H locs ls hF hs hn hl hI hS)
theorem q_dup {v : Value} (hd : decode M.2.1 pc = .ok (.dup, 1)) (hv : v.category = 1) (k : qV l g M d n mc ms ce sl Z (pc + 1) lv (v :: v :: st) h) : qV l g M d n mc ms ce sl Z pc lv (v :: st) h := by
  intro p e s m args below meth c H locs ls hF hs hn hl hI hS
  exact lv_dup hF.1 hF.2.1 hd ((qv_cat g v).trans hv) (k p e s m args below meth c H locs ls hF hs hn hl hI hS)
theorem q_pop {v : Value} (hd : decode M.2.1 pc = .ok (.pop, 1)) (hv : v.category = 1) (k : qV l g M d n mc ms ce sl Z (pc + 1) lv (st) h) : qV l g M d n mc ms ce sl Z pc lv (v :: st) h := by
  intro p e s m args below meth c H locs ls hF hs hn hl hI hS
  exact lv_pop hF.1 hF.2.1 hd ((qv_cat g v).trans hv) (k p e s m args below meth c H locs ls hF hs hn hl hI hS)
theorem q_dup_x1 {v w : Value} (hd : decode M.2.1 pc = .ok (.dup_x1, 1)) (hv : v.category = 1) (hw : w.category = 1) (k : qV l g M d n mc ms ce sl Z (pc + 1) lv (v :: w :: v :: st) h) : qV l g M d n mc ms ce sl Z pc lv (v :: w :: st) h := by
  intro p e s m args below meth c H locs ls hF hs hn hl hI hS
  exact lv_dup_x1 hF.1 hF.2.1 hd ((qv_cat g v).trans hv) ((qv_cat g w).trans hw) (k p e s m args below meth c H locs ls hF hs hn hl hI hS)
theorem q_dup2 {v w : Value} (hd : decode M.2.1 pc = .ok (.dup2, 1)) (hv : v.category = 1) (hw : w.category = 1) (k : qV l g M d n mc ms ce sl Z (pc + 1) lv (v :: w :: v :: w :: st) h) : qV l g M d n mc ms ce sl Z pc lv (v :: w :: st) h := by
  intro p e s m args below meth c H locs ls hF hs hn hl hI hS
  exact lv_dup2_11 hF.1 hF.2.1 hd ((qv_cat g v).trans hv) ((qv_cat g w).trans hw) (k p e s m args below meth c H locs ls hF hs hn hl hI hS)
theorem q_dup2L {v : Value} (hd : decode M.2.1 pc = .ok (.dup2, 1)) (hv : v.category = 2) (k : qV l g M d n mc ms ce sl Z (pc + 1) lv (v :: v :: st) h) : qV l g M d n mc ms ce sl Z pc lv (v :: st) h := by
  intro p e s m args below meth c H locs ls hF hs hn hl hI hS
  exact lv_dup2_2 hF.1 hF.2.1 hd ((qv_cat g v).trans hv) (k p e s m args below meth c H locs ls hF hs hn hl hI hS)
theorem q_null  (hd : decode M.2.1 pc = .ok (.aconst_null, 1)) (k : qV l g M d n mc ms ce sl Z (pc + 1) lv (.null :: st) h) : qV l g M d n mc ms ce sl Z pc lv (st) h := by
  intro p e s m args below meth c H locs ls hF hs hn hl hI hS
  exact lv_null hF.1 hF.2.1 hd (k p e s m args below meth c H locs ls hF hs hn hl hI hS)
theorem q_iload_n {i : Fin 4} {x : Int32} (hd : decode M.2.1 pc = .ok (.iload_n i, 1)) (hv : List.lookup (i : Nat) lv = some (.int x)) (k : qV l g M d n mc ms ce sl Z (pc + 1) lv (.int x :: st) h) : qV l g M d n mc ms ce sl Z pc lv (st) h := by
  intro p e s m args below meth c H locs ls hF hs hn hl hI hS
  exact lv_iload_n hF.1 hF.2.1 hd rfl (q_lat hl hv) (k p e s m args below meth c H locs ls hF hs hn hl hI hS)
theorem q_iload {i : Nat} {x : Int32} (hd : decode M.2.1 pc = .ok (.iload i, 2)) (hv : List.lookup i lv = some (.int x)) (k : qV l g M d n mc ms ce sl Z (pc + 2) lv (.int x :: st) h) : qV l g M d n mc ms ce sl Z pc lv (st) h := by
  intro p e s m args below meth c H locs ls hF hs hn hl hI hS
  exact lv_iload hF.1 hF.2.1 hd (q_lat hl hv) (k p e s m args below meth c H locs ls hF hs hn hl hI hS)
theorem q_lload_n {i : Fin 4} {x : Int64} (hd : decode M.2.1 pc = .ok (.lload_n i, 1)) (hv : List.lookup (i : Nat) lv = some (.long x)) (k : qV l g M d n mc ms ce sl Z (pc + 1) lv (.long x :: st) h) : qV l g M d n mc ms ce sl Z pc lv (st) h := by
  intro p e s m args below meth c H locs ls hF hs hn hl hI hS
  exact lv_lload_n hF.1 hF.2.1 hd rfl (q_lat hl hv) (k p e s m args below meth c H locs ls hF hs hn hl hI hS)
theorem q_lload {i : Nat} {x : Int64} (hd : decode M.2.1 pc = .ok (.lload i, 2)) (hv : List.lookup i lv = some (.long x)) (k : qV l g M d n mc ms ce sl Z (pc + 2) lv (.long x :: st) h) : qV l g M d n mc ms ce sl Z pc lv (st) h := by
  intro p e s m args below meth c H locs ls hF hs hn hl hI hS
  exact lv_lload hF.1 hF.2.1 hd (q_lat hl hv) (k p e s m args below meth c H locs ls hF hs hn hl hI hS)
theorem q_aload_n {i : Fin 4} {x : Nat} (hd : decode M.2.1 pc = .ok (.aload_n i, 1)) (hv : List.lookup (i : Nat) lv = some (.ref x)) (k : qV l g M d n mc ms ce sl Z (pc + 1) lv (.ref x :: st) h) : qV l g M d n mc ms ce sl Z pc lv (st) h := by
  intro p e s m args below meth c H locs ls hF hs hn hl hI hS
  exact lv_aload_n hF.1 hF.2.1 hd rfl (q_lat hl hv) (k p e s m args below meth c H locs ls hF hs hn hl hI hS)
theorem q_aload {i : Nat} {x : Nat} (hd : decode M.2.1 pc = .ok (.aload i, 2)) (hv : List.lookup i lv = some (.ref x)) (k : qV l g M d n mc ms ce sl Z (pc + 2) lv (.ref x :: st) h) : qV l g M d n mc ms ce sl Z pc lv (st) h := by
  intro p e s m args below meth c H locs ls hF hs hn hl hI hS
  exact lv_aload hF.1 hF.2.1 hd (q_lat hl hv) (k p e s m args below meth c H locs ls hF hs hn hl hI hS)
theorem q_aload_nN {i : Fin 4} (hd : decode M.2.1 pc = .ok (.aload_n i, 1)) (hv : List.lookup (i : Nat) lv = some .null) (k : qV l g M d n mc ms ce sl Z (pc + 1) lv (.null :: st) h) : qV l g M d n mc ms ce sl Z pc lv (st) h := by
  intro p e s m args below meth c H locs ls hF hs hn hl hI hS
  exact lv_aload_nN hF.1 hF.2.1 hd rfl (q_lat hl hv) (k p e s m args below meth c H locs ls hF hs hn hl hI hS)
theorem q_istore_n {i : Fin 4} {x : Int32} {lv' : List (Nat × Value)} (hd : decode M.2.1 pc = .ok (.istore_n i, 1)) (hi : (i : Nat) < M.2.2.1) (hv : q_st1 lv (i : Nat) (.int x) = lv') (k : qV l g M d n mc ms ce sl Z (pc + 1) lv' st h) : qV l g M d n mc ms ce sl Z pc lv (.int x :: st) h := by
  intro p e s m args below meth c H locs ls hF hs hn hl hI hS
  subst hv
  exact lv_istore_n hF.1 hF.2.1 hd rfl hl hi (q_st1_map g lv (i : Nat) (.int x)) (fun ls' hl' => k p e s m args below meth c H locs ls' hF hs hn hl' hI hS)
theorem q_istore {i : Nat} {x : Int32} {lv' : List (Nat × Value)} (hd : decode M.2.1 pc = .ok (.istore i, 2)) (hi : i < M.2.2.1) (hv : q_st1 lv i (.int x) = lv') (k : qV l g M d n mc ms ce sl Z (pc + 2) lv' st h) : qV l g M d n mc ms ce sl Z pc lv (.int x :: st) h := by
  intro p e s m args below meth c H locs ls hF hs hn hl hI hS
  subst hv
  exact lv_istore hF.1 hF.2.1 hd hl hi (q_st1_map g lv i (.int x)) (fun ls' hl' => k p e s m args below meth c H locs ls' hF hs hn hl' hI hS)
theorem q_lstore_n {i : Fin 4} {x : Int64} {lv' : List (Nat × Value)} (hd : decode M.2.1 pc = .ok (.lstore_n i, 1)) (hi : (i : Nat) + 1 < M.2.2.1) (hv : q_st2 lv (i : Nat) (.long x) = lv') (k : qV l g M d n mc ms ce sl Z (pc + 1) lv' st h) : qV l g M d n mc ms ce sl Z pc lv (.long x :: st) h := by
  intro p e s m args below meth c H locs ls hF hs hn hl hI hS
  subst hv
  exact lv_lstore_n hF.1 hF.2.1 hd rfl hl hi (q_st2_map g lv (i : Nat) (.long x)) (fun ls' hl' => k p e s m args below meth c H locs ls' hF hs hn hl' hI hS)
theorem q_lstore {i : Nat} {x : Int64} {lv' : List (Nat × Value)} (hd : decode M.2.1 pc = .ok (.lstore i, 2)) (hi : i + 1 < M.2.2.1) (hv : q_st2 lv i (.long x) = lv') (k : qV l g M d n mc ms ce sl Z (pc + 2) lv' st h) : qV l g M d n mc ms ce sl Z pc lv (.long x :: st) h := by
  intro p e s m args below meth c H locs ls hF hs hn hl hI hS
  subst hv
  exact lv_lstore hF.1 hF.2.1 hd hl hi (q_st2_map g lv i (.long x)) (fun ls' hl' => k p e s m args below meth c H locs ls' hF hs hn hl' hI hS)
theorem q_astore_n {i : Fin 4} {x : Nat} {lv' : List (Nat × Value)} (hd : decode M.2.1 pc = .ok (.astore_n i, 1)) (hi : (i : Nat) < M.2.2.1) (hv : q_st1 lv (i : Nat) (.ref x) = lv') (k : qV l g M d n mc ms ce sl Z (pc + 1) lv' st h) : qV l g M d n mc ms ce sl Z pc lv (.ref x :: st) h := by
  intro p e s m args below meth c H locs ls hF hs hn hl hI hS
  subst hv
  exact lv_astore_n hF.1 hF.2.1 hd rfl hl hi (q_st1_map g lv (i : Nat) (.ref x)) (fun ls' hl' => k p e s m args below meth c H locs ls' hF hs hn hl' hI hS)
theorem q_astore {i : Nat} {x : Nat} {lv' : List (Nat × Value)} (hd : decode M.2.1 pc = .ok (.astore i, 2)) (hi : i < M.2.2.1) (hv : q_st1 lv i (.ref x) = lv') (k : qV l g M d n mc ms ce sl Z (pc + 2) lv' st h) : qV l g M d n mc ms ce sl Z pc lv (.ref x :: st) h := by
  intro p e s m args below meth c H locs ls hF hs hn hl hI hS
  subst hv
  exact lv_astore hF.1 hF.2.1 hd hl hi (q_st1_map g lv i (.ref x)) (fun ls' hl' => k p e s m args below meth c H locs ls' hF hs hn hl' hI hS)
theorem q_iinc {i : Nat} {a : Int} {x : Int32} {lv' : List (Nat × Value)} (hd : decode M.2.1 pc = .ok (.iinc i a, 3)) (hx : List.lookup i lv = some (.int x)) (hi : i < M.2.2.1) (hv : q_st1 lv i (.int (x + Int32.ofInt a)) = lv') (k : qV l g M d n mc ms ce sl Z (pc + 3) lv' st h) : qV l g M d n mc ms ce sl Z pc lv st h := by
  intro p e s m args below meth c H locs ls hF hs hn hl hI hS
  subst hv
  obtain ⟨j, hj⟩ := List.getElem?_of_mem (List.mem_map.mpr ⟨(i, .int x), q_lkm hx, rfl⟩ : (i, qv g (.int x)) ∈ lv.map (fun q => (q.1, qv g q.2)))
  exact lv_iinc hF.1 hF.2.1 hd hl hj rfl hi (q_st1_map g lv i (.int (x + Int32.ofInt a))) (fun ls' hl' => k p e s m args below meth c H locs ls' hF hs hn hl' hI hS)
theorem q_if_eq {x : Int32} {off : Int} {tgt : Nat} (hd : decode M.2.1 pc = .ok (.ifCond .eq off, 3)) (ht : (pc : Int) + off = (tgt : Int)) (kt : x = 0 → qV l g M d n mc ms ce sl Z tgt lv st h) (kf : ¬ x = 0 → qV l g M d n mc ms ce sl Z (pc + 3) lv st h) : qV l g M d n mc ms ce sl Z pc lv (.int x :: st) h := by
  intro p e s m args below meth c H locs ls hF hs hn hl hI hS
  exact lv_if_eq hF.1 hF.2.1 hd ht (fun q => kt q p e s m args below meth c H locs ls hF hs hn hl hI hS) (fun q => kf q p e s m args below meth c H locs ls hF hs hn hl hI hS)
theorem q_icmp_eq {x y : Int32} {off : Int} {tgt : Nat} (hd : decode M.2.1 pc = .ok (.if_icmp .eq off, 3)) (ht : (pc : Int) + off = (tgt : Int)) (kt : x = y → qV l g M d n mc ms ce sl Z tgt lv st h) (kf : ¬ x = y → qV l g M d n mc ms ce sl Z (pc + 3) lv st h) : qV l g M d n mc ms ce sl Z pc lv (.int y :: .int x :: st) h := by
  intro p e s m args below meth c H locs ls hF hs hn hl hI hS
  exact lv_icmp_eq hF.1 hF.2.1 hd ht (fun q => kt q p e s m args below meth c H locs ls hF hs hn hl hI hS) (fun q => kf q p e s m args below meth c H locs ls hF hs hn hl hI hS)
theorem q_if_ne {x : Int32} {off : Int} {tgt : Nat} (hd : decode M.2.1 pc = .ok (.ifCond .ne off, 3)) (ht : (pc : Int) + off = (tgt : Int)) (kt : ¬ x = 0 → qV l g M d n mc ms ce sl Z tgt lv st h) (kf : x = 0 → qV l g M d n mc ms ce sl Z (pc + 3) lv st h) : qV l g M d n mc ms ce sl Z pc lv (.int x :: st) h := by
  intro p e s m args below meth c H locs ls hF hs hn hl hI hS
  exact lv_if_ne hF.1 hF.2.1 hd ht (fun q => kt q p e s m args below meth c H locs ls hF hs hn hl hI hS) (fun q => kf q p e s m args below meth c H locs ls hF hs hn hl hI hS)
theorem q_icmp_ne {x y : Int32} {off : Int} {tgt : Nat} (hd : decode M.2.1 pc = .ok (.if_icmp .ne off, 3)) (ht : (pc : Int) + off = (tgt : Int)) (kt : ¬ x = y → qV l g M d n mc ms ce sl Z tgt lv st h) (kf : x = y → qV l g M d n mc ms ce sl Z (pc + 3) lv st h) : qV l g M d n mc ms ce sl Z pc lv (.int y :: .int x :: st) h := by
  intro p e s m args below meth c H locs ls hF hs hn hl hI hS
  exact lv_icmp_ne hF.1 hF.2.1 hd ht (fun q => kt q p e s m args below meth c H locs ls hF hs hn hl hI hS) (fun q => kf q p e s m args below meth c H locs ls hF hs hn hl hI hS)
theorem q_if_lt {x : Int32} {off : Int} {tgt : Nat} (hd : decode M.2.1 pc = .ok (.ifCond .lt off, 3)) (ht : (pc : Int) + off = (tgt : Int)) (kt : x < 0 → qV l g M d n mc ms ce sl Z tgt lv st h) (kf : ¬ x < 0 → qV l g M d n mc ms ce sl Z (pc + 3) lv st h) : qV l g M d n mc ms ce sl Z pc lv (.int x :: st) h := by
  intro p e s m args below meth c H locs ls hF hs hn hl hI hS
  exact lv_if_lt hF.1 hF.2.1 hd ht (fun q => kt q p e s m args below meth c H locs ls hF hs hn hl hI hS) (fun q => kf q p e s m args below meth c H locs ls hF hs hn hl hI hS)
theorem q_icmp_lt {x y : Int32} {off : Int} {tgt : Nat} (hd : decode M.2.1 pc = .ok (.if_icmp .lt off, 3)) (ht : (pc : Int) + off = (tgt : Int)) (kt : x < y → qV l g M d n mc ms ce sl Z tgt lv st h) (kf : ¬ x < y → qV l g M d n mc ms ce sl Z (pc + 3) lv st h) : qV l g M d n mc ms ce sl Z pc lv (.int y :: .int x :: st) h := by
  intro p e s m args below meth c H locs ls hF hs hn hl hI hS
  exact lv_icmp_lt hF.1 hF.2.1 hd ht (fun q => kt q p e s m args below meth c H locs ls hF hs hn hl hI hS) (fun q => kf q p e s m args below meth c H locs ls hF hs hn hl hI hS)
theorem q_if_ge {x : Int32} {off : Int} {tgt : Nat} (hd : decode M.2.1 pc = .ok (.ifCond .ge off, 3)) (ht : (pc : Int) + off = (tgt : Int)) (kt : 0 ≤ x → qV l g M d n mc ms ce sl Z tgt lv st h) (kf : ¬ 0 ≤ x → qV l g M d n mc ms ce sl Z (pc + 3) lv st h) : qV l g M d n mc ms ce sl Z pc lv (.int x :: st) h := by
  intro p e s m args below meth c H locs ls hF hs hn hl hI hS
  exact lv_if_ge hF.1 hF.2.1 hd ht (fun q => kt q p e s m args below meth c H locs ls hF hs hn hl hI hS) (fun q => kf q p e s m args below meth c H locs ls hF hs hn hl hI hS)
theorem q_icmp_ge {x y : Int32} {off : Int} {tgt : Nat} (hd : decode M.2.1 pc = .ok (.if_icmp .ge off, 3)) (ht : (pc : Int) + off = (tgt : Int)) (kt : y ≤ x → qV l g M d n mc ms ce sl Z tgt lv st h) (kf : ¬ y ≤ x → qV l g M d n mc ms ce sl Z (pc + 3) lv st h) : qV l g M d n mc ms ce sl Z pc lv (.int y :: .int x :: st) h := by
  intro p e s m args below meth c H locs ls hF hs hn hl hI hS
  exact lv_icmp_ge hF.1 hF.2.1 hd ht (fun q => kt q p e s m args below meth c H locs ls hF hs hn hl hI hS) (fun q => kf q p e s m args below meth c H locs ls hF hs hn hl hI hS)
theorem q_if_gt {x : Int32} {off : Int} {tgt : Nat} (hd : decode M.2.1 pc = .ok (.ifCond .gt off, 3)) (ht : (pc : Int) + off = (tgt : Int)) (kt : 0 < x → qV l g M d n mc ms ce sl Z tgt lv st h) (kf : ¬ 0 < x → qV l g M d n mc ms ce sl Z (pc + 3) lv st h) : qV l g M d n mc ms ce sl Z pc lv (.int x :: st) h := by
  intro p e s m args below meth c H locs ls hF hs hn hl hI hS
  exact lv_if_gt hF.1 hF.2.1 hd ht (fun q => kt q p e s m args below meth c H locs ls hF hs hn hl hI hS) (fun q => kf q p e s m args below meth c H locs ls hF hs hn hl hI hS)
theorem q_icmp_gt {x y : Int32} {off : Int} {tgt : Nat} (hd : decode M.2.1 pc = .ok (.if_icmp .gt off, 3)) (ht : (pc : Int) + off = (tgt : Int)) (kt : y < x → qV l g M d n mc ms ce sl Z tgt lv st h) (kf : ¬ y < x → qV l g M d n mc ms ce sl Z (pc + 3) lv st h) : qV l g M d n mc ms ce sl Z pc lv (.int y :: .int x :: st) h := by
  intro p e s m args below meth c H locs ls hF hs hn hl hI hS
  exact lv_icmp_gt hF.1 hF.2.1 hd ht (fun q => kt q p e s m args below meth c H locs ls hF hs hn hl hI hS) (fun q => kf q p e s m args below meth c H locs ls hF hs hn hl hI hS)
theorem q_if_le {x : Int32} {off : Int} {tgt : Nat} (hd : decode M.2.1 pc = .ok (.ifCond .le off, 3)) (ht : (pc : Int) + off = (tgt : Int)) (kt : x ≤ 0 → qV l g M d n mc ms ce sl Z tgt lv st h) (kf : ¬ x ≤ 0 → qV l g M d n mc ms ce sl Z (pc + 3) lv st h) : qV l g M d n mc ms ce sl Z pc lv (.int x :: st) h := by
  intro p e s m args below meth c H locs ls hF hs hn hl hI hS
  exact lv_if_le hF.1 hF.2.1 hd ht (fun q => kt q p e s m args below meth c H locs ls hF hs hn hl hI hS) (fun q => kf q p e s m args below meth c H locs ls hF hs hn hl hI hS)
theorem q_icmp_le {x y : Int32} {off : Int} {tgt : Nat} (hd : decode M.2.1 pc = .ok (.if_icmp .le off, 3)) (ht : (pc : Int) + off = (tgt : Int)) (kt : x ≤ y → qV l g M d n mc ms ce sl Z tgt lv st h) (kf : ¬ x ≤ y → qV l g M d n mc ms ce sl Z (pc + 3) lv st h) : qV l g M d n mc ms ce sl Z pc lv (.int y :: .int x :: st) h := by
  intro p e s m args below meth c H locs ls hF hs hn hl hI hS
  exact lv_icmp_le hF.1 hF.2.1 hd ht (fun q => kt q p e s m args below meth c H locs ls hF hs hn hl hI hS) (fun q => kf q p e s m args below meth c H locs ls hF hs hn hl hI hS)
theorem q_goto {off : Int} {tgt : Nat} (hd : decode M.2.1 pc = .ok (.goto off, 3)) (ht : (pc : Int) + off = (tgt : Int)) (k : qV l g M d n mc ms ce sl Z tgt lv st h) : qV l g M d n mc ms ce sl Z pc lv st h := by
  intro p e s m args below meth c H locs ls hF hs hn hl hI hS
  exact lv_goto hF.1 hF.2.1 hd ht (k p e s m args below meth c H locs ls hF hs hn hl hI hS)
theorem q_ifnonnull {x : Nat} {off : Int} {tgt : Nat} (hd : decode M.2.1 pc = .ok (.ifnonnull off, 3)) (ht : (pc : Int) + off = (tgt : Int)) (k : qV l g M d n mc ms ce sl Z tgt lv st h) : qV l g M d n mc ms ce sl Z pc lv (.ref x :: st) h := by
  intro p e s m args below meth c H locs ls hF hs hn hl hI hS
  exact lv_ifnonnull hF.1 hF.2.1 hd ht (k p e s m args below meth c H locs ls hF hs hn hl hI hS)
theorem q_ifnonnullN {off : Int} (hd : decode M.2.1 pc = .ok (.ifnonnull off, 3)) (k : qV l g M d n mc ms ce sl Z (pc + 3) lv st h) : qV l g M d n mc ms ce sl Z pc lv (.null :: st) h := by
  intro p e s m args below meth c H locs ls hF hs hn hl hI hS
  exact lv_ifnonnullN hF.1 hF.2.1 hd (k p e s m args below meth c H locs ls hF hs hn hl hI hS)
theorem q_lookup {dflt : Int} {ps : Array (Int × Int)} {len : Nat} {x : Int32} {off : Int} {tgt : Nat} (hd : decode M.2.1 pc = .ok (.lookupswitch dflt ps, len)) (hp : (ps.toList.zip (ps.toList.drop 1)).all (fun (a, next) => a.1 < next.1) = true) (ho : Op.lookupswitch.offset ps.toList dflt x.toInt = off) (ht : (pc : Int) + off = (tgt : Int)) (k : qV l g M d n mc ms ce sl Z tgt lv st h) : qV l g M d n mc ms ce sl Z pc lv (.int x :: st) h := by
  intro p e s m args below meth c H locs ls hF hs hn hl hI hS
  exact lv_lookup hF.1 hF.2.1 hd hp ho ht (k p e s m args below meth c H locs ls hF hs hn hl hI hS)
theorem q_tableOut {dflt lo hi : Int} {offs : Array Int} {len : Nat} {x : Int32} {tgt : Nat} (hd : decode M.2.1 pc = .ok (.tableswitch dflt lo hi offs, len)) (hx : x.toInt < lo ∨ hi < x.toInt) (ht : (pc : Int) + dflt = (tgt : Int)) (k : qV l g M d n mc ms ce sl Z tgt lv st h) : qV l g M d n mc ms ce sl Z pc lv (.int x :: st) h := by
  intro p e s m args below meth c H locs ls hF hs hn hl hI hS
  exact lv_tableOut hF.1 hF.2.1 hd hx ht (k p e s m args below meth c H locs ls hF hs hn hl hI hS)
theorem q_tableIn {dflt lo hi : Int} {offs : Array Int} {len : Nat} {x : Int32} {off : Int} {tgt : Nat} (hd : decode M.2.1 pc = .ok (.tableswitch dflt lo hi offs, len)) (h1 : ¬ x.toInt < lo) (h2 : ¬ hi < x.toInt) (ho : offs[(x.toInt - lo).toNat]? = some off) (ht : (pc : Int) + off = (tgt : Int)) (k : qV l g M d n mc ms ce sl Z tgt lv st h) : qV l g M d n mc ms ce sl Z pc lv (.int x :: st) h := by
  intro p e s m args below meth c H locs ls hF hs hn hl hI hS
  exact lv_tableIn hF.1 hF.2.1 hd h1 h2 ho ht (k p e s m args below meth c H locs ls hF hs hn hl hI hS)
theorem q_ldc2 {idx : Nat} {v : Int64} (hd : decode M.2.1 pc = .ok (.ldc2_w idx, 3)) (hw : Cond.constantLong M.1.cls idx v ∈ qtb) (k : qV l g M d n mc ms ce sl Z (pc + 3) lv (.long v :: st) h) : qV l g M d n mc ms ce sl Z pc lv st h := by
  intro p e s m args below meth c H locs ls hF hs hn hl hI hS
  exact lv_ldc2 hF.1 hF.2.1 hF.2.2.2.2.1 (hF.2.2.2.2.2.2.2.2 _ hw) hd (k p e s m args below meth c H locs ls hF hs hn hl hI hS)
theorem q_ldcw {idx : Nat} {v : Int32} (hd : decode M.2.1 pc = .ok (.ldc_w idx, 3)) (hw : Cond.constant M.1.cls idx v ∈ qtb) (k : qV l g M d n mc ms ce sl Z (pc + 3) lv (.int v :: st) h) : qV l g M d n mc ms ce sl Z pc lv st h := by
  intro p e s m args below meth c H locs ls hF hs hn hl hI hS
  exact lv_ldcw hF.1 hF.2.1 hF.2.2.2.2.1 (hF.2.2.2.2.2.2.2.2 _ hw) hd (k p e s m args below meth c H locs ls hF hs hn hl hI hS)
theorem q_widen {k1 k2 : Nat} (h2 : sl ≤ k2) (k : qV l g M d n mc ms ce k2 Z pc lv st h) : qV l g M d n mc ms ce sl Z pc lv st h := by
  intro p e s m args below meth c H locs ls hF hs hn hl hI hS
  exact W.widen (Nat.le_refl _) h2 (k p e s m args below meth c H locs ls hF hs hn hl hI hS)
theorem q_mono {Z0 Z1 : Option Value → qH → Prop} (hZ : ∀ v h, Z1 v h → Z0 v h) (k : qV l g M d n mc ms ce sl (qz g n mc ms Z1) pc lv st h) : qV l g M d n mc ms ce sl (qz g n mc ms Z0) pc lv st h := by
  intro p e s m args below meth c H locs ls hF hs hn hl hI hS
  intro T hT X
  obtain ⟨t, a, o1, b1, b2, ⟨v, h', c1, c2, c3⟩, b4⟩ := k p e s m args below meth c H locs ls hF hs hn hl hI hS T hT X
  exact ⟨t, a, o1, b1, b2, ⟨v, h', c1, hZ v h' c2, c3⟩, b4⟩
/-- the locals in another order, or fewer -/
theorem q_locals {lv' : List (Nat × Value)} (hv : ∀ q ∈ lv', q ∈ lv) (k : qV l g M d n mc ms ce sl Z pc lv' st h) : qV l g M d n mc ms ce sl Z pc lv st h := by
  intro p e s m args below meth c H locs ls hF hs hn hl hI hS
  refine k p e s m args below meth c H locs ls hF hs hn ⟨hl.1, hl.2.1, fun q hq => ?_⟩ hI hS
  obtain ⟨x, hx, rfl⟩ := List.mem_map.mp hq
  exact hl.2.2 _ (List.mem_map.mpr ⟨x, hv x hx, rfl⟩)
theorem q_ireturn {Z0 : Option Value → qH → Prop} {ty : FieldType} {v : Int32} (hd : decode M.2.1 pc = .ok (.ireturn, 1)) (hr : M.2.2.2 = some ty) (hv : narrow ty (.int v) = .int v) (hZ : Z0 (some (.int v)) h) : qV l g M d n mc ms mc ms (qz g n mc ms Z0) pc lv [.int v] h := by
  intro p e s m args below meth c H locs ls hF hs hn hl hI hS
  have hlk := hF.2.2.2.2.2.1
  exact W.zret (v := v) hF.1 hF.2.1 (hF.2.2.1.trans hr) hv (fun t ht _ => ⟨some (.int v), h, rfl, hZ, hn, by rw [ht]; exact hI, hS.F ht⟩) hS.2.2 hd
theorem q_lreturn {Z0 : Option Value → qH → Prop} {v : Int64} (hd : decode M.2.1 pc = .ok (.lreturn, 1)) (hr : M.2.2.2 = some .long) (hZ : Z0 (some (.long v)) h) : qV l g M d n mc ms mc ms (qz g n mc ms Z0) pc lv [.long v] h := by
  intro p e s m args below meth c H locs ls hF hs hn hl hI hS
  have hlk := hF.2.2.2.2.2.1
  exact W.lret (v := v) hF.1 hF.2.1 (hF.2.2.1.trans hr) (fun t ht _ => ⟨some (.long v), h, rfl, hZ, hn, by rw [ht]; exact hI, hS.F ht⟩) hS.2.2 hd
theorem q_return {Z0 : Option Value → qH → Prop} (hd : decode M.2.1 pc = .ok (.return_, 1)) (hr : M.2.2.2 = none) (hZ : Z0 none h) : qV l g M d n mc ms mc ms (qz g n mc ms Z0) pc lv [] h := by
  intro p e s m args below meth c H locs ls hF hs hn hl hI hS
  have hlk := hF.2.2.2.2.2.1
  exact W.vret hF.1 hF.2.1 (hF.2.2.1.trans hr) (fun t ht _ => ⟨none, h, rfl, hZ, hn, by rw [ht]; exact hI, hS.F ht⟩) hS.2.2 hd
theorem q_areturn {Z0 : Option Value → qH → Prop} {rt : FieldType} {a : Nat} (hd : decode M.2.1 pc = .ok (.areturn, 1)) (hr : M.2.2.2 = some rt) (hrt : (∃ n, rt = .object n) ∨ ∃ t, rt = .array t) (hZ : Z0 (some (.ref a)) h) : qV l g M d n mc ms mc ms (qz g n mc ms Z0) pc lv [.ref a] h := by
  intro p e s m args below meth c H locs ls hF hs hn hl hI hS
  have hlk := hF.2.2.2.2.2.1
  exact W.aret (v := .ref (qad g a)) hF.1 hF.2.1 (hF.2.2.1.trans hr) hrt (Or.inr ⟨_, rfl⟩) (fun t ht _ => ⟨some (.ref a), h, rfl, hZ, hn, by rw [ht]; exact hI, hS.F ht⟩) hS.2.2 hd
end QR
