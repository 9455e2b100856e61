section XR
variable {C : xCt} {M : xMt} {pc : Nat} {L : List (Option Value)} {st : List Value} {h : xH} {k n : Nat}
theorem ex_iconst {i : Int} {v : Int32} (hd : decode M.2.1 pc = .ok (.iconst i, 1)) (hv : Int32.ofInt i = v) (kk : Ex C M (pc + 1) L (.int v :: st) h k n) : Ex C M pc L (st) h k n :=
  fun p e s m args below meth c X H locs ls hL hR hS => lv_iconst X.1 X.2.1 hd hv (kk p e s m args below meth c X H locs ls hL hR hS)
theorem ex_bipush {i : Int} {v : Int32} (hd : decode M.2.1 pc = .ok (.bipush i, 2)) (hv : (Int8.ofInt i).toInt32 = v) (kk : Ex C M (pc + 2) L (.int v :: st) h k n) : Ex C M pc L (st) h k n :=
  fun p e s m args below meth c X H locs ls hL hR hS => lv_bipush X.1 X.2.1 hd hv (kk p e s m args below meth c X H locs ls hL hR hS)
theorem ex_sipush {i : Int} {v : Int32} (hd : decode M.2.1 pc = .ok (.sipush i, 3)) (hv : (Int16.ofInt i).toInt32 = v) (kk : Ex C M (pc + 3) L (.int v :: st) h k n) : Ex C M pc L (st) h k n :=
  fun p e s m args below meth c X H locs ls hL hR hS => lv_sipush X.1 X.2.1 hd hv (kk p e s m args below meth c X H locs ls hL hR hS)
theorem ex_lconst {i : Fin 2} {v : Int64} (hd : decode M.2.1 pc = .ok (.lconst i, 1)) (hv : Int64.ofNat (i : Nat) = v) (kk : Ex C M (pc + 1) L (.long v :: st) h k n) : Ex C M pc L (st) h k n :=
  fun p e s m args below meth c X H locs ls hL hR hS => lv_lconst X.1 X.2.1 hd hv (kk p e s m args below meth c X H locs ls hL hR hS)
theorem ex_null  (hd : decode M.2.1 pc = .ok (.aconst_null, 1)) (kk : Ex C M (pc + 1) L (.null :: st) h k n) : Ex C M pc L (st) h k n :=
  fun p e s m args below meth c X H locs ls hL hR hS => lv_null X.1 X.2.1 hd (kk p e s m args below meth c X H locs ls hL hR hS)
theorem ex_iload_n {i4 : Fin 4} {x : Int32} (hd : decode M.2.1 pc = .ok (.iload_n i4, 1)) (hl : L[(i4 : Nat)]? = some (some (.int x))) (kk : Ex C M (pc + 1) L (.int x :: st) h k n) : Ex C M pc L (st) h k n :=
  fun p e s m args below meth c X H locs ls hL hR hS => lv_iload_n X.1 X.2.1 hd rfl (hL.2.2 _ _ hl) (kk p e s m args below meth c X H locs ls hL hR hS)
theorem ex_iload {i : Nat} {x : Int32} (hd : decode M.2.1 pc = .ok (.iload i, 2)) (hl : L[i]? = some (some (.int x))) (kk : Ex C M (pc + 2) L (.int x :: st) h k n) : Ex C M pc L (st) h k n :=
  fun p e s m args below meth c X H locs ls hL hR hS => lv_iload X.1 X.2.1 hd (hL.2.2 _ _ hl) (kk p e s m args below meth c X H locs ls hL hR hS)
theorem ex_lload_n {i4 : Fin 4} {x : Int64} (hd : decode M.2.1 pc = .ok (.lload_n i4, 1)) (hl : L[(i4 : Nat)]? = some (some (.long x))) (kk : Ex C M (pc + 1) L (.long x :: st) h k n) : Ex C M pc L (st) h k n :=
  fun p e s m args below meth c X H locs ls hL hR hS => lv_lload_n X.1 X.2.1 hd rfl (hL.2.2 _ _ hl) (kk p e s m args below meth c X H locs ls hL hR hS)
theorem ex_lload {i : Nat} {x : Int64} (hd : decode M.2.1 pc = .ok (.lload i, 2)) (hl : L[i]? = some (some (.long x))) (kk : Ex C M (pc + 2) L (.long x :: st) h k n) : Ex C M pc L (st) h k n :=
  fun p e s m args below meth c X H locs ls hL hR hS => lv_lload X.1 X.2.1 hd (hL.2.2 _ _ hl) (kk p e s m args below meth c X H locs ls hL hR hS)
theorem ex_aload_n {i4 : Fin 4} {x : Nat} (hd : decode M.2.1 pc = .ok (.aload_n i4, 1)) (hl : L[(i4 : Nat)]? = some (some (.ref x))) (kk : Ex C M (pc + 1) L (.ref x :: st) h k n) : Ex C M pc L (st) h k n :=
  fun p e s m args below meth c X H locs ls hL hR hS => lv_aload_n X.1 X.2.1 hd rfl (hL.2.2 _ _ hl) (kk p e s m args below meth c X H locs ls hL hR hS)
theorem ex_aload {i : Nat} {x : Nat} (hd : decode M.2.1 pc = .ok (.aload i, 2)) (hl : L[i]? = some (some (.ref x))) (kk : Ex C M (pc + 2) L (.ref x :: st) h k n) : Ex C M pc L (st) h k n :=
  fun p e s m args below meth c X H locs ls hL hR hS => lv_aload X.1 X.2.1 hd (hL.2.2 _ _ hl) (kk p e s m args below meth c X H locs ls hL hR hS)
theorem ex_istore_n {i4 : Fin 4} {x : Int32} {L' : List (Option Value)} (hd : decode M.2.1 pc = .ok (.istore_n i4, 1)) (hn : (i4 : Nat) < M.2.2.1) (hl : xset1 L (i4 : Nat) (.int x) = L') (kk : Ex C M (pc + 1) L' st h k n) : Ex C M pc L (.int x :: st) h k n := by
  subst hl
  intro p e s m args below meth c X H locs ls hL hR hS
  refine lv_istore_n X.1 X.2.1 hd rfl (xL_has hL) hn rfl (fun ls2 h2 => ?_)
  exact kk p e s m args below meth c X H locs ls2 (xL_of1 h2) hR hS
theorem ex_istore {i : Nat} {x : Int32} {L' : List (Option Value)} (hd : decode M.2.1 pc = .ok (.istore i, 2)) (hn : i < M.2.2.1) (hl : xset1 L i (.int x) = L') (kk : Ex C M (pc + 2) L' st h k n) : Ex C M pc L (.int x :: st) h k n := by
  subst hl
  intro p e s m args below meth c X H locs ls hL hR hS
  refine lv_istore X.1 X.2.1 hd (xL_has hL) hn rfl (fun ls2 h2 => ?_)
  exact kk p e s m args below meth c X H locs ls2 (xL_of1 h2) hR hS
theorem ex_astore_n {i4 : Fin 4} {x : Nat} {L' : List (Option Value)} (hd : decode M.2.1 pc = .ok (.astore_n i4, 1)) (hn : (i4 : Nat) < M.2.2.1) (hl : xset1 L (i4 : Nat) (.ref x) = L') (kk : Ex C M (pc + 1) L' st h k n) : Ex C M pc L (.ref x :: st) h k n := by
  subst hl
  intro p e s m args below meth c X H locs ls hL hR hS
  refine lv_astore_n X.1 X.2.1 hd rfl (xL_has hL) hn rfl (fun ls2 h2 => ?_)
  exact kk p e s m args below meth c X H locs ls2 (xL_of1 h2) hR hS
theorem ex_astore {i : Nat} {x : Nat} {L' : List (Option Value)} (hd : decode M.2.1 pc = .ok (.astore i, 2)) (hn : i < M.2.2.1) (hl : xset1 L i (.ref x) = L') (kk : Ex C M (pc + 2) L' st h k n) : Ex C M pc L (.ref x :: st) h k n := by
  subst hl
  intro p e s m args below meth c X H locs ls hL hR hS
  refine lv_astore X.1 X.2.1 hd (xL_has hL) hn rfl (fun ls2 h2 => ?_)
  exact kk p e s m args below meth c X H locs ls2 (xL_of1 h2) hR hS
theorem ex_lstore_n {i4 : Fin 4} {x : Int64} {L' : List (Option Value)} (hd : decode M.2.1 pc = .ok (.lstore_n i4, 1)) (hn : (i4 : Nat) + 1 < M.2.2.1) (hl : xset2 L (i4 : Nat) (.long x) = L') (kk : Ex C M (pc + 1) L' st h k n) : Ex C M pc L (.long x :: st) h k n := by
  subst hl
  intro p e s m args below meth c X H locs ls hL hR hS
  refine lv_lstore_n X.1 X.2.1 hd rfl (xL_has hL) hn rfl (fun ls2 h2 => ?_)
  exact kk p e s m args below meth c X H locs ls2 (xL_of2 h2) hR hS
theorem ex_lstore {i : Nat} {x : Int64} {L' : List (Option Value)} (hd : decode M.2.1 pc = .ok (.lstore i, 2)) (hn : i + 1 < M.2.2.1) (hl : xset2 L i (.long x) = L') (kk : Ex C M (pc + 2) L' st h k n) : Ex C M pc L (.long x :: st) h k n := by
  subst hl
  intro p e s m args below meth c X H locs ls hL hR hS
  refine lv_lstore X.1 X.2.1 hd (xL_has hL) hn rfl (fun ls2 h2 => ?_)
  exact kk p e s m args below meth c X H locs ls2 (xL_of2 h2) hR hS
theorem ex_iinc {i : Nat} {z : Int} {x v : Int32} {L' : List (Option Value)} (hd : decode M.2.1 pc = .ok (.iinc i z, 3)) (hx : L[i]? = some (some (.int x))) (hv : x + Int32.ofInt z = v) (hn : i < M.2.2.1) (hl : xset1 L i (.int v) = L') (kk : Ex C M (pc + 3) L' st h k n) : Ex C M pc L st h k n := by
  subst hl
  intro p e s m args below meth c X H locs ls hL hR hS
  obtain ⟨j, hj⟩ := xL_ix hx
  refine lv_iinc (k := j) X.1 X.2.1 hd (xL_has hL) hj hv hn rfl (fun ls2 h2 => ?_)
  exact kk p e s m args below meth c X H locs ls2 (xL_of1 h2) hR hS
theorem ex_iadd {x y : Int32} (hd : decode M.2.1 pc = .ok (.iadd, 1)) (kk : Ex C M (pc + 1) L (.int (x + y) :: st) h k n) : Ex C M pc L (.int y :: .int x :: st) h k n :=
  fun p e s m args below meth c X H locs ls hL hR hS => lv_iadd X.1 X.2.1 hd (kk p e s m args below meth c X H locs ls hL hR hS)
theorem ex_isub {x y : Int32} (hd : decode M.2.1 pc = .ok (.isub, 1)) (kk : Ex C M (pc + 1) L (.int (x - y) :: st) h k n) : Ex C M pc L (.int y :: .int x :: st) h k n :=
  fun p e s m args below meth c X H locs ls hL hR hS => lv_isub X.1 X.2.1 hd (kk p e s m args below meth c X H locs ls hL hR hS)
theorem ex_imul {x y : Int32} (hd : decode M.2.1 pc = .ok (.imul, 1)) (kk : Ex C M (pc + 1) L (.int (x * y) :: st) h k n) : Ex C M pc L (.int y :: .int x :: st) h k n :=
  fun p e s m args below meth c X H locs ls hL hR hS => lv_imul X.1 X.2.1 hd (kk p e s m args below meth c X H locs ls hL hR hS)
theorem ex_iand {x y : Int32} (hd : decode M.2.1 pc = .ok (.iand, 1)) (kk : Ex C M (pc + 1) L (.int (x &&& y) :: st) h k n) : Ex C M pc L (.int y :: .int x :: st) h k n :=
  fun p e s m args below meth c X H locs ls hL hR hS => lv_iand X.1 X.2.1 hd (kk p e s m args below meth c X H locs ls hL hR hS)
theorem ex_ior {x y : Int32} (hd : decode M.2.1 pc = .ok (.ior, 1)) (kk : Ex C M (pc + 1) L (.int (x ||| y) :: st) h k n) : Ex C M pc L (.int y :: .int x :: st) h k n :=
  fun p e s m args below meth c X H locs ls hL hR hS => lv_ior X.1 X.2.1 hd (kk p e s m args below meth c X H locs ls hL hR hS)
theorem ex_ixor {x y : Int32} (hd : decode M.2.1 pc = .ok (.ixor, 1)) (kk : Ex C M (pc + 1) L (.int (x ^^^ y) :: st) h k n) : Ex C M pc L (.int y :: .int x :: st) h k n :=
  fun p e s m args below meth c X H locs ls hL hR hS => lv_ixor X.1 X.2.1 hd (kk p e s m args below meth c X H locs ls hL hR hS)
theorem ex_ishl {x y : Int32} (hd : decode M.2.1 pc = .ok (.ishl, 1)) (kk : Ex C M (pc + 1) L (.int (x <<< (y &&& 31)) :: st) h k n) : Ex C M pc L (.int y :: .int x :: st) h k n :=
  fun p e s m args below meth c X H locs ls hL hR hS => lv_ishl X.1 X.2.1 hd (kk p e s m args below meth c X H locs ls hL hR hS)
theorem ex_ishr {x y : Int32} (hd : decode M.2.1 pc = .ok (.ishr, 1)) (kk : Ex C M (pc + 1) L (.int (x >>> (y &&& 31)) :: st) h k n) : Ex C M pc L (.int y :: .int x :: st) h k n :=
  fun p e s m args below meth c X H locs ls hL hR hS => lv_ishr X.1 X.2.1 hd (kk p e s m args below meth c X H locs ls hL hR hS)
theorem ex_ineg {x : Int32} (hd : decode M.2.1 pc = .ok (.ineg, 1)) (kk : Ex C M (pc + 1) L (.int (-x) :: st) h k n) : Ex C M pc L (.int x :: st) h k n :=
  fun p e s m args below meth c X H locs ls hL hR hS => lv_ineg X.1 X.2.1 hd (kk p e s m args below meth c X H locs ls hL hR hS)
theorem ex_idiv {x y : Int32} (hd : decode M.2.1 pc = .ok (.idiv, 1)) (hy : ¬ y = 0) (kk : Ex C M (pc + 1) L (.int (x / y) :: st) h k n) : Ex C M pc L (.int y :: .int x :: st) h k n :=
  fun p e s m args below meth c X H locs ls hL hR hS => lv_idiv X.1 X.2.1 hd hy (kk p e s m args below meth c X H locs ls hL hR hS)
theorem ex_irem {x y : Int32} (hd : decode M.2.1 pc = .ok (.irem, 1)) (hy : ¬ y = 0) (kk : Ex C M (pc + 1) L (.int (x - x / y * y) :: st) h k n) : Ex C M pc L (.int y :: .int x :: st) h k n :=
  fun p e s m args below meth c X H locs ls hL hR hS => lv_irem X.1 X.2.1 hd hy (kk p e s m args below meth c X H locs ls hL hR hS)
theorem ex_ladd {x y : Int64} (hd : decode M.2.1 pc = .ok (.ladd, 1)) (kk : Ex C M (pc + 1) L (.long (x + y) :: st) h k n) : Ex C M pc L (.long y :: .long x :: st) h k n :=
  fun p e s m args below meth c X H locs ls hL hR hS => lv_ladd X.1 X.2.1 hd (kk p e s m args below meth c X H locs ls hL hR hS)
theorem ex_lsub {x y : Int64} (hd : decode M.2.1 pc = .ok (.lsub, 1)) (kk : Ex C M (pc + 1) L (.long (x - y) :: st) h k n) : Ex C M pc L (.long y :: .long x :: st) h k n :=
  fun p e s m args below meth c X H locs ls hL hR hS => lv_lsub X.1 X.2.1 hd (kk p e s m args below meth c X H locs ls hL hR hS)
theorem ex_lmul {x y : Int64} (hd : decode M.2.1 pc = .ok (.lmul, 1)) (kk : Ex C M (pc + 1) L (.long (x * y) :: st) h k n) : Ex C M pc L (.long y :: .long x :: st) h k n :=
  fun p e s m args below meth c X H locs ls hL hR hS => lv_lmul X.1 X.2.1 hd (kk p e s m args below meth c X H locs ls hL hR hS)
theorem ex_land {x y : Int64} (hd : decode M.2.1 pc = .ok (.land, 1)) (kk : Ex C M (pc + 1) L (.long (x &&& y) :: st) h k n) : Ex C M pc L (.long y :: .long x :: st) h k n :=
  fun p e s m args below meth c X H locs ls hL hR hS => lv_land X.1 X.2.1 hd (kk p e s m args below meth c X H locs ls hL hR hS)
theorem ex_lor {x y : Int64} (hd : decode M.2.1 pc = .ok (.lor, 1)) (kk : Ex C M (pc + 1) L (.long (x ||| y) :: st) h k n) : Ex C M pc L (.long y :: .long x :: st) h k n :=
  fun p e s m args below meth c X H locs ls hL hR hS => lv_lor X.1 X.2.1 hd (kk p e s m args below meth c X H locs ls hL hR hS)
theorem ex_lxor {x y : Int64} (hd : decode M.2.1 pc = .ok (.lxor, 1)) (kk : Ex C M (pc + 1) L (.long (x ^^^ y) :: st) h k n) : Ex C M pc L (.long y :: .long x :: st) h k n :=
  fun p e s m args below meth c X H locs ls hL hR hS => lv_lxor X.1 X.2.1 hd (kk p e s m args below meth c X H locs ls hL hR hS)
theorem ex_lcmp {x y : Int64} (hd : decode M.2.1 pc = .ok (.lcmp, 1)) (kk : Ex C M (pc + 1) L (.int (lg_cmp x y) :: st) h k n) : Ex C M pc L (.long y :: .long x :: st) h k n :=
  fun p e s m args below meth c X H locs ls hL hR hS => W.lcmp X.1 X.2.1 hd (kk p e s m args below meth c X H locs ls hL hR hS)
theorem ex_i2l {x : Int32} (hd : decode M.2.1 pc = .ok (.i2l, 1)) (kk : Ex C M (pc + 1) L (.long x.toInt64 :: st) h k n) : Ex C M pc L (.int x :: st) h k n :=
  fun p e s m args below meth c X H locs ls hL hR hS => lv_i2l X.1 X.2.1 hd rfl (kk p e s m args below meth c X H locs ls hL hR hS)
theorem ex_l2i {x : Int64} (hd : decode M.2.1 pc = .ok (.l2i, 1)) (kk : Ex C M (pc + 1) L (.int x.toInt32 :: st) h k n) : Ex C M pc L (.long x :: st) h k n :=
  fun p e s m args below meth c X H locs ls hL hR hS => lv_l2i X.1 X.2.1 hd rfl (kk p e s m args below meth c X H locs ls hL hR hS)
theorem ex_lshl {x : Int64} {y : Int32} (hd : decode M.2.1 pc = .ok (.lshl, 1)) (kk : Ex C M (pc + 1) L (.long (x <<< (y.toInt64 &&& 63)) :: st) h k n) : Ex C M pc L (.int y :: .long x :: st) h k n :=
  fun p e s m args below meth c X H locs ls hL hR hS => lv_lshl X.1 X.2.1 hd rfl (kk p e s m args below meth c X H locs ls hL hR hS)
theorem ex_lshr {x : Int64} {y : Int32} (hd : decode M.2.1 pc = .ok (.lshr, 1)) (kk : Ex C M (pc + 1) L (.long (x >>> (y.toInt64 &&& 63)) :: st) h k n) : Ex C M pc L (.int y :: .long x :: st) h k n :=
  fun p e s m args below meth c X H locs ls hL hR hS => lv_lshr X.1 X.2.1 hd rfl (kk p e s m args below meth c X H locs ls hL hR hS)
theorem ex_dup {v : Value} (hd : decode M.2.1 pc = .ok (.dup, 1)) (hv : v.category = 1) (kk : Ex C M (pc + 1) L (v :: v :: st) h k n) : Ex C M pc L (v :: st) h k n :=
  fun p e s m args below meth c X H locs ls hL hR hS => lv_dup X.1 X.2.1 hd hv (kk p e s m args below meth c X H locs ls hL hR hS)
theorem ex_pop {v : Value} (hd : decode M.2.1 pc = .ok (.pop, 1)) (hv : v.category = 1) (kk : Ex C M (pc + 1) L (st) h k n) : Ex C M pc L (v :: st) h k n :=
  fun p e s m args below meth c X H locs ls hL hR hS => lv_pop X.1 X.2.1 hd hv (kk p e s m args below meth c X H locs ls hL hR hS)
theorem ex_dup_x1 {v w : Value} (hd : decode M.2.1 pc = .ok (.dup_x1, 1)) (hv : v.category = 1) (hw : w.category = 1) (kk : Ex C M (pc + 1) L (v :: w :: v :: st) h k n) : Ex C M pc L (v :: w :: st) h k n :=
  fun p e s m args below meth c X H locs ls hL hR hS => lv_dup_x1 X.1 X.2.1 hd hv hw (kk p e s m args below meth c X H locs ls hL hR hS)
theorem ex_dup_x2 {v w z : Value} (hd : decode M.2.1 pc = .ok (.dup_x2, 1)) (hv : v.category = 1) (hw : w.category = 1) (hz : z.category = 1) (kk : Ex C M (pc + 1) L (v :: w :: z :: v :: st) h k n) : Ex C M pc L (v :: w :: z :: st) h k n :=
  fun p e s m args below meth c X H locs ls hL hR hS => lv_dup_x2 X.1 X.2.1 hd hv hw hz (kk p e s m args below meth c X H locs ls hL hR hS)
theorem ex_dup2 {v w : Value} (hd : decode M.2.1 pc = .ok (.dup2, 1)) (hv : v.category = 1) (hw : w.category = 1) (kk : Ex C M (pc + 1) L (v :: w :: v :: w :: st) h k n) : Ex C M pc L (v :: w :: st) h k n :=
  fun p e s m args below meth c X H locs ls hL hR hS => lv_dup2_11 X.1 X.2.1 hd hv hw (kk p e s m args below meth c X H locs ls hL hR hS)
theorem ex_if_eq {x : Int32} {off : Int} {tgt : Nat} (hd : decode M.2.1 pc = .ok (.ifCond .eq off, 3)) (ht : (pc : Int) + off = (tgt : Int)) (kt : x = 0 → Ex C M tgt L st h k n) (kf : ¬ (x = 0) → Ex C M (pc + 3) L st h k n) : Ex C M pc L (.int x :: st) h k n :=
  fun p e s m args below meth c X H locs ls hL hR hS => lv_if_eq X.1 X.2.1 hd ht (fun q => kt q p e s m args below meth c X H locs ls hL hR hS) (fun q => kf q p e s m args below meth c X H locs ls hL hR hS)
theorem ex_if_ne {x : Int32} {off : Int} {tgt : Nat} (hd : decode M.2.1 pc = .ok (.ifCond .ne off, 3)) (ht : (pc : Int) + off = (tgt : Int)) (kt : ¬ x = 0 → Ex C M tgt L st h k n) (kf : x = 0 → Ex C M (pc + 3) L st h k n) : Ex C M pc L (.int x :: st) h k n :=
  fun p e s m args below meth c X H locs ls hL hR hS => lv_if_ne X.1 X.2.1 hd ht (fun q => kt q p e s m args below meth c X H locs ls hL hR hS) (fun q => kf q p e s m args below meth c X H locs ls hL hR hS)
theorem ex_if_lt {x : Int32} {off : Int} {tgt : Nat} (hd : decode M.2.1 pc = .ok (.ifCond .lt off, 3)) (ht : (pc : Int) + off = (tgt : Int)) (kt : x < 0 → Ex C M tgt L st h k n) (kf : ¬ (x < 0) → Ex C M (pc + 3) L st h k n) : Ex C M pc L (.int x :: st) h k n :=
  fun p e s m args below meth c X H locs ls hL hR hS => lv_if_lt X.1 X.2.1 hd ht (fun q => kt q p e s m args below meth c X H locs ls hL hR hS) (fun q => kf q p e s m args below meth c X H locs ls hL hR hS)
theorem ex_if_ge {x : Int32} {off : Int} {tgt : Nat} (hd : decode M.2.1 pc = .ok (.ifCond .ge off, 3)) (ht : (pc : Int) + off = (tgt : Int)) (kt : 0 ≤ x → Ex C M tgt L st h k n) (kf : ¬ (0 ≤ x) → Ex C M (pc + 3) L st h k n) : Ex C M pc L (.int x :: st) h k n :=
  fun p e s m args below meth c X H locs ls hL hR hS => lv_if_ge X.1 X.2.1 hd ht (fun q => kt q p e s m args below meth c X H locs ls hL hR hS) (fun q => kf q p e s m args below meth c X H locs ls hL hR hS)
theorem ex_if_gt {x : Int32} {off : Int} {tgt : Nat} (hd : decode M.2.1 pc = .ok (.ifCond .gt off, 3)) (ht : (pc : Int) + off = (tgt : Int)) (kt : 0 < x → Ex C M tgt L st h k n) (kf : ¬ (0 < x) → Ex C M (pc + 3) L st h k n) : Ex C M pc L (.int x :: st) h k n :=
  fun p e s m args below meth c X H locs ls hL hR hS => lv_if_gt X.1 X.2.1 hd ht (fun q => kt q p e s m args below meth c X H locs ls hL hR hS) (fun q => kf q p e s m args below meth c X H locs ls hL hR hS)
theorem ex_if_le {x : Int32} {off : Int} {tgt : Nat} (hd : decode M.2.1 pc = .ok (.ifCond .le off, 3)) (ht : (pc : Int) + off = (tgt : Int)) (kt : x ≤ 0 → Ex C M tgt L st h k n) (kf : ¬ (x ≤ 0) → Ex C M (pc + 3) L st h k n) : Ex C M pc L (.int x :: st) h k n :=
  fun p e s m args below meth c X H locs ls hL hR hS => lv_if_le X.1 X.2.1 hd ht (fun q => kt q p e s m args below meth c X H locs ls hL hR hS) (fun q => kf q p e s m args below meth c X H locs ls hL hR hS)
theorem ex_icmp_eq {x y : Int32} {off : Int} {tgt : Nat} (hd : decode M.2.1 pc = .ok (.if_icmp .eq off, 3)) (ht : (pc : Int) + off = (tgt : Int)) (kt : x = y → Ex C M tgt L st h k n) (kf : ¬ (x = y) → Ex C M (pc + 3) L st h k n) : Ex C M pc L (.int y :: .int x :: st) h k n :=
  fun p e s m args below meth c X H locs ls hL hR hS => lv_icmp_eq X.1 X.2.1 hd ht (fun q => kt q p e s m args below meth c X H locs ls hL hR hS) (fun q => kf q p e s m args below meth c X H locs ls hL hR hS)
theorem ex_icmp_ne {x y : Int32} {off : Int} {tgt : Nat} (hd : decode M.2.1 pc = .ok (.if_icmp .ne off, 3)) (ht : (pc : Int) + off = (tgt : Int)) (kt : ¬ x = y → Ex C M tgt L st h k n) (kf : x = y → Ex C M (pc + 3) L st h k n) : Ex C M pc L (.int y :: .int x :: st) h k n :=
  fun p e s m args below meth c X H locs ls hL hR hS => lv_icmp_ne X.1 X.2.1 hd ht (fun q => kt q p e s m args below meth c X H locs ls hL hR hS) (fun q => kf q p e s m args below meth c X H locs ls hL hR hS)
theorem ex_icmp_lt {x y : Int32} {off : Int} {tgt : Nat} (hd : decode M.2.1 pc = .ok (.if_icmp .lt off, 3)) (ht : (pc : Int) + off = (tgt : Int)) (kt : x < y → Ex C M tgt L st h k n) (kf : ¬ (x < y) → Ex C M (pc + 3) L st h k n) : Ex C M pc L (.int y :: .int x :: st) h k n :=
  fun p e s m args below meth c X H locs ls hL hR hS => lv_icmp_lt X.1 X.2.1 hd ht (fun q => kt q p e s m args below meth c X H locs ls hL hR hS) (fun q => kf q p e s m args below meth c X H locs ls hL hR hS)
theorem ex_icmp_ge {x y : Int32} {off : Int} {tgt : Nat} (hd : decode M.2.1 pc = .ok (.if_icmp .ge off, 3)) (ht : (pc : Int) + off = (tgt : Int)) (kt : y ≤ x → Ex C M tgt L st h k n) (kf : ¬ (y ≤ x) → Ex C M (pc + 3) L st h k n) : Ex C M pc L (.int y :: .int x :: st) h k n :=
  fun p e s m args below meth c X H locs ls hL hR hS => lv_icmp_ge X.1 X.2.1 hd ht (fun q => kt q p e s m args below meth c X H locs ls hL hR hS) (fun q => kf q p e s m args below meth c X H locs ls hL hR hS)
theorem ex_icmp_gt {x y : Int32} {off : Int} {tgt : Nat} (hd : decode M.2.1 pc = .ok (.if_icmp .gt off, 3)) (ht : (pc : Int) + off = (tgt : Int)) (kt : y < x → Ex C M tgt L st h k n) (kf : ¬ (y < x) → Ex C M (pc + 3) L st h k n) : Ex C M pc L (.int y :: .int x :: st) h k n :=
  fun p e s m args below meth c X H locs ls hL hR hS => lv_icmp_gt X.1 X.2.1 hd ht (fun q => kt q p e s m args below meth c X H locs ls hL hR hS) (fun q => kf q p e s m args below meth c X H locs ls hL hR hS)
theorem ex_icmp_le {x y : Int32} {off : Int} {tgt : Nat} (hd : decode M.2.1 pc = .ok (.if_icmp .le off, 3)) (ht : (pc : Int) + off = (tgt : Int)) (kt : x ≤ y → Ex C M tgt L st h k n) (kf : ¬ (x ≤ y) → Ex C M (pc + 3) L st h k n) : Ex C M pc L (.int y :: .int x :: st) h k n :=
  fun p e s m args below meth c X H locs ls hL hR hS => lv_icmp_le X.1 X.2.1 hd ht (fun q => kt q p e s m args below meth c X H locs ls hL hR hS) (fun q => kf q p e s m args below meth c X H locs ls hL hR hS)
theorem ex_goto {off : Int} {tgt : Nat} (hd : decode M.2.1 pc = .ok (.goto off, 3)) (ht : (pc : Int) + off = (tgt : Int)) (kk : Ex C M tgt L st h k n) : Ex C M pc L st h k n :=
  fun p e s m args below meth c X H locs ls hL hR hS => lv_goto X.1 X.2.1 hd ht (kk p e s m args below meth c X H locs ls hL hR hS)
theorem ex_tableIn {dflt lo hi : Int} {offs : Array Int} {len : Nat} {x : Int32} {off : Int} {tgt : Nat} (hd : decode M.2.1 pc = .ok (.tableswitch dflt lo hi offs, len)) (h1 : ¬ x.toInt < lo) (h2 : ¬ hi < x.toInt) (ho : offs[(x.toInt - lo).toNat]? = some off) (ht : (pc : Int) + off = (tgt : Int)) (kk : Ex C M tgt L st h k n) : Ex C M pc L (.int x :: st) h k n :=
  fun p e s m args below meth c X H locs ls hL hR hS => lv_tableIn X.1 X.2.1 hd h1 h2 ho ht (kk p e s m args below meth c X H locs ls hL hR hS)
theorem ex_tableOut {dflt lo hi : Int} {offs : Array Int} {len : Nat} {x : Int32} {tgt : Nat} (hd : decode M.2.1 pc = .ok (.tableswitch dflt lo hi offs, len)) (h1 : x.toInt < lo ∨ hi < x.toInt) (ht : (pc : Int) + dflt = (tgt : Int)) (kk : Ex C M tgt L st h k n) : Ex C M pc L (.int x :: st) h k n :=
  fun p e s m args below meth c X H locs ls hL hR hS => lv_tableOut X.1 X.2.1 hd h1 ht (kk p e s m args below meth c X H locs ls hL hR hS)
theorem ex_lookup {dflt : Int} {ps : Array (Int × Int)} {len : Nat} {x : Int32} {off : Int} {tgt : Nat} (hd : decode M.2.1 pc = .ok (.lookupswitch dflt ps, len)) (hp : (ps.toList.zip (ps.toList.drop 1)).all (fun (a, next) => a.1 < next.1) = true) (ho : Op.lookupswitch.offset ps.toList dflt x.toInt = off) (ht : (pc : Int) + off = (tgt : Int)) (kk : Ex C M tgt L st h k n) : Ex C M pc L (.int x :: st) h k n :=
  fun p e s m args below meth c X H locs ls hL hR hS => lv_lookup X.1 X.2.1 hd hp ho ht (kk p e s m args below meth c X H locs ls hL hR hS)
/-- a number on the stack, under another form -/
theorem ex_topi {x y : Int32} (e : x = y) (kk : Ex C M pc L (.int y :: st) h k n) : Ex C M pc L (.int x :: st) h k n := e ▸ kk
end XR
