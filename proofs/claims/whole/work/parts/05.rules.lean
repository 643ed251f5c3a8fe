/-! rules of wp, an instruction each (printed by wip/whole/p05.py) -/
section Rules
variable {d M : Nat} {Q : Option AV → Hp → Prop} {kc ks pc pc' : Nat} {ls ls' : List (Nat × AV)} {st : List AV} {h : Hp}
theorem r_iconst {n : Int} {v : Int32} (hd : fet M pc = .ok (.iconst n, 1)) (hp : pc + 1 = pc') (hv : Int32.ofInt n = v) (kk : wp d M Q kc ks pc' ls (vI v :: st) h) : wp d M Q kc ks pc ls (st) h := by
  subst hp
  intro p l e R s m args below meth c A Z E ad H locs lsC K G D hl g1 g2
  exact lv_iconst K.1 K.2.1 hd hv (kk p l e R s m args below meth c A Z E ad H locs lsC K G D hl g1 g2)
theorem r_bipush {n : Int} {v : Int32} (hd : fet M pc = .ok (.bipush n, 2)) (hp : pc + 2 = pc') (hv : (Int8.ofInt n).toInt32 = v) (kk : wp d M Q kc ks pc' ls (vI v :: st) h) : wp d M Q kc ks pc ls (st) h := by
  subst hp
  intro p l e R s m args below meth c A Z E ad H locs lsC K G D hl g1 g2
  exact lv_bipush K.1 K.2.1 hd hv (kk p l e R s m args below meth c A Z E ad H locs lsC K G D hl g1 g2)
theorem r_sipush {n : Int} {v : Int32} (hd : fet M pc = .ok (.sipush n, 3)) (hp : pc + 3 = pc') (hv : (Int16.ofInt n).toInt32 = v) (kk : wp d M Q kc ks pc' ls (vI v :: st) h) : wp d M Q kc ks pc ls (st) h := by
  subst hp
  intro p l e R s m args below meth c A Z E ad H locs lsC K G D hl g1 g2
  exact lv_sipush K.1 K.2.1 hd hv (kk p l e R s m args below meth c A Z E ad H locs lsC K G D hl g1 g2)
theorem r_ldc {n : Nat} {v : Int32} (hd : fet M pc = .ok (.ldc n, 2)) (hp : pc + 2 = pc') (hc : Cond.constant (own M) n v ∈ TBL) (kk : wp d M Q kc ks pc' ls (vI v :: st) h) : wp d M Q kc ks pc ls (st) h := by
  subst hp
  intro p l e R s m args below meth c A Z E ad H locs lsC K G D hl g1 g2
  exact lv_ldc K.1 K.2.1 K.2.2.2.1 (K.2.2.2.2.1 _ hc) hd (kk p l e R s m args below meth c A Z E ad H locs lsC K G D hl g1 g2)
theorem r_ldcw {n : Nat} {v : Int32} (hd : fet M pc = .ok (.ldc_w n, 3)) (hp : pc + 3 = pc') (hc : Cond.constant (own M) n v ∈ TBL) (kk : wp d M Q kc ks pc' ls (vI v :: st) h) : wp d M Q kc ks pc ls (st) h := by
  subst hp
  intro p l e R s m args below meth c A Z E ad H locs lsC K G D hl g1 g2
  exact lv_ldcw K.1 K.2.1 K.2.2.2.1 (K.2.2.2.2.1 _ hc) hd (kk p l e R s m args below meth c A Z E ad H locs lsC K G D hl g1 g2)
theorem r_null  (hd : fet M pc = .ok (.aconst_null, 1)) (hp : pc + 1 = pc')  (kk : wp d M Q kc ks pc' ls (vR none :: st) h) : wp d M Q kc ks pc ls (st) h := by
  subst hp
  intro p l e R s m args below meth c A Z E ad H locs lsC K G D hl g1 g2
  exact lv_null K.1 K.2.1 hd (kk p l e R s m args below meth c A Z E ad H locs lsC K G D hl g1 g2)
theorem r_iload_n {k : Fin 4} {i : Nat} {x : Int32} (hd : fet M pc = .ok (.iload_n k, 1)) (hp : pc + 1 = pc') (hi0 : (k : Nat) = i) (hk : lk ls i = some (vI x)) (kk : wp d M Q kc ks pc' ls (vI x :: st) h) : wp d M Q kc ks pc ls (st) h := by
  subst hp
  intro p l e R s m args below meth c A Z E ad H locs lsC K G D hl g1 g2
  exact lv_iload_n K.1 K.2.1 hd hi0 (lc_lk hl hk) (kk p l e R s m args below meth c A Z E ad H locs lsC K G D hl g1 g2)
theorem r_iload {i : Nat} {x : Int32} (hd : fet M pc = .ok (.iload i, 2)) (hp : pc + 2 = pc') (hk : lk ls i = some (vI x)) (kk : wp d M Q kc ks pc' ls (vI x :: st) h) : wp d M Q kc ks pc ls (st) h := by
  subst hp
  intro p l e R s m args below meth c A Z E ad H locs lsC K G D hl g1 g2
  exact lv_iload K.1 K.2.1 hd (lc_lk hl hk) (kk p l e R s m args below meth c A Z E ad H locs lsC K G D hl g1 g2)
theorem r_aload_n {k : Fin 4} {i : Nat} {x : Nat} (hd : fet M pc = .ok (.aload_n k, 1)) (hp : pc + 1 = pc') (hi0 : (k : Nat) = i) (hk : lk ls i = some (vR (some x))) (kk : wp d M Q kc ks pc' ls (vR (some x) :: st) h) : wp d M Q kc ks pc ls (st) h := by
  subst hp
  intro p l e R s m args below meth c A Z E ad H locs lsC K G D hl g1 g2
  exact lv_aload_n K.1 K.2.1 hd hi0 (lc_lk hl hk) (kk p l e R s m args below meth c A Z E ad H locs lsC K G D hl g1 g2)
theorem r_aload {i : Nat} {x : Nat} (hd : fet M pc = .ok (.aload i, 2)) (hp : pc + 2 = pc') (hk : lk ls i = some (vR (some x))) (kk : wp d M Q kc ks pc' ls (vR (some x) :: st) h) : wp d M Q kc ks pc ls (st) h := by
  subst hp
  intro p l e R s m args below meth c A Z E ad H locs lsC K G D hl g1 g2
  exact lv_aload K.1 K.2.1 hd (lc_lk hl hk) (kk p l e R s m args below meth c A Z E ad H locs lsC K G D hl g1 g2)
theorem r_aload_nN {k : Fin 4} {i : Nat} (hd : fet M pc = .ok (.aload_n k, 1)) (hp : pc + 1 = pc') (hi0 : (k : Nat) = i) (hk : lk ls i = some (vR none)) (kk : wp d M Q kc ks pc' ls (vR none :: st) h) : wp d M Q kc ks pc ls (st) h := by
  subst hp
  intro p l e R s m args below meth c A Z E ad H locs lsC K G D hl g1 g2
  exact lv_aload_nN K.1 K.2.1 hd hi0 (lc_lk hl hk) (kk p l e R s m args below meth c A Z E ad H locs lsC K G D hl g1 g2)
theorem r_aloadN {i : Nat} (hd : fet M pc = .ok (.aload i, 2)) (hp : pc + 2 = pc') (hk : lk ls i = some (vR none)) (kk : wp d M Q kc ks pc' ls (vR none :: st) h) : wp d M Q kc ks pc ls (st) h := by
  subst hp
  intro p l e R s m args below meth c A Z E ad H locs lsC K G D hl g1 g2
  exact lv_aloadN K.1 K.2.1 hd (lc_lk hl hk) (kk p l e R s m args below meth c A Z E ad H locs lsC K G D hl g1 g2)
theorem r_iadd {x y : Int32} (hd : fet M pc = .ok (.iadd, 1)) (hp : pc + 1 = pc')  (kk : wp d M Q kc ks pc' ls (vI (x + y) :: st) h) : wp d M Q kc ks pc ls (vI y :: vI x :: st) h := by
  subst hp
  intro p l e R s m args below meth c A Z E ad H locs lsC K G D hl g1 g2
  exact lv_iadd K.1 K.2.1 hd (kk p l e R s m args below meth c A Z E ad H locs lsC K G D hl g1 g2)
theorem r_isub {x y : Int32} (hd : fet M pc = .ok (.isub, 1)) (hp : pc + 1 = pc')  (kk : wp d M Q kc ks pc' ls (vI (x - y) :: st) h) : wp d M Q kc ks pc ls (vI y :: vI x :: st) h := by
  subst hp
  intro p l e R s m args below meth c A Z E ad H locs lsC K G D hl g1 g2
  exact lv_isub K.1 K.2.1 hd (kk p l e R s m args below meth c A Z E ad H locs lsC K G D hl g1 g2)
theorem r_imul {x y : Int32} (hd : fet M pc = .ok (.imul, 1)) (hp : pc + 1 = pc')  (kk : wp d M Q kc ks pc' ls (vI (x * y) :: st) h) : wp d M Q kc ks pc ls (vI y :: vI x :: st) h := by
  subst hp
  intro p l e R s m args below meth c A Z E ad H locs lsC K G D hl g1 g2
  exact lv_imul K.1 K.2.1 hd (kk p l e R s m args below meth c A Z E ad H locs lsC K G D hl g1 g2)
theorem r_iand {x y : Int32} (hd : fet M pc = .ok (.iand, 1)) (hp : pc + 1 = pc')  (kk : wp d M Q kc ks pc' ls (vI (x &&& y) :: st) h) : wp d M Q kc ks pc ls (vI y :: vI x :: st) h := by
  subst hp
  intro p l e R s m args below meth c A Z E ad H locs lsC K G D hl g1 g2
  exact lv_iand K.1 K.2.1 hd (kk p l e R s m args below meth c A Z E ad H locs lsC K G D hl g1 g2)
theorem r_ior {x y : Int32} (hd : fet M pc = .ok (.ior, 1)) (hp : pc + 1 = pc')  (kk : wp d M Q kc ks pc' ls (vI (x ||| y) :: st) h) : wp d M Q kc ks pc ls (vI y :: vI x :: st) h := by
  subst hp
  intro p l e R s m args below meth c A Z E ad H locs lsC K G D hl g1 g2
  exact lv_ior K.1 K.2.1 hd (kk p l e R s m args below meth c A Z E ad H locs lsC K G D hl g1 g2)
theorem r_ixor {x y : Int32} (hd : fet M pc = .ok (.ixor, 1)) (hp : pc + 1 = pc')  (kk : wp d M Q kc ks pc' ls (vI (x ^^^ y) :: st) h) : wp d M Q kc ks pc ls (vI y :: vI x :: st) h := by
  subst hp
  intro p l e R s m args below meth c A Z E ad H locs lsC K G D hl g1 g2
  exact lv_ixor K.1 K.2.1 hd (kk p l e R s m args below meth c A Z E ad H locs lsC K G D hl g1 g2)
theorem r_ishl {x y : Int32} (hd : fet M pc = .ok (.ishl, 1)) (hp : pc + 1 = pc')  (kk : wp d M Q kc ks pc' ls (vI (x <<< (y &&& 31)) :: st) h) : wp d M Q kc ks pc ls (vI y :: vI x :: st) h := by
  subst hp
  intro p l e R s m args below meth c A Z E ad H locs lsC K G D hl g1 g2
  exact lv_ishl K.1 K.2.1 hd (kk p l e R s m args below meth c A Z E ad H locs lsC K G D hl g1 g2)
theorem r_ishr {x y : Int32} (hd : fet M pc = .ok (.ishr, 1)) (hp : pc + 1 = pc')  (kk : wp d M Q kc ks pc' ls (vI (x >>> (y &&& 31)) :: st) h) : wp d M Q kc ks pc ls (vI y :: vI x :: st) h := by
  subst hp
  intro p l e R s m args below meth c A Z E ad H locs lsC K G D hl g1 g2
  exact lv_ishr K.1 K.2.1 hd (kk p l e R s m args below meth c A Z E ad H locs lsC K G D hl g1 g2)
theorem r_iushr {x y : Int32} (hd : fet M pc = .ok (.iushr, 1)) (hp : pc + 1 = pc')  (kk : wp d M Q kc ks pc' ls (vI ((x.toUInt32 >>> (y.toUInt32 &&& Int32.toUInt32 31)).toInt32) :: st) h) : wp d M Q kc ks pc ls (vI y :: vI x :: st) h := by
  subst hp
  intro p l e R s m args below meth c A Z E ad H locs lsC K G D hl g1 g2
  exact lv_iushr K.1 K.2.1 hd rfl (kk p l e R s m args below meth c A Z E ad H locs lsC K G D hl g1 g2)
theorem r_idiv {x y : Int32} (hd : fet M pc = .ok (.idiv, 1)) (hp : pc + 1 = pc') (hne : ¬ y = 0) (kk : wp d M Q kc ks pc' ls (vI (x / y) :: st) h) : wp d M Q kc ks pc ls (vI y :: vI x :: st) h := by
  subst hp
  intro p l e R s m args below meth c A Z E ad H locs lsC K G D hl g1 g2
  exact lv_idiv K.1 K.2.1 hd hne (kk p l e R s m args below meth c A Z E ad H locs lsC K G D hl g1 g2)
theorem r_irem {x y : Int32} (hd : fet M pc = .ok (.irem, 1)) (hp : pc + 1 = pc') (hne : ¬ y = 0) (kk : wp d M Q kc ks pc' ls (vI (x - x / y * y) :: st) h) : wp d M Q kc ks pc ls (vI y :: vI x :: st) h := by
  subst hp
  intro p l e R s m args below meth c A Z E ad H locs lsC K G D hl g1 g2
  exact lv_irem K.1 K.2.1 hd hne (kk p l e R s m args below meth c A Z E ad H locs lsC K G D hl g1 g2)
theorem r_ineg {x : Int32} (hd : fet M pc = .ok (.ineg, 1)) (hp : pc + 1 = pc')  (kk : wp d M Q kc ks pc' ls (vI (-x) :: st) h) : wp d M Q kc ks pc ls (vI x :: st) h := by
  subst hp
  intro p l e R s m args below meth c A Z E ad H locs lsC K G D hl g1 g2
  exact lv_ineg K.1 K.2.1 hd (kk p l e R s m args below meth c A Z E ad H locs lsC K G D hl g1 g2)
theorem r_i2l {x : Int32} (hd : fet M pc = .ok (.i2l, 1)) (hp : pc + 1 = pc')  (kk : wp d M Q kc ks pc' ls (vL x.toInt64 :: st) h) : wp d M Q kc ks pc ls (vI x :: st) h := by
  subst hp
  intro p l e R s m args below meth c A Z E ad H locs lsC K G D hl g1 g2
  exact lv_i2l K.1 K.2.1 hd rfl (kk p l e R s m args below meth c A Z E ad H locs lsC K G D hl g1 g2)
theorem r_i2b {x : Int32} (hd : fet M pc = .ok (.i2b, 1)) (hp : pc + 1 = pc')  (kk : wp d M Q kc ks pc' ls (vI x.toInt8.toInt32 :: st) h) : wp d M Q kc ks pc ls (vI x :: st) h := by
  subst hp
  intro p l e R s m args below meth c A Z E ad H locs lsC K G D hl g1 g2
  exact lv_i2b K.1 K.2.1 hd rfl (kk p l e R s m args below meth c A Z E ad H locs lsC K G D hl g1 g2)
theorem r_i2s {x : Int32} (hd : fet M pc = .ok (.i2s, 1)) (hp : pc + 1 = pc')  (kk : wp d M Q kc ks pc' ls (vI x.toInt16.toInt32 :: st) h) : wp d M Q kc ks pc ls (vI x :: st) h := by
  subst hp
  intro p l e R s m args below meth c A Z E ad H locs lsC K G D hl g1 g2
  exact lv_i2s K.1 K.2.1 hd rfl (kk p l e R s m args below meth c A Z E ad H locs lsC K G D hl g1 g2)
theorem r_ladd {x y : Int64} (hd : fet M pc = .ok (.ladd, 1)) (hp : pc + 1 = pc')  (kk : wp d M Q kc ks pc' ls (vL (x + y) :: st) h) : wp d M Q kc ks pc ls (vL y :: vL x :: st) h := by
  subst hp
  intro p l e R s m args below meth c A Z E ad H locs lsC K G D hl g1 g2
  exact lv_ladd K.1 K.2.1 hd (kk p l e R s m args below meth c A Z E ad H locs lsC K G D hl g1 g2)
theorem r_lcmp {x y : Int64} (hd : fet M pc = .ok (.lcmp, 1)) (hp : pc + 1 = pc')  (kk : wp d M Q kc ks pc' ls (vI (lg_cmp x y) :: st) h) : wp d M Q kc ks pc ls (vL y :: vL x :: st) h := by
  subst hp
  intro p l e R s m args below meth c A Z E ad H locs lsC K G D hl g1 g2
  exact W.lcmp K.1 K.2.1 hd (kk p l e R s m args below meth c A Z E ad H locs lsC K G D hl g1 g2)
theorem r_dupI {x : Int32} (hd : fet M pc = .ok (.dup, 1)) (hp : pc + 1 = pc')  (kk : wp d M Q kc ks pc' ls (vI x :: vI x :: st) h) : wp d M Q kc ks pc ls (vI x :: st) h := by
  subst hp
  intro p l e R s m args below meth c A Z E ad H locs lsC K G D hl g1 g2
  exact lv_dup K.1 K.2.1 hd rfl (kk p l e R s m args below meth c A Z E ad H locs lsC K G D hl g1 g2)
theorem r_dupR {x : Nat} (hd : fet M pc = .ok (.dup, 1)) (hp : pc + 1 = pc')  (kk : wp d M Q kc ks pc' ls (vR (some x) :: vR (some x) :: st) h) : wp d M Q kc ks pc ls (vR (some x) :: st) h := by
  subst hp
  intro p l e R s m args below meth c A Z E ad H locs lsC K G D hl g1 g2
  exact lv_dup K.1 K.2.1 hd rfl (kk p l e R s m args below meth c A Z E ad H locs lsC K G D hl g1 g2)
theorem r_dup2 {x : Int32} {y : Nat} (hd : fet M pc = .ok (.dup2, 1)) (hp : pc + 1 = pc')  (kk : wp d M Q kc ks pc' ls (vI x :: vR (some y) :: vI x :: vR (some y) :: st) h) : wp d M Q kc ks pc ls (vI x :: vR (some y) :: st) h := by
  subst hp
  intro p l e R s m args below meth c A Z E ad H locs lsC K G D hl g1 g2
  exact lv_dup2_11 K.1 K.2.1 hd rfl rfl (kk p l e R s m args below meth c A Z E ad H locs lsC K G D hl g1 g2)
theorem r_istore_n {k : Fin 4} {i : Nat} {x : Int32} (hd : fet M pc = .ok (.istore_n k, 1)) (hp : pc + 1 = pc') (hi0 : (k : Nat) = i) (hlt : i < ml M) (hst : stL i (vI x) ls = ls') (kk : wp d M Q kc ks pc' ls' st h) : wp d M Q kc ks pc ls (vI x :: st) h := by
  subst hp
  subst hst
  intro p l e R s m args below meth c A Z E ad H locs lsC K G D hl g1 g2
  exact lv_istore_n K.1 K.2.1 hd hi0 hl hlt (lc_st ad i (vI x) ls) (fun lsC' hl' => kk p l e R s m args below meth c A Z E ad H locs lsC' K G D hl' g1 g2)
theorem r_istore {i : Nat} {x : Int32} (hd : fet M pc = .ok (.istore i, 2)) (hp : pc + 2 = pc')  (hlt : i < ml M) (hst : stL i (vI x) ls = ls') (kk : wp d M Q kc ks pc' ls' st h) : wp d M Q kc ks pc ls (vI x :: st) h := by
  subst hp
  subst hst
  intro p l e R s m args below meth c A Z E ad H locs lsC K G D hl g1 g2
  exact lv_istore K.1 K.2.1 hd hl hlt (lc_st ad i (vI x) ls) (fun lsC' hl' => kk p l e R s m args below meth c A Z E ad H locs lsC' K G D hl' g1 g2)
theorem r_astore_n {k : Fin 4} {i : Nat} {x : Nat} (hd : fet M pc = .ok (.astore_n k, 1)) (hp : pc + 1 = pc') (hi0 : (k : Nat) = i) (hlt : i < ml M) (hst : stL i (vR (some x)) ls = ls') (kk : wp d M Q kc ks pc' ls' st h) : wp d M Q kc ks pc ls (vR (some x) :: st) h := by
  subst hp
  subst hst
  intro p l e R s m args below meth c A Z E ad H locs lsC K G D hl g1 g2
  exact lv_astore_n K.1 K.2.1 hd hi0 hl hlt (lc_st ad i (vR (some x)) ls) (fun lsC' hl' => kk p l e R s m args below meth c A Z E ad H locs lsC' K G D hl' g1 g2)
theorem r_astore {i : Nat} {x : Nat} (hd : fet M pc = .ok (.astore i, 2)) (hp : pc + 2 = pc')  (hlt : i < ml M) (hst : stL i (vR (some x)) ls = ls') (kk : wp d M Q kc ks pc' ls' st h) : wp d M Q kc ks pc ls (vR (some x) :: st) h := by
  subst hp
  subst hst
  intro p l e R s m args below meth c A Z E ad H locs lsC K G D hl g1 g2
  exact lv_astore K.1 K.2.1 hd hl hlt (lc_st ad i (vR (some x)) ls) (fun lsC' hl' => kk p l e R s m args below meth c A Z E ad H locs lsC' K G D hl' g1 g2)
theorem r_astore_nN {k : Fin 4} {i : Nat} (hd : fet M pc = .ok (.astore_n k, 1)) (hp : pc + 1 = pc') (hi0 : (k : Nat) = i) (hlt : i < ml M) (hst : stL i (vR none) ls = ls') (kk : wp d M Q kc ks pc' ls' st h) : wp d M Q kc ks pc ls (vR none :: st) h := by
  subst hp
  subst hst
  intro p l e R s m args below meth c A Z E ad H locs lsC K G D hl g1 g2
  exact lv_astore_nN K.1 K.2.1 hd hi0 hl hlt (lc_st ad i (vR none) ls) (fun lsC' hl' => kk p l e R s m args below meth c A Z E ad H locs lsC' K G D hl' g1 g2)
theorem r_astoreN {i : Nat} (hd : fet M pc = .ok (.astore i, 2)) (hp : pc + 2 = pc')  (hlt : i < ml M) (hst : stL i (vR none) ls = ls') (kk : wp d M Q kc ks pc' ls' st h) : wp d M Q kc ks pc ls (vR none :: st) h := by
  subst hp
  subst hst
  intro p l e R s m args below meth c A Z E ad H locs lsC K G D hl g1 g2
  exact lv_astoreN K.1 K.2.1 hd hl hlt (lc_st ad i (vR none) ls) (fun lsC' hl' => kk p l e R s m args below meth c A Z E ad H locs lsC' K G D hl' g1 g2)
theorem lc_ix {ad : Nat → Nat} {ls : List (Nat × AV)} {i : Nat} {v : AV} (h : lk ls i = some v) : ∃ k : Nat, (lc ad ls)[k]? = some (i, cv ad v) := List.getElem?_of_mem (List.mem_map.mpr ⟨(i, v), lk_mem h, rfl⟩)
theorem r_iinc {i : Nat} {n : Int} {x v : Int32} (hd : fet M pc = .ok (.iinc i n, 3)) (hp : pc + 3 = pc') (hk : lk ls i = some (vI x)) (hv : x + Int32.ofInt n = v) (hlt : i < ml M) (hst : stL i (vI v) ls = ls') (kk : wp d M Q kc ks pc' ls' st h) : wp d M Q kc ks pc ls st h := by
  subst hp
  subst hst
  intro p l e R s m args below meth c A Z E ad H locs lsC K G D hl g1 g2
  obtain ⟨k, hk2⟩ := lc_ix (ad := ad) hk
  exact lv_iinc K.1 K.2.1 hd hl hk2 hv hlt (lc_st ad i (vI v) ls) (fun lsC' hl' => kk p l e R s m args below meth c A Z E ad H locs lsC' K G D hl' g1 g2)
end Rules
