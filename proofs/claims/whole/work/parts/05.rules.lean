/-! rules of wp, an instruction each (printed by wip/whole/p05.py) -/
section Rules
variable {d M : Nat} {Q : Option AV → Hp → Prop} {kc ks pc pc' : Nat} {ls ls' : List (Nat × AV)} {st : List AV} {h : Hp}
theorem r_iconst {n : Int} {v : Int32} (hd : fet M pc = .ok (.iconst n, 1)) (hp : pc + 1 = pc') (hv : Int32.ofInt n = v) (kk : wp d M Q kc ks pc' ls (vI v :: st) h) : wp d M Q kc ks pc ls (st) h := by
  subst hp
  intro p l e R s m args below meth c A Z E ad H locs lsC K G D hl g1 g2
  exact lv_iconst K.1 K.2.1 hd hv (kk p l e R s m args below meth c A Z E ad H locs lsC K G D hl g1 g2)
theorem r_bipush {n : Int} {v : Int32} (hd : fet M pc = .ok (.bipush n, 2)) (hp : pc + 2 = pc') (hv : (Int8.ofInt n).toInt32 = v) (kk : wp d M Q kc ks pc' ls (vI v :: st) h) : wp d M Q kc ks pc ls (st) h := by
  subst hp
  intro p l e R s m args below meth c A Z E ad H locs lsC K G D hl g1 g2
  exact lv_bipush K.1 K.2.1 hd hv (kk p l e R s m args below meth c A Z E ad H locs lsC K G D hl g1 g2)
theorem r_sipush {n : Int} {v : Int32} (hd : fet M pc = .ok (.sipush n, 3)) (hp : pc + 3 = pc') (hv : (Int16.ofInt n).toInt32 = v) (kk : wp d M Q kc ks pc' ls (vI v :: st) h) : wp d M Q kc ks pc ls (st) h := by
  subst hp
  intro p l e R s m args below meth c A Z E ad H locs lsC K G D hl g1 g2
  exact lv_sipush K.1 K.2.1 hd hv (kk p l e R s m args below meth c A Z E ad H locs lsC K G D hl g1 g2)
theorem r_ldc {n : Nat} {v : Int32} (hd : fet M pc = .ok (.ldc n, 2)) (hp : pc + 2 = pc') {on : String} (hon : own M = on) (hc : Cond.constant on n v ∈ TBL) (kk : wp d M Q kc ks pc' ls (vI v :: st) h) : wp d M Q kc ks pc ls (st) h := by
  subst hp
  intro p l e R s m args below meth c A Z E ad H locs lsC K G D hl g1 g2
  exact lv_ldc K.1 K.2.1 (hon ▸ K.2.2.2.1) (K.2.2.2.2.1 _ hc) hd (kk p l e R s m args below meth c A Z E ad H locs lsC K G D hl g1 g2)
theorem r_ldcw {n : Nat} {v : Int32} (hd : fet M pc = .ok (.ldc_w n, 3)) (hp : pc + 3 = pc') {on : String} (hon : own M = on) (hc : Cond.constant on n v ∈ TBL) (kk : wp d M Q kc ks pc' ls (vI v :: st) h) : wp d M Q kc ks pc ls (st) h := by
  subst hp
  intro p l e R s m args below meth c A Z E ad H locs lsC K G D hl g1 g2
  exact lv_ldcw K.1 K.2.1 (hon ▸ K.2.2.2.1) (K.2.2.2.2.1 _ hc) hd (kk p l e R s m args below meth c A Z E ad H locs lsC K G D hl g1 g2)
theorem r_null  (hd : fet M pc = .ok (.aconst_null, 1)) (hp : pc + 1 = pc')  (kk : wp d M Q kc ks pc' ls (vR none :: st) h) : wp d M Q kc ks pc ls (st) h := by
  subst hp
  intro p l e R s m args below meth c A Z E ad H locs lsC K G D hl g1 g2
  exact lv_null K.1 K.2.1 hd (kk p l e R s m args below meth c A Z E ad H locs lsC K G D hl g1 g2)
theorem r_iload_n {k : Fin 4} {i : Nat} {x : Int32} (hd : fet M pc = .ok (.iload_n k, 1)) (hp : pc + 1 = pc') (hi0 : (k : Nat) = i) (hk : lk ls i = some (vI x)) (kk : wp d M Q kc ks pc' ls (vI x :: st) h) : wp d M Q kc ks pc ls (st) h := by
  subst hp
  intro p l e R s m args below meth c A Z E ad H locs lsC K G D hl g1 g2
  exact lv_iload_n K.1 K.2.1 hd hi0 (lc_lk hl hk) (kk p l e R s m args below meth c A Z E ad H locs lsC K G D hl g1 g2)
theorem r_iload {i : Nat} {x : Int32} (hd : fet M pc = .ok (.iload i, 2)) (hp : pc + 2 = pc') (hk : lk ls i = some (vI x)) (kk : wp d M Q kc ks pc' ls (vI x :: st) h) : wp d M Q kc ks pc ls (st) h := by
  subst hp
  intro p l e R s m args below meth c A Z E ad H locs lsC K G D hl g1 g2
  exact lv_iload K.1 K.2.1 hd (lc_lk hl hk) (kk p l e R s m args below meth c A Z E ad H locs lsC K G D hl g1 g2)
theorem r_aload_n {k : Fin 4} {i : Nat} {x : Nat} (hd : fet M pc = .ok (.aload_n k, 1)) (hp : pc + 1 = pc') (hi0 : (k : Nat) = i) (hk : lk ls i = some (vR (some x))) (kk : wp d M Q kc ks pc' ls (vR (some x) :: st) h) : wp d M Q kc ks pc ls (st) h := by
  subst hp
  intro p l e R s m args below meth c A Z E ad H locs lsC K G D hl g1 g2
  exact lv_aload_n K.1 K.2.1 hd hi0 (lc_lk hl hk) (kk p l e R s m args below meth c A Z E ad H locs lsC K G D hl g1 g2)
theorem r_aload {i : Nat} {x : Nat} (hd : fet M pc = .ok (.aload i, 2)) (hp : pc + 2 = pc') (hk : lk ls i = some (vR (some x))) (kk : wp d M Q kc ks pc' ls (vR (some x) :: st) h) : wp d M Q kc ks pc ls (st) h := by
  subst hp
  intro p l e R s m args below meth c A Z E ad H locs lsC K G D hl g1 g2
  exact lv_aload K.1 K.2.1 hd (lc_lk hl hk) (kk p l e R s m args below meth c A Z E ad H locs lsC K G D hl g1 g2)
theorem r_aload_nN {k : Fin 4} {i : Nat} (hd : fet M pc = .ok (.aload_n k, 1)) (hp : pc + 1 = pc') (hi0 : (k : Nat) = i) (hk : lk ls i = some (vR none)) (kk : wp d M Q kc ks pc' ls (vR none :: st) h) : wp d M Q kc ks pc ls (st) h := by
  subst hp
  intro p l e R s m args below meth c A Z E ad H locs lsC K G D hl g1 g2
  exact lv_aload_nN K.1 K.2.1 hd hi0 (lc_lk hl hk) (kk p l e R s m args below meth c A Z E ad H locs lsC K G D hl g1 g2)
theorem r_aloadN {i : Nat} (hd : fet M pc = .ok (.aload i, 2)) (hp : pc + 2 = pc') (hk : lk ls i = some (vR none)) (kk : wp d M Q kc ks pc' ls (vR none :: st) h) : wp d M Q kc ks pc ls (st) h := by
  subst hp
  intro p l e R s m args below meth c A Z E ad H locs lsC K G D hl g1 g2
  exact lv_aloadN K.1 K.2.1 hd (lc_lk hl hk) (kk p l e R s m args below meth c A Z E ad H locs lsC K G D hl g1 g2)
theorem r_iadd {x y : Int32} (hd : fet M pc = .ok (.iadd, 1)) (hp : pc + 1 = pc')  (kk : wp d M Q kc ks pc' ls (vI (x + y) :: st) h) : wp d M Q kc ks pc ls (vI y :: vI x :: st) h := by
  subst hp
  intro p l e R s m args below meth c A Z E ad H locs lsC K G D hl g1 g2
  exact lv_iadd K.1 K.2.1 hd (kk p l e R s m args below meth c A Z E ad H locs lsC K G D hl g1 g2)
theorem r_isub {x y : Int32} (hd : fet M pc = .ok (.isub, 1)) (hp : pc + 1 = pc')  (kk : wp d M Q kc ks pc' ls (vI (x - y) :: st) h) : wp d M Q kc ks pc ls (vI y :: vI x :: st) h := by
  subst hp
  intro p l e R s m args below meth c A Z E ad H locs lsC K G D hl g1 g2
  exact lv_isub K.1 K.2.1 hd (kk p l e R s m args below meth c A Z E ad H locs lsC K G D hl g1 g2)
theorem r_imul {x y : Int32} (hd : fet M pc = .ok (.imul, 1)) (hp : pc + 1 = pc')  (kk : wp d M Q kc ks pc' ls (vI (x * y) :: st) h) : wp d M Q kc ks pc ls (vI y :: vI x :: st) h := by
  subst hp
  intro p l e R s m args below meth c A Z E ad H locs lsC K G D hl g1 g2
  exact lv_imul K.1 K.2.1 hd (kk p l e R s m args below meth c A Z E ad H locs lsC K G D hl g1 g2)
theorem r_iand {x y : Int32} (hd : fet M pc = .ok (.iand, 1)) (hp : pc + 1 = pc')  (kk : wp d M Q kc ks pc' ls (vI (x &&& y) :: st) h) : wp d M Q kc ks pc ls (vI y :: vI x :: st) h := by
  subst hp
  intro p l e R s m args below meth c A Z E ad H locs lsC K G D hl g1 g2
  exact lv_iand K.1 K.2.1 hd (kk p l e R s m args below meth c A Z E ad H locs lsC K G D hl g1 g2)
theorem r_ior {x y : Int32} (hd : fet M pc = .ok (.ior, 1)) (hp : pc + 1 = pc')  (kk : wp d M Q kc ks pc' ls (vI (x ||| y) :: st) h) : wp d M Q kc ks pc ls (vI y :: vI x :: st) h := by
  subst hp
  intro p l e R s m args below meth c A Z E ad H locs lsC K G D hl g1 g2
  exact lv_ior K.1 K.2.1 hd (kk p l e R s m args below meth c A Z E ad H locs lsC K G D hl g1 g2)
theorem r_ixor {x y : Int32} (hd : fet M pc = .ok (.ixor, 1)) (hp : pc + 1 = pc')  (kk : wp d M Q kc ks pc' ls (vI (x ^^^ y) :: st) h) : wp d M Q kc ks pc ls (vI y :: vI x :: st) h := by
  subst hp
  intro p l e R s m args below meth c A Z E ad H locs lsC K G D hl g1 g2
  exact lv_ixor K.1 K.2.1 hd (kk p l e R s m args below meth c A Z E ad H locs lsC K G D hl g1 g2)
theorem r_ishl {x y : Int32} (hd : fet M pc = .ok (.ishl, 1)) (hp : pc + 1 = pc')  (kk : wp d M Q kc ks pc' ls (vI (x <<< (y &&& 31)) :: st) h) : wp d M Q kc ks pc ls (vI y :: vI x :: st) h := by
  subst hp
  intro p l e R s m args below meth c A Z E ad H locs lsC K G D hl g1 g2
  exact lv_ishl K.1 K.2.1 hd (kk p l e R s m args below meth c A Z E ad H locs lsC K G D hl g1 g2)
theorem r_ishr {x y : Int32} (hd : fet M pc = .ok (.ishr, 1)) (hp : pc + 1 = pc')  (kk : wp d M Q kc ks pc' ls (vI (x >>> (y &&& 31)) :: st) h) : wp d M Q kc ks pc ls (vI y :: vI x :: st) h := by
  subst hp
  intro p l e R s m args below meth c A Z E ad H locs lsC K G D hl g1 g2
  exact lv_ishr K.1 K.2.1 hd (kk p l e R s m args below meth c A Z E ad H locs lsC K G D hl g1 g2)
theorem r_iushr {x y : Int32} (hd : fet M pc = .ok (.iushr, 1)) (hp : pc + 1 = pc')  (kk : wp d M Q kc ks pc' ls (vI ((x.toUInt32 >>> (y.toUInt32 &&& Int32.toUInt32 31)).toInt32) :: st) h) : wp d M Q kc ks pc ls (vI y :: vI x :: st) h := by
  subst hp
  intro p l e R s m args below meth c A Z E ad H locs lsC K G D hl g1 g2
  exact lv_iushr K.1 K.2.1 hd rfl (kk p l e R s m args below meth c A Z E ad H locs lsC K G D hl g1 g2)
theorem r_idiv {x y : Int32} (hd : fet M pc = .ok (.idiv, 1)) (hp : pc + 1 = pc') (hne : ¬ y = 0) (kk : wp d M Q kc ks pc' ls (vI (x / y) :: st) h) : wp d M Q kc ks pc ls (vI y :: vI x :: st) h := by
  subst hp
  intro p l e R s m args below meth c A Z E ad H locs lsC K G D hl g1 g2
  exact lv_idiv K.1 K.2.1 hd hne (kk p l e R s m args below meth c A Z E ad H locs lsC K G D hl g1 g2)
theorem r_irem {x y : Int32} (hd : fet M pc = .ok (.irem, 1)) (hp : pc + 1 = pc') (hne : ¬ y = 0) (kk : wp d M Q kc ks pc' ls (vI (x - x / y * y) :: st) h) : wp d M Q kc ks pc ls (vI y :: vI x :: st) h := by
  subst hp
  intro p l e R s m args below meth c A Z E ad H locs lsC K G D hl g1 g2
  exact lv_irem K.1 K.2.1 hd hne (kk p l e R s m args below meth c A Z E ad H locs lsC K G D hl g1 g2)
theorem r_ineg {x : Int32} (hd : fet M pc = .ok (.ineg, 1)) (hp : pc + 1 = pc')  (kk : wp d M Q kc ks pc' ls (vI (-x) :: st) h) : wp d M Q kc ks pc ls (vI x :: st) h := by
  subst hp
  intro p l e R s m args below meth c A Z E ad H locs lsC K G D hl g1 g2
  exact lv_ineg K.1 K.2.1 hd (kk p l e R s m args below meth c A Z E ad H locs lsC K G D hl g1 g2)
theorem r_i2l {x : Int32} (hd : fet M pc = .ok (.i2l, 1)) (hp : pc + 1 = pc')  (kk : wp d M Q kc ks pc' ls (vL x.toInt64 :: st) h) : wp d M Q kc ks pc ls (vI x :: st) h := by
  subst hp
  intro p l e R s m args below meth c A Z E ad H locs lsC K G D hl g1 g2
  exact lv_i2l K.1 K.2.1 hd rfl (kk p l e R s m args below meth c A Z E ad H locs lsC K G D hl g1 g2)
theorem r_i2b {x : Int32} (hd : fet M pc = .ok (.i2b, 1)) (hp : pc + 1 = pc')  (kk : wp d M Q kc ks pc' ls (vI x.toInt8.toInt32 :: st) h) : wp d M Q kc ks pc ls (vI x :: st) h := by
  subst hp
  intro p l e R s m args below meth c A Z E ad H locs lsC K G D hl g1 g2
  exact lv_i2b K.1 K.2.1 hd rfl (kk p l e R s m args below meth c A Z E ad H locs lsC K G D hl g1 g2)
theorem r_i2s {x : Int32} (hd : fet M pc = .ok (.i2s, 1)) (hp : pc + 1 = pc')  (kk : wp d M Q kc ks pc' ls (vI x.toInt16.toInt32 :: st) h) : wp d M Q kc ks pc ls (vI x :: st) h := by
  subst hp
  intro p l e R s m args below meth c A Z E ad H locs lsC K G D hl g1 g2
  exact lv_i2s K.1 K.2.1 hd rfl (kk p l e R s m args below meth c A Z E ad H locs lsC K G D hl g1 g2)
theorem r_ladd {x y : Int64} (hd : fet M pc = .ok (.ladd, 1)) (hp : pc + 1 = pc')  (kk : wp d M Q kc ks pc' ls (vL (x + y) :: st) h) : wp d M Q kc ks pc ls (vL y :: vL x :: st) h := by
  subst hp
  intro p l e R s m args below meth c A Z E ad H locs lsC K G D hl g1 g2
  exact lv_ladd K.1 K.2.1 hd (kk p l e R s m args below meth c A Z E ad H locs lsC K G D hl g1 g2)
theorem r_lcmp {x y : Int64} (hd : fet M pc = .ok (.lcmp, 1)) (hp : pc + 1 = pc')  (kk : wp d M Q kc ks pc' ls (vI (lg_cmp x y) :: st) h) : wp d M Q kc ks pc ls (vL y :: vL x :: st) h := by
  subst hp
  intro p l e R s m args below meth c A Z E ad H locs lsC K G D hl g1 g2
  exact W.lcmp K.1 K.2.1 hd (kk p l e R s m args below meth c A Z E ad H locs lsC K G D hl g1 g2)
theorem r_dupI {x : Int32} (hd : fet M pc = .ok (.dup, 1)) (hp : pc + 1 = pc')  (kk : wp d M Q kc ks pc' ls (vI x :: vI x :: st) h) : wp d M Q kc ks pc ls (vI x :: st) h := by
  subst hp
  intro p l e R s m args below meth c A Z E ad H locs lsC K G D hl g1 g2
  exact lv_dup K.1 K.2.1 hd rfl (kk p l e R s m args below meth c A Z E ad H locs lsC K G D hl g1 g2)
theorem r_dupR {x : Nat} (hd : fet M pc = .ok (.dup, 1)) (hp : pc + 1 = pc')  (kk : wp d M Q kc ks pc' ls (vR (some x) :: vR (some x) :: st) h) : wp d M Q kc ks pc ls (vR (some x) :: st) h := by
  subst hp
  intro p l e R s m args below meth c A Z E ad H locs lsC K G D hl g1 g2
  exact lv_dup K.1 K.2.1 hd rfl (kk p l e R s m args below meth c A Z E ad H locs lsC K G D hl g1 g2)
theorem r_dup2 {x : Int32} {y : Nat} (hd : fet M pc = .ok (.dup2, 1)) (hp : pc + 1 = pc')  (kk : wp d M Q kc ks pc' ls (vI x :: vR (some y) :: vI x :: vR (some y) :: st) h) : wp d M Q kc ks pc ls (vI x :: vR (some y) :: st) h := by
  subst hp
  intro p l e R s m args below meth c A Z E ad H locs lsC K G D hl g1 g2
  exact lv_dup2_11 K.1 K.2.1 hd rfl rfl (kk p l e R s m args below meth c A Z E ad H locs lsC K G D hl g1 g2)
theorem r_istore_n {k : Fin 4} {i : Nat} {x : Int32} (hd : fet M pc = .ok (.istore_n k, 1)) (hp : pc + 1 = pc') (hi0 : (k : Nat) = i) (hlt : i < ml M) (hst : stL i (vI x) ls = ls') (kk : wp d M Q kc ks pc' ls' st h) : wp d M Q kc ks pc ls (vI x :: st) h := by
  subst hp
  subst hst
  intro p l e R s m args below meth c A Z E ad H locs lsC K G D hl g1 g2
  exact lv_istore_n K.1 K.2.1 hd hi0 hl hlt (lc_st ad i (vI x) ls) (fun lsC' hl' => kk p l e R s m args below meth c A Z E ad H locs lsC' K G D hl' g1 g2)
theorem r_istore {i : Nat} {x : Int32} (hd : fet M pc = .ok (.istore i, 2)) (hp : pc + 2 = pc')  (hlt : i < ml M) (hst : stL i (vI x) ls = ls') (kk : wp d M Q kc ks pc' ls' st h) : wp d M Q kc ks pc ls (vI x :: st) h := by
  subst hp
  subst hst
  intro p l e R s m args below meth c A Z E ad H locs lsC K G D hl g1 g2
  exact lv_istore K.1 K.2.1 hd hl hlt (lc_st ad i (vI x) ls) (fun lsC' hl' => kk p l e R s m args below meth c A Z E ad H locs lsC' K G D hl' g1 g2)
theorem r_astore_n {k : Fin 4} {i : Nat} {x : Nat} (hd : fet M pc = .ok (.astore_n k, 1)) (hp : pc + 1 = pc') (hi0 : (k : Nat) = i) (hlt : i < ml M) (hst : stL i (vR (some x)) ls = ls') (kk : wp d M Q kc ks pc' ls' st h) : wp d M Q kc ks pc ls (vR (some x) :: st) h := by
  subst hp
  subst hst
  intro p l e R s m args below meth c A Z E ad H locs lsC K G D hl g1 g2
  exact lv_astore_n K.1 K.2.1 hd hi0 hl hlt (lc_st ad i (vR (some x)) ls) (fun lsC' hl' => kk p l e R s m args below meth c A Z E ad H locs lsC' K G D hl' g1 g2)
theorem r_astore {i : Nat} {x : Nat} (hd : fet M pc = .ok (.astore i, 2)) (hp : pc + 2 = pc')  (hlt : i < ml M) (hst : stL i (vR (some x)) ls = ls') (kk : wp d M Q kc ks pc' ls' st h) : wp d M Q kc ks pc ls (vR (some x) :: st) h := by
  subst hp
  subst hst
  intro p l e R s m args below meth c A Z E ad H locs lsC K G D hl g1 g2
  exact lv_astore K.1 K.2.1 hd hl hlt (lc_st ad i (vR (some x)) ls) (fun lsC' hl' => kk p l e R s m args below meth c A Z E ad H locs lsC' K G D hl' g1 g2)
theorem r_astore_nN {k : Fin 4} {i : Nat} (hd : fet M pc = .ok (.astore_n k, 1)) (hp : pc + 1 = pc') (hi0 : (k : Nat) = i) (hlt : i < ml M) (hst : stL i (vR none) ls = ls') (kk : wp d M Q kc ks pc' ls' st h) : wp d M Q kc ks pc ls (vR none :: st) h := by
  subst hp
  subst hst
  intro p l e R s m args below meth c A Z E ad H locs lsC K G D hl g1 g2
  exact lv_astore_nN K.1 K.2.1 hd hi0 hl hlt (lc_st ad i (vR none) ls) (fun lsC' hl' => kk p l e R s m args below meth c A Z E ad H locs lsC' K G D hl' g1 g2)
theorem r_astoreN {i : Nat} (hd : fet M pc = .ok (.astore i, 2)) (hp : pc + 2 = pc')  (hlt : i < ml M) (hst : stL i (vR none) ls = ls') (kk : wp d M Q kc ks pc' ls' st h) : wp d M Q kc ks pc ls (vR none :: st) h := by
  subst hp
  subst hst
  intro p l e R s m args below meth c A Z E ad H locs lsC K G D hl g1 g2
  exact lv_astoreN K.1 K.2.1 hd hl hlt (lc_st ad i (vR none) ls) (fun lsC' hl' => kk p l e R s m args below meth c A Z E ad H locs lsC' K G D hl' g1 g2)
theorem lc_ix {ad : Nat → Nat} {ls : List (Nat × AV)} {i : Nat} {v : AV} (h : lk ls i = some v) : ∃ k : Nat, (lc ad ls)[k]? = some (i, cv ad v) := List.getElem?_of_mem (List.mem_map.mpr ⟨(i, v), lk_mem h, rfl⟩)
theorem r_iinc {i : Nat} {n : Int} {x v : Int32} (hd : fet M pc = .ok (.iinc i n, 3)) (hp : pc + 3 = pc') (hk : lk ls i = some (vI x)) (hv : x + Int32.ofInt n = v) (hlt : i < ml M) (hst : stL i (vI v) ls = ls') (kk : wp d M Q kc ks pc' ls' st h) : wp d M Q kc ks pc ls st h := by
  subst hp
  subst hst
  intro p l e R s m args below meth c A Z E ad H locs lsC K G D hl g1 g2
  obtain ⟨k, hk2⟩ := lc_ix (ad := ad) hk
  exact lv_iinc K.1 K.2.1 hd hl hk2 hv hlt (lc_st ad i (vI v) ls) (fun lsC' hl' => kk p l e R s m args below meth c A Z E ad H locs lsC' K G D hl' g1 g2)
theorem tgt_eq {pc tgt : Nat} {off : Int} (h : (pc : Int) + off = (tgt : Int)) : (pc : Int) + off = (tgt : Int) := h
theorem r_if_eq {x : Int32} {off : Int} (tgt : Nat) (hd : fet M pc = .ok (.ifCond .eq off, 3)) (hp : pc + 3 = pc') (ht : (pc : Int) + off = (tgt : Int)) (kt : x = 0 → wp d M Q kc ks tgt ls st h) (kf : ¬ x = 0 → wp d M Q kc ks pc' ls st h) : wp d M Q kc ks pc ls (vI x :: st) h := by
  subst hp
  intro p l e R s m args below meth c A Z E ad H locs lsC K G D hl g1 g2
  exact lv_if_eq K.1 K.2.1 hd ht (fun q => kt q p l e R s m args below meth c A Z E ad H locs lsC K G D hl g1 g2) (fun q => kf q p l e R s m args below meth c A Z E ad H locs lsC K G D hl g1 g2)
theorem r_icmp_eq {x y : Int32} {off : Int} (tgt : Nat) (hd : fet M pc = .ok (.if_icmp .eq off, 3)) (hp : pc + 3 = pc') (ht : (pc : Int) + off = (tgt : Int)) (kt : x = y → wp d M Q kc ks tgt ls st h) (kf : ¬ x = y → wp d M Q kc ks pc' ls st h) : wp d M Q kc ks pc ls (vI y :: vI x :: st) h := by
  subst hp
  intro p l e R s m args below meth c A Z E ad H locs lsC K G D hl g1 g2
  exact lv_icmp_eq K.1 K.2.1 hd ht (fun q => kt q p l e R s m args below meth c A Z E ad H locs lsC K G D hl g1 g2) (fun q => kf q p l e R s m args below meth c A Z E ad H locs lsC K G D hl g1 g2)
theorem r_if_ne {x : Int32} {off : Int} (tgt : Nat) (hd : fet M pc = .ok (.ifCond .ne off, 3)) (hp : pc + 3 = pc') (ht : (pc : Int) + off = (tgt : Int)) (kt : ¬ x = 0 → wp d M Q kc ks tgt ls st h) (kf : x = 0 → wp d M Q kc ks pc' ls st h) : wp d M Q kc ks pc ls (vI x :: st) h := by
  subst hp
  intro p l e R s m args below meth c A Z E ad H locs lsC K G D hl g1 g2
  exact lv_if_ne K.1 K.2.1 hd ht (fun q => kt q p l e R s m args below meth c A Z E ad H locs lsC K G D hl g1 g2) (fun q => kf q p l e R s m args below meth c A Z E ad H locs lsC K G D hl g1 g2)
theorem r_icmp_ne {x y : Int32} {off : Int} (tgt : Nat) (hd : fet M pc = .ok (.if_icmp .ne off, 3)) (hp : pc + 3 = pc') (ht : (pc : Int) + off = (tgt : Int)) (kt : ¬ x = y → wp d M Q kc ks tgt ls st h) (kf : x = y → wp d M Q kc ks pc' ls st h) : wp d M Q kc ks pc ls (vI y :: vI x :: st) h := by
  subst hp
  intro p l e R s m args below meth c A Z E ad H locs lsC K G D hl g1 g2
  exact lv_icmp_ne K.1 K.2.1 hd ht (fun q => kt q p l e R s m args below meth c A Z E ad H locs lsC K G D hl g1 g2) (fun q => kf q p l e R s m args below meth c A Z E ad H locs lsC K G D hl g1 g2)
theorem r_if_lt {x : Int32} {off : Int} (tgt : Nat) (hd : fet M pc = .ok (.ifCond .lt off, 3)) (hp : pc + 3 = pc') (ht : (pc : Int) + off = (tgt : Int)) (kt : x < 0 → wp d M Q kc ks tgt ls st h) (kf : ¬ x < 0 → wp d M Q kc ks pc' ls st h) : wp d M Q kc ks pc ls (vI x :: st) h := by
  subst hp
  intro p l e R s m args below meth c A Z E ad H locs lsC K G D hl g1 g2
  exact lv_if_lt K.1 K.2.1 hd ht (fun q => kt q p l e R s m args below meth c A Z E ad H locs lsC K G D hl g1 g2) (fun q => kf q p l e R s m args below meth c A Z E ad H locs lsC K G D hl g1 g2)
theorem r_icmp_lt {x y : Int32} {off : Int} (tgt : Nat) (hd : fet M pc = .ok (.if_icmp .lt off, 3)) (hp : pc + 3 = pc') (ht : (pc : Int) + off = (tgt : Int)) (kt : x < y → wp d M Q kc ks tgt ls st h) (kf : ¬ x < y → wp d M Q kc ks pc' ls st h) : wp d M Q kc ks pc ls (vI y :: vI x :: st) h := by
  subst hp
  intro p l e R s m args below meth c A Z E ad H locs lsC K G D hl g1 g2
  exact lv_icmp_lt K.1 K.2.1 hd ht (fun q => kt q p l e R s m args below meth c A Z E ad H locs lsC K G D hl g1 g2) (fun q => kf q p l e R s m args below meth c A Z E ad H locs lsC K G D hl g1 g2)
theorem r_if_ge {x : Int32} {off : Int} (tgt : Nat) (hd : fet M pc = .ok (.ifCond .ge off, 3)) (hp : pc + 3 = pc') (ht : (pc : Int) + off = (tgt : Int)) (kt : 0 ≤ x → wp d M Q kc ks tgt ls st h) (kf : ¬ 0 ≤ x → wp d M Q kc ks pc' ls st h) : wp d M Q kc ks pc ls (vI x :: st) h := by
  subst hp
  intro p l e R s m args below meth c A Z E ad H locs lsC K G D hl g1 g2
  exact lv_if_ge K.1 K.2.1 hd ht (fun q => kt q p l e R s m args below meth c A Z E ad H locs lsC K G D hl g1 g2) (fun q => kf q p l e R s m args below meth c A Z E ad H locs lsC K G D hl g1 g2)
theorem r_icmp_ge {x y : Int32} {off : Int} (tgt : Nat) (hd : fet M pc = .ok (.if_icmp .ge off, 3)) (hp : pc + 3 = pc') (ht : (pc : Int) + off = (tgt : Int)) (kt : y ≤ x → wp d M Q kc ks tgt ls st h) (kf : ¬ y ≤ x → wp d M Q kc ks pc' ls st h) : wp d M Q kc ks pc ls (vI y :: vI x :: st) h := by
  subst hp
  intro p l e R s m args below meth c A Z E ad H locs lsC K G D hl g1 g2
  exact lv_icmp_ge K.1 K.2.1 hd ht (fun q => kt q p l e R s m args below meth c A Z E ad H locs lsC K G D hl g1 g2) (fun q => kf q p l e R s m args below meth c A Z E ad H locs lsC K G D hl g1 g2)
theorem r_if_gt {x : Int32} {off : Int} (tgt : Nat) (hd : fet M pc = .ok (.ifCond .gt off, 3)) (hp : pc + 3 = pc') (ht : (pc : Int) + off = (tgt : Int)) (kt : 0 < x → wp d M Q kc ks tgt ls st h) (kf : ¬ 0 < x → wp d M Q kc ks pc' ls st h) : wp d M Q kc ks pc ls (vI x :: st) h := by
  subst hp
  intro p l e R s m args below meth c A Z E ad H locs lsC K G D hl g1 g2
  exact lv_if_gt K.1 K.2.1 hd ht (fun q => kt q p l e R s m args below meth c A Z E ad H locs lsC K G D hl g1 g2) (fun q => kf q p l e R s m args below meth c A Z E ad H locs lsC K G D hl g1 g2)
theorem r_icmp_gt {x y : Int32} {off : Int} (tgt : Nat) (hd : fet M pc = .ok (.if_icmp .gt off, 3)) (hp : pc + 3 = pc') (ht : (pc : Int) + off = (tgt : Int)) (kt : y < x → wp d M Q kc ks tgt ls st h) (kf : ¬ y < x → wp d M Q kc ks pc' ls st h) : wp d M Q kc ks pc ls (vI y :: vI x :: st) h := by
  subst hp
  intro p l e R s m args below meth c A Z E ad H locs lsC K G D hl g1 g2
  exact lv_icmp_gt K.1 K.2.1 hd ht (fun q => kt q p l e R s m args below meth c A Z E ad H locs lsC K G D hl g1 g2) (fun q => kf q p l e R s m args below meth c A Z E ad H locs lsC K G D hl g1 g2)
theorem r_if_le {x : Int32} {off : Int} (tgt : Nat) (hd : fet M pc = .ok (.ifCond .le off, 3)) (hp : pc + 3 = pc') (ht : (pc : Int) + off = (tgt : Int)) (kt : x ≤ 0 → wp d M Q kc ks tgt ls st h) (kf : ¬ x ≤ 0 → wp d M Q kc ks pc' ls st h) : wp d M Q kc ks pc ls (vI x :: st) h := by
  subst hp
  intro p l e R s m args below meth c A Z E ad H locs lsC K G D hl g1 g2
  exact lv_if_le K.1 K.2.1 hd ht (fun q => kt q p l e R s m args below meth c A Z E ad H locs lsC K G D hl g1 g2) (fun q => kf q p l e R s m args below meth c A Z E ad H locs lsC K G D hl g1 g2)
theorem r_icmp_le {x y : Int32} {off : Int} (tgt : Nat) (hd : fet M pc = .ok (.if_icmp .le off, 3)) (hp : pc + 3 = pc') (ht : (pc : Int) + off = (tgt : Int)) (kt : x ≤ y → wp d M Q kc ks tgt ls st h) (kf : ¬ x ≤ y → wp d M Q kc ks pc' ls st h) : wp d M Q kc ks pc ls (vI y :: vI x :: st) h := by
  subst hp
  intro p l e R s m args below meth c A Z E ad H locs lsC K G D hl g1 g2
  exact lv_icmp_le K.1 K.2.1 hd ht (fun q => kt q p l e R s m args below meth c A Z E ad H locs lsC K G D hl g1 g2) (fun q => kf q p l e R s m args below meth c A Z E ad H locs lsC K G D hl g1 g2)
theorem r_goto {off : Int} (tgt : Nat) (hd : fet M pc = .ok (.goto off, 3)) (ht : (pc : Int) + off = (tgt : Int)) (kk : wp d M Q kc ks tgt ls st h) : wp d M Q kc ks pc ls st h := by
  intro p l e R s m args below meth c A Z E ad H locs lsC K G D hl g1 g2
  exact lv_goto K.1 K.2.1 hd ht (kk p l e R s m args below meth c A Z E ad H locs lsC K G D hl g1 g2)
theorem r_ifnull {o : Option Nat} {off : Int} (tgt : Nat) (hd : fet M pc = .ok (.ifnull off, 3)) (hp : pc + 3 = pc') (ht : (pc : Int) + off = (tgt : Int)) (kt : o = none → wp d M Q kc ks tgt ls st h) (kf : ∀ x, o = some x → wp d M Q kc ks pc' ls st h) : wp d M Q kc ks pc ls (vR o :: st) h := by
  subst hp
  intro p l e R s m args below meth c A Z E ad H locs lsC K G D hl g1 g2
  cases o with
  | none => exact lv_ifnullN K.1 K.2.1 hd ht (kt rfl p l e R s m args below meth c A Z E ad H locs lsC K G D hl g1 g2)
  | some x => exact lv_ifnull K.1 K.2.1 hd (kf x rfl p l e R s m args below meth c A Z E ad H locs lsC K G D hl g1 g2)
theorem r_ifnonnull {o : Option Nat} {off : Int} (tgt : Nat) (hd : fet M pc = .ok (.ifnonnull off, 3)) (hp : pc + 3 = pc') (ht : (pc : Int) + off = (tgt : Int)) (kt : ∀ x, o = some x → wp d M Q kc ks tgt ls st h) (kf : o = none → wp d M Q kc ks pc' ls st h) : wp d M Q kc ks pc ls (vR o :: st) h := by
  subst hp
  intro p l e R s m args below meth c A Z E ad H locs lsC K G D hl g1 g2
  cases o with
  | none => exact lv_ifnonnullN K.1 K.2.1 hd (kf rfl p l e R s m args below meth c A Z E ad H locs lsC K G D hl g1 g2)
  | some x => exact lv_ifnonnull K.1 K.2.1 hd ht (kt x rfl p l e R s m args below meth c A Z E ad H locs lsC K G D hl g1 g2)
theorem ad_inj {E : En} {A : Nat → Prop} {ad : Nat → Nat} {h : Hp} (hD : va_D A (toW E ad h)) {a b : Nat} (ha : a < hn h) (hb : b < hn h) (hab : ad a = ad b) : a = b := hD.1 a b _ _ (toW_at ha) (toW_at hb) hab
theorem r_acmpne {a b : Option Nat} {off : Int} (tgt : Nat) (hd : fet M pc = .ok (.if_acmp .ne off, 3)) (hp : pc + 3 = pc') (ht : (pc : Int) + off = (tgt : Int)) (ha : ∀ x, a = some x → x < hn h) (hb : ∀ x, b = some x → x < hn h) (kt : ¬ a = b → wp d M Q kc ks tgt ls st h) (kf : a = b → wp d M Q kc ks pc' ls st h) : wp d M Q kc ks pc ls (vR b :: vR a :: st) h := by
  subst hp
  intro p l e R s m args below meth c A Z E ad H locs lsC K G D hl g1 g2
  have hinj : a.map ad = b.map ad → a = b := by
    intro q
    cases a with
    | none => cases b with
      | none => rfl
      | some y => cases q
    | some x => cases b with
      | none => cases q
      | some y => exact congrArg some (ad_inj D.2.1 (ha x rfl) (hb y rfl) (Option.some.inj q))
  exact lv_acmp_ne (rx := a.map ad) (ry := b.map ad) K.1 K.2.1 hd ht (fun q => kt (fun w => q (by rw [w])) p l e R s m args below meth c A Z E ad H locs lsC K G D hl g1 g2) (fun q => kf (hinj q) p l e R s m args below meth c A Z E ad H locs lsC K G D hl g1 g2)
theorem r_tableOut {dflt lo hi0 : Int} {offs : Array Int} {len : Nat} {x : Int32} (tgt : Nat) (hd : fet M pc = .ok (.tableswitch dflt lo hi0 offs, len)) (hx : x.toInt < lo ∨ hi0 < x.toInt) (ht : (pc : Int) + dflt = (tgt : Int)) (kk : wp d M Q kc ks tgt ls st h) : wp d M Q kc ks pc ls (vI x :: st) h := by
  intro p l e R s m args below meth c A Z E ad H locs lsC K G D hl g1 g2
  exact lv_tableOut K.1 K.2.1 hd hx ht (kk p l e R s m args below meth c A Z E ad H locs lsC K G D hl g1 g2)
theorem r_tableIn {dflt lo hi0 : Int} {offs : Array Int} {len : Nat} {x : Int32} {off : Int} (tgt : Nat) (hd : fet M pc = .ok (.tableswitch dflt lo hi0 offs, len)) (h1 : ¬ x.toInt < lo) (h2 : ¬ hi0 < x.toInt) (ho : offs[(x.toInt - lo).toNat]? = some off) (ht : (pc : Int) + off = (tgt : Int)) (kk : wp d M Q kc ks tgt ls st h) : wp d M Q kc ks pc ls (vI x :: st) h := by
  intro p l e R s m args below meth c A Z E ad H locs lsC K G D hl g1 g2
  exact lv_tableIn K.1 K.2.1 hd h1 h2 ho ht (kk p l e R s m args below meth c A Z E ad H locs lsC K G D hl g1 g2)
theorem r_lookup {dflt : Int} {ps : Array (Int × Int)} {len : Nat} {x : Int32} {off : Int} (tgt : Nat) (hd : fet M pc = .ok (.lookupswitch dflt ps, len)) (hp : (ps.toList.zip (ps.toList.drop 1)).all (fun (a, next) => a.1 < next.1) = true) (ho : Op.lookupswitch.offset ps.toList dflt x.toInt = off) (ht : (pc : Int) + off = (tgt : Int)) (kk : wp d M Q kc ks tgt ls st h) : wp d M Q kc ks pc ls (vI x :: st) h := by
  intro p l e R s m args below meth c A Z E ad H locs lsC K G D hl g1 g2
  exact lv_lookup K.1 K.2.1 hd hp ho ht (kk p l e R s m args below meth c A Z E ad H locs lsC K G D hl g1 g2)
theorem r_iret {x : Int32} {t : FieldType} (hd : fet M pc = .ok (.ireturn, 1)) (hr0 : rt M = some t) (hn0 : narrow t (.int x) = .int x) (kk : Q (some (vI x)) h) : wp d M Q kc ks pc ls [vI x] h := by
  intro p l e R s m args below meth c A Z E ad H locs lsC K G D hl g1 g2
  exact G ad (some (vI x)) h H locs kc ks pc lsC (fun _ _ => rfl) (Nat.le_refl _) (fun _ => ⟨rfl, rfl⟩) kk D g1 g2 ⟨hd, t, hr0, hn0⟩
theorem r_aret {o : Option Nat} {t : FieldType} (hd : fet M pc = .ok (.areturn, 1)) (hr0 : rt M = some t) (ht : (∃ n, t = .object n) ∨ ∃ u, t = .array u) (kk : Q (some (vR o)) h) : wp d M Q kc ks pc ls [vR o] h := by
  intro p l e R s m args below meth c A Z E ad H locs lsC K G D hl g1 g2
  exact G ad (some (vR o)) h H locs kc ks pc lsC (fun _ _ => rfl) (Nat.le_refl _) (fun _ => ⟨rfl, rfl⟩) kk D g1 g2 ⟨hd, t, hr0, ht⟩
theorem r_ret (hd : fet M pc = .ok (.return_, 1)) (hr0 : rt M = none) (kk : Q none h) : wp d M Q kc ks pc ls [] h := by
  intro p l e R s m args below meth c A Z E ad H locs lsC K G D hl g1 g2
  exact G ad none h H locs kc ks pc lsC (fun _ _ => rfl) (Nat.le_refl _) (fun _ => ⟨rfl, rfl⟩) kk D g1 g2 ⟨hd, hr0⟩
def SiteF (o : String) (idx ci k : Nat) (b : Bool) : Prop := (FK ci)[k]? = some b ∧ ∃ q : vw_C, classes[ci]? = some q ∧ k < q.2.2 ∧ (∀ w ∈ u_ws q.1 q.2.1 q.2.2, w ∈ TBL) ∧ Cond.fieldLink o idx (q.2.1 k).1 (q.2.1 k).2.1 (q.2.1 k).2.2.1 ∈ TBL
def ClsOK (q : vw_C) : Prop := (∃ ty : Nat → FieldType, ∀ k, k < q.2.2 → parseFieldDescriptor (q.2.1 k).2.2.1 = some (ty k)) ∧ ∀ a, a < q.2.2 → ∀ b, b < q.2.2 → a ≠ b → (q.2.1 a).2.1 ≠ (q.2.1 b).2.1
def SiteP (o : String) (idx ci k : Nat) (b : Bool) (ty : FieldType) (fin : Bool) : Prop := (FK ci)[k]? = some b ∧ ∃ q : vw_C, classes[ci]? = some q ∧ k < q.2.2 ∧ (∀ w ∈ u_ws q.1 q.2.1 q.2.2, w ∈ TBL) ∧ Cond.fieldLink o idx (q.2.1 k).1 (q.2.1 k).2.1 (q.2.1 k).2.2.1 ∈ TBL ∧ ClsOK q ∧ parseFieldDescriptor (q.2.1 k).2.2.1 = some ty ∧ ((fin = false ∧ (q.2.1 k).2.2.2 = false) ∨ fin = true ∧ (q.2.1 k).2.2.2 = true ∧ (q.2.1 k).1 = o)
theorem cell_obj {E : En} {ad : Nat → Nat} {h : Hp} {o ci : Nat} (hsh : SH o = (0, ci)) : cell E ad h o = .inr (ci, fv ad (hi h o) (hr h o) 0 (FK ci)) := by
  unfold cell; rw [hsh]; rfl
theorem cell_int {E : En} {ad : Nat → Nat} {h : Hp} {o n : Nat} (hsh : SH o = (1, n)) : cell E ad h o = .inl (E.2.1, n, .inl (hi h o)) := by
  unfold cell; rw [hsh]; rfl
theorem cell_bool {E : En} {ad : Nat → Nat} {h : Hp} {o n : Nat} (hsh : SH o = (2, n)) : cell E ad h o = .inl (E.2.2.1, n, .inl (hi h o)) := by
  unfold cell; rw [hsh]; rfl
theorem cell_kinds {E : En} {ad : Nat → Nat} {h : Hp} {o n : Nat} (hsh : SH o = (3, n)) : cell E ad h o = .inl (E.2.2.2.1, n, .inr (.inr (.inr (.inr (rrow (hr h o) ad))))) := by
  unfold cell; rw [hsh]; rfl
theorem cell_things {E : En} {ad : Nat → Nat} {h : Hp} {o n : Nat} (hsh : SH o = (4, n)) : cell E ad h o = .inl (E.2.2.2.2, n, .inr (.inr (.inr (.inr (rrow (hr h o) ad))))) := by
  unfold cell; rw [hsh]; rfl
theorem r_getI {o ci k idx : Nat} (hd : fet M pc = .ok (.getfield idx, 3)) (hp : pc + 3 = pc') {on : String} (hon : own M = on) (hs : SiteF on idx ci k true) (hsh : SH o = (0, ci)) (ho : o < hn h) (kk : wp d M Q kc ks pc' ls (vI (hi h o k) :: st) h) : wp d M Q kc ks pc ls (vR (some o) :: st) h := by
  subst hp
  intro p l e R s m args below meth c A Z E ad H locs lsC K G D hl g1 g2
  subst hon
  obtain ⟨hb, q, q1, q2, q3, q4⟩ := hs
  have hv := fv_get (ad := ad) (f := hi h o) (g := hr h o) (FK ci) 0 k _ hb
  rw [Nat.zero_add] at hv
  exact va_get (D := E.1) (T := q.2.1) (a := ad o) K.1 K.2.1 K.2.2.2.2.1 q3 K.2.2.2.1 K.2.2.2.2.2.1 D.1 o (by rw [toW_at ho, cell_obj hsh]) q1 k q2 (K.2.2.2.2.1 _ q4) (fun _ w => w) hv hd (kk p l e R s m args below meth c A Z E ad H locs lsC K G D hl g1 g2)
theorem r_getR {o ci k idx : Nat} (hd : fet M pc = .ok (.getfield idx, 3)) (hp : pc + 3 = pc') {on : String} (hon : own M = on) (hs : SiteF on idx ci k false) (hsh : SH o = (0, ci)) (ho : o < hn h) (kk : wp d M Q kc ks pc' ls (vR (hr h o k) :: st) h) : wp d M Q kc ks pc ls (vR (some o) :: st) h := by
  subst hp
  intro p l e R s m args below meth c A Z E ad H locs lsC K G D hl g1 g2
  subst hon
  obtain ⟨hb, q, q1, q2, q3, q4⟩ := hs
  have hv := fv_get (ad := ad) (f := hi h o) (g := hr h o) (FK ci) 0 k _ hb
  rw [Nat.zero_add] at hv
  exact va_get (D := E.1) (T := q.2.1) (a := ad o) K.1 K.2.1 K.2.2.2.2.1 q3 K.2.2.2.1 K.2.2.2.2.2.1 D.1 o (by rw [toW_at ho, cell_obj hsh]) q1 k q2 (K.2.2.2.2.1 _ q4) (fun _ w => w) hv hd (kk p l e R s m args below meth c A Z E ad H locs lsC K G D hl g1 g2)
theorem r_putI {x : Int32} {o ci k idx : Nat} {ty : FieldType} (hd : fet M pc = .ok (.putfield idx, 3)) (hp : pc + 3 = pc') {on : String} {fin : Bool} (hon : own M = on) (hs : SiteP on idx ci k true ty fin) (hsh : SH o = (0, ci)) (hfin : fin = true → (ym M).name = "<init>") (hty : ty = .int ∨ ty = .boolean ∧ (x = 0 ∨ x = 1)) (ho : o < hn h) (kk : wp d M Q kc ks pc' ls st (seti h o k x)) : wp d M Q kc ks pc ls (vI x :: vR (some o) :: st) h := by
  subst hp
  intro p l e R s m args below meth c A Z E ad H locs lsC K G D hl g1 g2
  subst hon
  obtain ⟨hb, q, q1, q2, q3, q4, ⟨⟨ty0, q5⟩, q6⟩, q7, q8⟩ := hs
  have hv := fv_setI (ad := ad) (f := hi h o) (g := hr h o) (v := x) (FK ci) 0 k hb
  rw [Nat.zero_add] at hv
  have hnar : narrow ty (.int x) = .int x ∧ fits ty (.int x) = true := by
    rcases hty with rfl | ⟨rfl, rfl | rfl⟩
    · exact ⟨vp_nar_int x, rfl⟩
    · exact ⟨rfl, rfl⟩
    · exact ⟨rfl, rfl⟩
  have hset : (toW E ad h).set o (ad o, .inr (ci, (fv ad (hi h o) (hr h o) 0 (FK ci)).set k (.int x))) = toW E ad (seti h o k x) := by
    refine toW_set rfl ?_ (fun a ha => hi_seti_ne h o k x a ha) (fun a _ => by rw [hr_seti])
    rw [cell_obj hsh, hv, hi_seti_row, hr_seti]
  have hlen : k < (fv ad (hi h o) (hr h o) 0 (FK ci)).length := by rw [fv_len]; exact (List.getElem?_eq_some_iff.mp hb).1
  rcases q8 with w | w
  · refine va_put (D := E.1) (T := q.2.1) (a := ad o) (v := .int x) K.1 K.2.1 K.2.2.2.2.1 q3 ty0 q5 q6 K.2.2.2.1 K.2.2.2.2.2.1 D.1 D.2.1 D.2.2 o (by rw [toW_at ho, cell_obj hsh]) q1 k q2 (K.2.2.2.2.1 _ q4) (fun _ w => w) w.2 q7 hnar.1 hnar.2 hlen hd (fun H1 locs1 e1 e2 e3 => ?_)
    rw [hset] at e1 e2
    exact kk p l e R s m args below meth c A Z E ad H1 locs1 lsC K G ⟨e1, e2, e3⟩ hl g1 g2
  · refine va_putF (D := E.1) (T := q.2.1) (a := ad o) (v := .int x) K.1 K.2.1 K.2.2.2.2.1 q3 ty0 q5 q6 K.2.2.2.1 K.2.2.2.2.2.1 D.1 D.2.1 D.2.2 o (by rw [toW_at ho, cell_obj hsh]) q1 k q2 (K.2.2.2.2.1 _ q4) (fun _ w => w) w.2.1 (K.2.2.2.2.2.2.2.2.2.2.2.2.trans (hfin w.1)) w.2.2 q7 hnar.1 hnar.2 hlen hd (fun H1 locs1 e1 e2 e3 => ?_)
    rw [hset] at e1 e2
    exact kk p l e R s m args below meth c A Z E ad H1 locs1 lsC K G ⟨e1, e2, e3⟩ hl g1 g2
theorem r_putR {x : Option Nat} {o ci k idx : Nat} {ty : FieldType} (hd : fet M pc = .ok (.putfield idx, 3)) (hp : pc + 3 = pc') {on : String} {fin : Bool} (hon : own M = on) (hs : SiteP on idx ci k false ty fin) (hsh : SH o = (0, ci)) (hfin : fin = true → (ym M).name = "<init>") (hty : (∃ n, ty = .object n) ∨ ∃ u, ty = .array u) (ho : o < hn h) (kk : wp d M Q kc ks pc' ls st (setr h o k x)) : wp d M Q kc ks pc ls (vR x :: vR (some o) :: st) h := by
  subst hp
  intro p l e R s m args below meth c A Z E ad H locs lsC K G D hl g1 g2
  subst hon
  obtain ⟨hb, q, q1, q2, q3, q4, ⟨⟨ty0, q5⟩, q6⟩, q7, q8⟩ := hs
  have hv := fv_setR (ad := ad) (f := hi h o) (g := hr h o) (v := x) (FK ci) 0 k hb
  rw [Nat.zero_add] at hv
  have hnar : narrow ty (va_rf (x.map ad)) = va_rf (x.map ad) ∧ fits ty (va_rf (x.map ad)) = true := by
    rcases hty with ⟨n, rfl⟩ | ⟨n, rfl⟩ <;> cases x <;> exact ⟨rfl, rfl⟩
  have hset : (toW E ad h).set o (ad o, .inr (ci, (fv ad (hi h o) (hr h o) 0 (FK ci)).set k (va_rf (x.map ad)))) = toW E ad (setr h o k x) := by
    refine toW_set rfl ?_ (fun a _ => by rw [hi_setr]) (fun a ha => hr_setr_ne h o k x a ha)
    rw [cell_obj hsh, hv, hr_setr_row, hi_setr]
  have hlen : k < (fv ad (hi h o) (hr h o) 0 (FK ci)).length := by rw [fv_len]; exact (List.getElem?_eq_some_iff.mp hb).1
  rcases q8 with w | w
  · refine va_put (D := E.1) (T := q.2.1) (a := ad o) (v := va_rf (x.map ad)) K.1 K.2.1 K.2.2.2.2.1 q3 ty0 q5 q6 K.2.2.2.1 K.2.2.2.2.2.1 D.1 D.2.1 D.2.2 o (by rw [toW_at ho, cell_obj hsh]) q1 k q2 (K.2.2.2.2.1 _ q4) (fun _ w => w) w.2 q7 hnar.1 hnar.2 hlen hd (fun H1 locs1 e1 e2 e3 => ?_)
    rw [hset] at e1 e2
    exact kk p l e R s m args below meth c A Z E ad H1 locs1 lsC K G ⟨e1, e2, e3⟩ hl g1 g2
  · refine va_putF (D := E.1) (T := q.2.1) (a := ad o) (v := va_rf (x.map ad)) K.1 K.2.1 K.2.2.2.2.1 q3 ty0 q5 q6 K.2.2.2.1 K.2.2.2.2.2.1 D.1 D.2.1 D.2.2 o (by rw [toW_at ho, cell_obj hsh]) q1 k q2 (K.2.2.2.2.1 _ q4) (fun _ w => w) w.2.1 (K.2.2.2.2.2.2.2.2.2.2.2.2.trans (hfin w.1)) w.2.2 q7 hnar.1 hnar.2 hlen hd (fun H1 locs1 e1 e2 e3 => ?_)
    rw [hset] at e1 e2
    exact kk p l e R s m args below meth c A Z E ad H1 locs1 lsC K G ⟨e1, e2, e3⟩ hl g1 g2
theorem r_iald {o n : Nat} {i : Int32} (hd : fet M pc = .ok (.iaload, 1)) (hp : pc + 1 = pc') (hsh : SH o = (1, n)) (ho : o < hn h) (hin : vp_in i n) (kk : wp d M Q kc ks pc' ls (vI (hi h o i.toNatClampNeg) :: st) h) : wp d M Q kc ks pc ls (vI i :: vR (some o) :: st) h := by
  subst hp
  intro p l e R s m args below meth c A Z E ad H locs lsC K G D hl g1 g2
  exact va_iald (D := E.1) (a := ad o) K.1 K.2.1 K.2.2.2.2.2.1 D.1 o 0 (by rw [toW_at ho, cell_int hsh]) rfl hin hd (kk p l e R s m args below meth c A Z E ad H locs lsC K G D hl g1 g2)
theorem r_bald {o n : Nat} {i : Int32} (hd : fet M pc = .ok (.baload, 1)) (hp : pc + 1 = pc') (hsh : SH o = (2, n)) (ho : o < hn h) (hin : vp_in i n) (kk : wp d M Q kc ks pc' ls (vI (hi h o i.toNatClampNeg) :: st) h) : wp d M Q kc ks pc ls (vI i :: vR (some o) :: st) h := by
  subst hp
  intro p l e R s m args below meth c A Z E ad H locs lsC K G D hl g1 g2
  exact va_zald (D := E.1) (a := ad o) K.1 K.2.1 K.2.2.2.2.2.1 D.1 o 1 (by rw [toW_at ho, cell_bool hsh]) rfl hin hd (kk p l e R s m args below meth c A Z E ad H locs lsC K G D hl g1 g2)
theorem r_iast {o n : Nat} {i x : Int32} (hd : fet M pc = .ok (.iastore, 1)) (hp : pc + 1 = pc') (hsh : SH o = (1, n)) (ho : o < hn h) (hin : vp_in i n) (kk : wp d M Q kc ks pc' ls st (seti h o i.toNatClampNeg x)) : wp d M Q kc ks pc ls (vI x :: vI i :: vR (some o) :: st) h := by
  subst hp
  intro p l e R s m args below meth c A Z E ad H locs lsC K G D hl g1 g2
  have hset : (toW E ad h).set o (ad o, .inl (E.2.1, n, .inl (upd (hi h o) i.toNatClampNeg x))) = toW E ad (seti h o i.toNatClampNeg x) := by
    refine toW_set rfl ?_ (fun a ha => hi_seti_ne h o _ x a ha) (fun a _ => by rw [hr_seti])
    rw [cell_int hsh, hi_seti_row]
  refine va_iast (D := E.1) (a := ad o) K.1 K.2.1 K.2.2.2.2.2.1 D.1 D.2.1 D.2.2 o 0 (by rw [toW_at ho, cell_int hsh]) rfl hin hd (fun H1 locs1 e1 e2 e3 => ?_)
  rw [hset] at e1 e2
  exact kk p l e R s m args below meth c A Z E ad H1 locs1 lsC K G ⟨e1, e2, e3⟩ hl g1 g2
theorem r_bast {o n : Nat} {i x : Int32} (hd : fet M pc = .ok (.bastore, 1)) (hp : pc + 1 = pc') (hsh : SH o = (2, n)) (ho : o < hn h) (hin : vp_in i n) (kk : wp d M Q kc ks pc' ls st (seti h o i.toNatClampNeg (vp_nar .boolean x))) : wp d M Q kc ks pc ls (vI x :: vI i :: vR (some o) :: st) h := by
  subst hp
  intro p l e R s m args below meth c A Z E ad H locs lsC K G D hl g1 g2
  have hset : (toW E ad h).set o (ad o, .inl (E.2.2.1, n, .inl (upd (hi h o) i.toNatClampNeg (vp_nar .boolean x)))) = toW E ad (seti h o i.toNatClampNeg (vp_nar .boolean x)) := by
    refine toW_set rfl ?_ (fun a ha => hi_seti_ne h o _ _ a ha) (fun a _ => by rw [hr_seti])
    rw [cell_bool hsh, hi_seti_row]
  refine va_zast (D := E.1) (a := ad o) K.1 K.2.1 K.2.2.2.2.2.1 D.1 D.2.1 D.2.2 o 1 (by rw [toW_at ho, cell_bool hsh]) rfl hin hd (fun H1 locs1 e1 e2 e3 => ?_)
  rw [hset] at e1 e2
  exact kk p l e R s m args below meth c A Z E ad H1 locs1 lsC K G ⟨e1, e2, e3⟩ hl g1 g2
theorem r_aaldK {o n : Nat} {i : Int32} (hd : fet M pc = .ok (.aaload, 1)) (hp : pc + 1 = pc') (hsh : SH o = (3, n)) (ho : o < hn h) (hin : vp_in i n) (kk : wp d M Q kc ks pc' ls (vR (hr h o i.toNatClampNeg) :: st) h) : wp d M Q kc ks pc ls (vI i :: vR (some o) :: st) h := by
  subst hp
  intro p l e R s m args below meth c A Z E ad H locs lsC K G D hl g1 g2
  exact va_aldq (D := E.1) (a := ad o) (f := rrow (hr h o) ad) K.1 K.2.1 K.2.2.2.2.2.1 D.1 o 2 (by rw [toW_at ho, cell_kinds hsh]) rfl hin hd (kk p l e R s m args below meth c A Z E ad H locs lsC K G D hl g1 g2)
theorem r_aaldT {o n : Nat} {i : Int32} (hd : fet M pc = .ok (.aaload, 1)) (hp : pc + 1 = pc') (hsh : SH o = (4, n)) (ho : o < hn h) (hin : vp_in i n) (kk : wp d M Q kc ks pc' ls (vR (hr h o i.toNatClampNeg) :: st) h) : wp d M Q kc ks pc ls (vI i :: vR (some o) :: st) h := by
  subst hp
  intro p l e R s m args below meth c A Z E ad H locs lsC K G D hl g1 g2
  exact va_aldq (D := E.1) (a := ad o) (f := rrow (hr h o) ad) K.1 K.2.1 K.2.2.2.2.2.1 D.1 o 3 (by rw [toW_at ho, cell_things hsh]) rfl hin hd (kk p l e R s m args below meth c A Z E ad H locs lsC K G D hl g1 g2)
theorem r_alen {o n t : Nat} (hd : fet M pc = .ok (.arraylength, 1)) (hp : pc + 1 = pc') (hsh : SH o = (t, n)) (ht : 0 < t ∧ t < 5) (ho : o < hn h) (kk : wp d M Q kc ks pc' ls (vI (nI n) :: st) h) : wp d M Q kc ks pc ls (vR (some o) :: st) h := by
  subst hp
  intro p l e R s m args below meth c A Z E ad H locs lsC K G D hl g1 g2
  rcases (show t = 1 ∨ t = 2 ∨ t = 3 ∨ t = 4 by omega) with rfl | rfl | rfl | rfl
  · exact va_alen (D := E.1) (a := ad o) (x := (n, .inl (hi h o))) K.1 K.2.1 K.2.2.2.2.2.1 D.1 o 0 (by rw [toW_at ho, cell_int hsh]) rfl rfl hd (kk p l e R s m args below meth c A Z E ad H locs lsC K G D hl g1 g2)
  · exact va_alen (D := E.1) (a := ad o) (x := (n, .inl (hi h o))) K.1 K.2.1 K.2.2.2.2.2.1 D.1 o 1 (by rw [toW_at ho, cell_bool hsh]) rfl rfl hd (kk p l e R s m args below meth c A Z E ad H locs lsC K G D hl g1 g2)
  · exact va_alen (D := E.1) (a := ad o) (x := (n, .inr (.inr (.inr (.inr (rrow (hr h o) ad)))))) K.1 K.2.1 K.2.2.2.2.2.1 D.1 o 2 (by rw [toW_at ho, cell_kinds hsh]) rfl rfl hd (kk p l e R s m args below meth c A Z E ad H locs lsC K G D hl g1 g2)
  · exact va_alen (D := E.1) (a := ad o) (x := (n, .inr (.inr (.inr (.inr (rrow (hr h o) ad)))))) K.1 K.2.1 K.2.2.2.2.2.1 D.1 o 3 (by rw [toW_at ho, cell_things hsh]) rfl rfl hd (kk p l e R s m args below meth c A Z E ad H locs lsC K G D hl g1 g2)
end Rules
