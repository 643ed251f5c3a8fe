/-! the law's own judgement: wp with the script at place 999 (printed by wip/whole/p99.py) -/
def LX (b L : Nat) (xs : Nat → Int32) (s : State) (A : Nat → Prop) (ad : Nat → Nat) : Prop := ad 999 = b ∧ va_X b L xs s s.heap ∧ b < s.heap.size ∧ ¬ A b
/-- what the law's frame stands on: OKX without the method's name -/
def OKL (p : Program) (R : Room) (s : State) (m : MethodId) (args : Array Value) (c : Code) (A : Nat → Prop) (E : En) (d M : Nat) : Prop :=
  p.tables.exec = Jvm.exec ∧ c.code = bt M ∧ c.maxLocals = ml M ∧ s.vm.findClass (own M) = some m.cls ∧ (∀ w ∈ TBL, w.before args s = true) ∧ va_K E.1 classes (tysE E) s ∧ (∀ q, s.heap.size ≤ q → A q) ∧ NC s ∧ d ≤ R.frames ∧ 40 * d ≤ R.locals ∧ mc M ≤ R.cells ∧ ms M ≤ R.slots
def lwp (b0 L0 : Nat) (xs0 : Nat → Int32) (d M : Nat) (Q : Option AV → Hp → Prop) (kc ks pc : Nat) (ls : List (Nat × AV)) (st : List AV) (h : Hp) : Prop :=
  ∀ (p : Program) (l : Launch) (e : Env) (R : Room) (s : State) (m : MethodId) (args : Array Value) (below : List Frame) (meth : Method) (c : Code) (A : Nat → Prop) (Z : State → Prop) (E : En) (ad : Nat → Nat) (H : Heap) (locs : List Loc) (lsC : Array Slot),
    OKL p R s m args c A E d M → RT p l e R s m args below meth c A Z E ad (hn h) M Q → WD E A ad h s.heap H locs → lv_has lsC (ml M) (lc ad ls) → kc ≤ mc M → ks ≤ ms M → LX b0 L0 xs0 s A ad → W p l e R s m args below meth c H locs kc ks Z (F0 m pc lsC (st.map (cv ad)))
/-- a call's run in the law, out of the site and the callee's contract -/
theorem site_runL {d M : Nat} {kc ks pc : Nat} {ls : List (Nat × AV)} {st st0 : List AV} {h : Hp} {M' : Nat} {ins : Instr} {cr : Option Nat} {av : List AV} {Q' : Option AV → Hp → Prop} {p : Program} {l : Launch} {e : Env} {R : Room} {s : State} {m : MethodId} {args : Array Value} {below : List Frame} {meth : Method} {c : Code} {A : Nat → Prop} {E : En} {ad : Nat → Nat} {H : Heap} {locs : List Loc} {lsC : Array Slot}
    (K : OKL p R s m args c A E (d + 1) M) (D : WD E A ad h s.heap H locs) (hl : lv_has lsC (ml M) (lc ad ls))
    (hd : fet M pc = .ok (ins, 3)) {on : String} (hon : own M = on) (hs : Site on ins cr M') (hcr : rcv cr av h) (hlen : av.length = na M' + (if cr.isSome then 1 else 0)) (hml : ml M' ≤ 20) (hwt : (st.map wt).sum ≤ 8) (hst : st0 = av.reverse ++ st) (hkc : kc + mc M' ≤ mc M) (hks : ks + ms M' ≤ ms M) (kk : Spec d M' av h Q') :
    va_Run p l e R s m args below meth c H locs kc ks (mc M') (ms M') (F0 m pc lsC (st0.map (cv ad))) (st.map (cv ad)) (PostC E ad h Q' M' H.size (av.map (cv ad)).toArray) (va_A (toW E ad h) H.size) := by
  subst hon
  obtain ⟨k1, k2, k3, k4, k5, k6, k7, k8, k9, k10, k11, k12⟩ := K
  refine hs p l e R s m args below meth c H locs kc ks (bt M) (ml M) (PreC E ad h av H.size) (PostC E ad h Q' M' H.size) (va_A (toW E ad h) H.size) (rmD d M') (av.map (cv ad)) (st.map (cv ad)) (F0 m pc lsC (st0.map (cv ad))) E ⟨k1, k2, k3, k4, k5⟩ k8 k6 (kk l E ad H.size) rfl rfl ⟨k9, ?_⟩ PreC.blind ?_ ?_ ?_ rfl hl.1 ?_ ?_ hd ⟨Nat.le_trans hkc k11, Nat.le_trans hks k12⟩
  · show 8 + (ml M' + 11) + 40 * d ≤ R.locals
    omega
  · intro U hU hW
    exact ⟨rfl, by rw [hU], ⟨by rw [hU]; exact D.1, va_K.moved hW.alike k6, k8.warm hW⟩, D.2.1.weaken (fun _ _ _ _ => trivial)⟩
  · intro ci hci
    obtain ⟨o, t, rfl, hsh, ho⟩ := hcr ci hci
    have he : (toW E ad h)[o]? = some (ad o, .inr (ci, fv ad (hi h o) (hr h o) 0 (FK ci))) := by rw [toW_at ho, cell_obj hsh]
    obtain ⟨q, hq, -⟩ := D.1 o _ he
    obtain ⟨cl, c1, c2, c3⟩ := va_recv k6 D.1 hq he
    exact ⟨ad o, t.map (cv ad), q, cl, rfl, hq, c1, c2, c3⟩
  · rw [List.length_map]; exact hlen
  · rw [hst, List.map_append, List.map_reverse]
  · refine lv_room ?_
    rw [cat_sum]
    exact hwt
section Lw
variable {b0 L0 : Nat} {xs0 : Nat → Int32} {d M : Nat} {Q : Option AV → Hp → Prop} {kc ks pc pc' : Nat} {ls ls' : List (Nat × AV)} {st st0 : List AV} {h : Hp}
theorem l_iload_n {k : Fin 4} {i : Nat} {x : Int32} (hd : fet M pc = .ok (.iload_n k, 1)) (hp : pc + 1 = pc') (hi0 : (k : Nat) = i) (hk : lk ls i = some (vI x)) (kk : lwp b0 L0 xs0 d M Q kc ks pc' ls (vI x :: st) h) : lwp b0 L0 xs0 d M Q kc ks pc ls (st) h := by
  subst hp
  intro p l e R s m args below meth c A Z E ad H locs lsC K G D hl g1 g2 g3
  exact lv_iload_n K.1 K.2.1 hd hi0 (lc_lk hl hk) (kk p l e R s m args below meth c A Z E ad H locs lsC K G D hl g1 g2 g3)
theorem l_aload_n {k : Fin 4} {i : Nat} {x : Nat} (hd : fet M pc = .ok (.aload_n k, 1)) (hp : pc + 1 = pc') (hi0 : (k : Nat) = i) (hk : lk ls i = some (vR (some x))) (kk : lwp b0 L0 xs0 d M Q kc ks pc' ls (vR (some x) :: st) h) : lwp b0 L0 xs0 d M Q kc ks pc ls (st) h := by
  subst hp
  intro p l e R s m args below meth c A Z E ad H locs lsC K G D hl g1 g2 g3
  exact lv_aload_n K.1 K.2.1 hd hi0 (lc_lk hl hk) (kk p l e R s m args below meth c A Z E ad H locs lsC K G D hl g1 g2 g3)
theorem l_iadd {x y : Int32} (hd : fet M pc = .ok (.iadd, 1)) (hp : pc + 1 = pc')  (kk : lwp b0 L0 xs0 d M Q kc ks pc' ls (vI (x + y) :: st) h) : lwp b0 L0 xs0 d M Q kc ks pc ls (vI y :: vI x :: st) h := by
  subst hp
  intro p l e R s m args below meth c A Z E ad H locs lsC K G D hl g1 g2 g3
  exact lv_iadd K.1 K.2.1 hd (kk p l e R s m args below meth c A Z E ad H locs lsC K G D hl g1 g2 g3)
theorem l_isub {x y : Int32} (hd : fet M pc = .ok (.isub, 1)) (hp : pc + 1 = pc')  (kk : lwp b0 L0 xs0 d M Q kc ks pc' ls (vI (x - y) :: st) h) : lwp b0 L0 xs0 d M Q kc ks pc ls (vI y :: vI x :: st) h := by
  subst hp
  intro p l e R s m args below meth c A Z E ad H locs lsC K G D hl g1 g2 g3
  exact lv_isub K.1 K.2.1 hd (kk p l e R s m args below meth c A Z E ad H locs lsC K G D hl g1 g2 g3)
theorem l_iand {x y : Int32} (hd : fet M pc = .ok (.iand, 1)) (hp : pc + 1 = pc')  (kk : lwp b0 L0 xs0 d M Q kc ks pc' ls (vI (x &&& y) :: st) h) : lwp b0 L0 xs0 d M Q kc ks pc ls (vI y :: vI x :: st) h := by
  subst hp
  intro p l e R s m args below meth c A Z E ad H locs lsC K G D hl g1 g2 g3
  exact lv_iand K.1 K.2.1 hd (kk p l e R s m args below meth c A Z E ad H locs lsC K G D hl g1 g2 g3)
theorem l_bipush {n : Int} {v : Int32} (hd : fet M pc = .ok (.bipush n, 2)) (hp : pc + 2 = pc') (hv : (Int8.ofInt n).toInt32 = v) (kk : lwp b0 L0 xs0 d M Q kc ks pc' ls (vI v :: st) h) : lwp b0 L0 xs0 d M Q kc ks pc ls (st) h := by
  subst hp
  intro p l e R s m args below meth c A Z E ad H locs lsC K G D hl g1 g2 g3
  exact lv_bipush K.1 K.2.1 hd hv (kk p l e R s m args below meth c A Z E ad H locs lsC K G D hl g1 g2 g3)
theorem l_iconst {n : Int} {v : Int32} (hd : fet M pc = .ok (.iconst n, 1)) (hp : pc + 1 = pc') (hv : Int32.ofInt n = v) (kk : lwp b0 L0 xs0 d M Q kc ks pc' ls (vI v :: st) h) : lwp b0 L0 xs0 d M Q kc ks pc ls (st) h := by
  subst hp
  intro p l e R s m args below meth c A Z E ad H locs lsC K G D hl g1 g2 g3
  exact lv_iconst K.1 K.2.1 hd hv (kk p l e R s m args below meth c A Z E ad H locs lsC K G D hl g1 g2 g3)
theorem l_iinc {i : Nat} {n : Int} {x v : Int32} (hd : fet M pc = .ok (.iinc i n, 3)) (hp : pc + 3 = pc') (hk : lk ls i = some (vI x)) (hv : x + Int32.ofInt n = v) (hlt : i < ml M) (hst : stL i (vI v) ls = ls') (kk : lwp b0 L0 xs0 d M Q kc ks pc' ls' st h) : lwp b0 L0 xs0 d M Q kc ks pc ls st h := by
  subst hp
  subst hst
  intro p l e R s m args below meth c A Z E ad H locs lsC K G D hl g1 g2 g3
  obtain ⟨k, hk2⟩ := lc_ix (ad := ad) hk
  exact lv_iinc K.1 K.2.1 hd hl hk2 hv hlt (lc_st ad i (vI v) ls) (fun lsC' hl' => kk p l e R s m args below meth c A Z E ad H locs lsC' K G D hl' g1 g2 g3)
theorem l_goto {off : Int} (tgt : Nat) (hd : fet M pc = .ok (.goto off, 3)) (ht : (pc : Int) + off = (tgt : Int)) (kk : lwp b0 L0 xs0 d M Q kc ks tgt ls st h) : lwp b0 L0 xs0 d M Q kc ks pc ls st h := by
  intro p l e R s m args below meth c A Z E ad H locs lsC K G D hl g1 g2 g3
  exact lv_goto K.1 K.2.1 hd ht (kk p l e R s m args below meth c A Z E ad H locs lsC K G D hl g1 g2 g3)
theorem l_icmp_eq {x y : Int32} {off : Int} (tgt : Nat) (hd : fet M pc = .ok (.if_icmp .eq off, 3)) (hp : pc + 3 = pc') (ht : (pc : Int) + off = (tgt : Int)) (kt : x = y → lwp b0 L0 xs0 d M Q kc ks tgt ls st h) (kf : ¬ x = y → lwp b0 L0 xs0 d M Q kc ks pc' ls st h) : lwp b0 L0 xs0 d M Q kc ks pc ls (vI y :: vI x :: st) h := by
  subst hp
  intro p l e R s m args below meth c A Z E ad H locs lsC K G D hl g1 g2 g3
  exact lv_icmp_eq K.1 K.2.1 hd ht (fun q => kt q p l e R s m args below meth c A Z E ad H locs lsC K G D hl g1 g2 g3) (fun q => kf q p l e R s m args below meth c A Z E ad H locs lsC K G D hl g1 g2 g3)
theorem l_icmp_ne {x y : Int32} {off : Int} (tgt : Nat) (hd : fet M pc = .ok (.if_icmp .ne off, 3)) (hp : pc + 3 = pc') (ht : (pc : Int) + off = (tgt : Int)) (kt : ¬ x = y → lwp b0 L0 xs0 d M Q kc ks tgt ls st h) (kf : x = y → lwp b0 L0 xs0 d M Q kc ks pc' ls st h) : lwp b0 L0 xs0 d M Q kc ks pc ls (vI y :: vI x :: st) h := by
  subst hp
  intro p l e R s m args below meth c A Z E ad H locs lsC K G D hl g1 g2 g3
  exact lv_icmp_ne K.1 K.2.1 hd ht (fun q => kt q p l e R s m args below meth c A Z E ad H locs lsC K G D hl g1 g2 g3) (fun q => kf q p l e R s m args below meth c A Z E ad H locs lsC K G D hl g1 g2 g3)
theorem l_icmp_gt {x y : Int32} {off : Int} (tgt : Nat) (hd : fet M pc = .ok (.if_icmp .gt off, 3)) (hp : pc + 3 = pc') (ht : (pc : Int) + off = (tgt : Int)) (kt : y < x → lwp b0 L0 xs0 d M Q kc ks tgt ls st h) (kf : ¬ y < x → lwp b0 L0 xs0 d M Q kc ks pc' ls st h) : lwp b0 L0 xs0 d M Q kc ks pc ls (vI y :: vI x :: st) h := by
  subst hp
  intro p l e R s m args below meth c A Z E ad H locs lsC K G D hl g1 g2 g3
  exact lv_icmp_gt K.1 K.2.1 hd ht (fun q => kt q p l e R s m args below meth c A Z E ad H locs lsC K G D hl g1 g2 g3) (fun q => kf q p l e R s m args below meth c A Z E ad H locs lsC K G D hl g1 g2 g3)
theorem l_icmp_le {x y : Int32} {off : Int} (tgt : Nat) (hd : fet M pc = .ok (.if_icmp .le off, 3)) (hp : pc + 3 = pc') (ht : (pc : Int) + off = (tgt : Int)) (kt : x ≤ y → lwp b0 L0 xs0 d M Q kc ks tgt ls st h) (kf : ¬ x ≤ y → lwp b0 L0 xs0 d M Q kc ks pc' ls st h) : lwp b0 L0 xs0 d M Q kc ks pc ls (vI y :: vI x :: st) h := by
  subst hp
  intro p l e R s m args below meth c A Z E ad H locs lsC K G D hl g1 g2 g3
  exact lv_icmp_le K.1 K.2.1 hd ht (fun q => kt q p l e R s m args below meth c A Z E ad H locs lsC K G D hl g1 g2 g3) (fun q => kf q p l e R s m args below meth c A Z E ad H locs lsC K G D hl g1 g2 g3)
theorem l_istore_n {k : Fin 4} {i : Nat} {x : Int32} (hd : fet M pc = .ok (.istore_n k, 1)) (hp : pc + 1 = pc') (hi0 : (k : Nat) = i) (hlt : i < ml M) (hst : stL i (vI x) ls = ls') (kk : lwp b0 L0 xs0 d M Q kc ks pc' ls' st h) : lwp b0 L0 xs0 d M Q kc ks pc ls (vI x :: st) h := by
  subst hp
  subst hst
  intro p l e R s m args below meth c A Z E ad H locs lsC K G D hl g1 g2 g3
  exact lv_istore_n K.1 K.2.1 hd hi0 hl hlt (lc_st ad i (vI x) ls) (fun lsC' hl' => kk p l e R s m args below meth c A Z E ad H locs lsC' K G D hl' g1 g2 g3)
theorem l_tableIn {dflt lo hi0 : Int} {offs : Array Int} {len : Nat} {x : Int32} {off : Int} (tgt : Nat) (hd : fet M pc = .ok (.tableswitch dflt lo hi0 offs, len)) (h1 : ¬ x.toInt < lo) (h2 : ¬ hi0 < x.toInt) (ho : offs[(x.toInt - lo).toNat]? = some off) (ht : (pc : Int) + off = (tgt : Int)) (kk : lwp b0 L0 xs0 d M Q kc ks tgt ls st h) : lwp b0 L0 xs0 d M Q kc ks pc ls (vI x :: st) h := by
  intro p l e R s m args below meth c A Z E ad H locs lsC K G D hl g1 g2 g3
  exact lv_tableIn K.1 K.2.1 hd h1 h2 ho ht (kk p l e R s m args below meth c A Z E ad H locs lsC K G D hl g1 g2 g3)
theorem l_tableOut {dflt lo hi0 : Int} {offs : Array Int} {len : Nat} {x : Int32} (tgt : Nat) (hd : fet M pc = .ok (.tableswitch dflt lo hi0 offs, len)) (hx : x.toInt < lo ∨ hi0 < x.toInt) (ht : (pc : Int) + dflt = (tgt : Int)) (kk : lwp b0 L0 xs0 d M Q kc ks tgt ls st h) : lwp b0 L0 xs0 d M Q kc ks pc ls (vI x :: st) h := by
  intro p l e R s m args below meth c A Z E ad H locs lsC K G D hl g1 g2 g3
  exact lv_tableOut K.1 K.2.1 hd hx ht (kk p l e R s m args below meth c A Z E ad H locs lsC K G D hl g1 g2 g3)
theorem l_call {M' : Nat} {ins : Instr} {cr : Option Nat} (av st : List AV) (hd : fet M pc = .ok (ins, 3)) (hp : pc + 3 = pc') {on : String} (hon : own M = on) (hs : Site on ins cr M') (hcr : rcv cr av h) (hlen : av.length = na M' + (if cr.isSome then 1 else 0)) (hml : ml M' ≤ 20) (hm : mc M' = 0 ∧ ms M' = 0) (hwt : (st.map wt).sum ≤ 8) (hst : st0 = av.reverse ++ st)
    (kk : Spec d M' av h (fun r h1 => lwp b0 L0 xs0 (d + 1) M Q kc ks pc' ls (nxt r st) h1)) : lwp b0 L0 xs0 (d + 1) M Q kc ks pc ls st0 h := by
  subst hp
  intro p l e R s m args below meth c A Z E ad H locs lsC K G D hl g1 g2 g3
  refine run_W (site_runL K D hl hd hon hs hcr hlen hml hwt hst (by rw [hm.1]; exact g1) (by rw [hm.2]; exact g2) kk) D.2.1 D.2.2 K.2.2.2.2.2.2.1 ?_
  intro r h1 ad' H1 locs1 a1 a2 a3 a4 a5
  obtain ⟨e1, e2⟩ := a3 hm.1
  subst e1
  rw [hm.1, hm.2]
  have w := a4 p l e R s m args below meth c A Z E ad' H1 locs1 lsC K (by rw [e2]; exact G) a5 hl g1 g2 g3
  cases r with
  | none => exact w
  | some v => exact w
theorem l_iload {i : Nat} {x : Int32} (hd : fet M pc = .ok (.iload i, 2)) (hp : pc + 2 = pc') (hk : lk ls i = some (vI x)) (kk : lwp b0 L0 xs0 d M Q kc ks pc' ls (vI x :: st) h) : lwp b0 L0 xs0 d M Q kc ks pc ls (st) h := by
  subst hp
  intro p l e R s m args below meth c A Z E ad H locs lsC K G D hl g1 g2 g3
  exact lv_iload K.1 K.2.1 hd (lc_lk hl hk) (kk p l e R s m args below meth c A Z E ad H locs lsC K G D hl g1 g2 g3)
theorem l_lookup {dflt : Int} {ps : Array (Int × Int)} {len : Nat} {x : Int32} {off : Int} (tgt : Nat) (hd : fet M pc = .ok (.lookupswitch dflt ps, len)) (hp : (ps.toList.zip (ps.toList.drop 1)).all (fun (a, next) => a.1 < next.1) = true) (ho : Op.lookupswitch.offset ps.toList dflt x.toInt = off) (ht : (pc : Int) + off = (tgt : Int)) (kk : lwp b0 L0 xs0 d M Q kc ks tgt ls st h) : lwp b0 L0 xs0 d M Q kc ks pc ls (vI x :: st) h := by
  intro p l e R s m args below meth c A Z E ad H locs lsC K G D hl g1 g2 g3
  exact lv_lookup K.1 K.2.1 hd hp ho ht (kk p l e R s m args below meth c A Z E ad H locs lsC K G D hl g1 g2 g3)
theorem l_dupR {x : Nat} (hd : fet M pc = .ok (.dup, 1)) (hp : pc + 1 = pc')  (kk : lwp b0 L0 xs0 d M Q kc ks pc' ls (vR (some x) :: vR (some x) :: st) h) : lwp b0 L0 xs0 d M Q kc ks pc ls (vR (some x) :: st) h := by
  subst hp
  intro p l e R s m args below meth c A Z E ad H locs lsC K G D hl g1 g2 g3
  exact lv_dup K.1 K.2.1 hd rfl (kk p l e R s m args below meth c A Z E ad H locs lsC K G D hl g1 g2 g3)
theorem l_astore_n {k : Fin 4} {i : Nat} {x : Nat} (hd : fet M pc = .ok (.astore_n k, 1)) (hp : pc + 1 = pc') (hi0 : (k : Nat) = i) (hlt : i < ml M) (hst : stL i (vR (some x)) ls = ls') (kk : lwp b0 L0 xs0 d M Q kc ks pc' ls' st h) : lwp b0 L0 xs0 d M Q kc ks pc ls (vR (some x) :: st) h := by
  subst hp
  subst hst
  intro p l e R s m args below meth c A Z E ad H locs lsC K G D hl g1 g2 g3
  exact lv_astore_n K.1 K.2.1 hd hi0 hl hlt (lc_st ad i (vR (some x)) ls) (fun lsC' hl' => kk p l e R s m args below meth c A Z E ad H locs lsC' K G D hl' g1 g2 g3)
theorem l_iret {x : Int32} {t : FieldType} (hd : fet M pc = .ok (.ireturn, 1)) (hr0 : rt M = some t) (hn0 : narrow t (.int x) = .int x) (kk : Q (some (vI x)) h) : lwp b0 L0 xs0 d M Q kc ks pc ls [vI x] h := by
  intro p l e R s m args below meth c A Z E ad H locs lsC K G D hl g1 g2 g3
  exact G ad (some (vI x)) h H locs kc ks pc lsC (fun _ _ => rfl) (Nat.le_refl _) (fun _ => ⟨rfl, rfl⟩) kk D g1 g2 ⟨hd, t, hr0, hn0⟩
end Lw
