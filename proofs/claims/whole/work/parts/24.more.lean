/-! further rules: known references, indices that are numbers, truth values -/
abbrev bI (p : Prop) [Decidable p] : Int32 := if p then 1 else 0
theorem lit (n : Nat) : (OfNat.ofNat n : Int32) = nI n := rfl
section More
variable {d M : Nat} {Q : Option AV → Hp → Prop} {kc ks pc pc' : Nat} {ls ls' : List (Nat × AV)} {st : List AV} {h : Hp}
theorem r_getS {o ci k idx p : Nat} (hd : fet M pc = .ok (.getfield idx, 3)) (hp : pc + 3 = pc') {on : String} (hon : own M = on) (hs : SiteF on idx ci k false) (hsh : SH o = (0, ci)) (ho : o < hn h) (hv : hr h o k = some p) (kk : wp d M Q kc ks pc' ls (vR (some p) :: st) h) : wp d M Q kc ks pc ls (vR (some o) :: st) h :=
  r_getR hd hp hon hs hsh ho (hv ▸ kk)
theorem r_ialdN {o n j : Nat} {i : Int32} (hd : fet M pc = .ok (.iaload, 1)) (hp : pc + 1 = pc') (hsh : SH o = (1, n)) (ho : o < hn h) (he : i = nI j) (hj : j < n) (hs : n < 2 ^ 31) (kk : wp d M Q kc ks pc' ls (vI (hi h o j) :: st) h) : wp d M Q kc ks pc ls (vI i :: vR (some o) :: st) h := by
  subst he
  refine r_iald hd hp hsh ho (vp_in_nI hj hs) ?_
  rw [nI_clamp (by omega)]
  exact kk
theorem r_baldN {o n j : Nat} {i : Int32} (hd : fet M pc = .ok (.baload, 1)) (hp : pc + 1 = pc') (hsh : SH o = (2, n)) (ho : o < hn h) (he : i = nI j) (hj : j < n) (hs : n < 2 ^ 31) (kk : wp d M Q kc ks pc' ls (vI (hi h o j) :: st) h) : wp d M Q kc ks pc ls (vI i :: vR (some o) :: st) h := by
  subst he
  refine r_bald hd hp hsh ho (vp_in_nI hj hs) ?_
  rw [nI_clamp (by omega)]
  exact kk
theorem r_iastN {o n j : Nat} {i x : Int32} (hd : fet M pc = .ok (.iastore, 1)) (hp : pc + 1 = pc') (hsh : SH o = (1, n)) (ho : o < hn h) (he : i = nI j) (hj : j < n) (hs : n < 2 ^ 31) (kk : wp d M Q kc ks pc' ls st (seti h o j x)) : wp d M Q kc ks pc ls (vI x :: vI i :: vR (some o) :: st) h := by
  subst he
  refine r_iast hd hp hsh ho (vp_in_nI hj hs) ?_
  rw [nI_clamp (by omega)]
  exact kk
theorem r_bastN {o n j : Nat} {i x : Int32} (hd : fet M pc = .ok (.bastore, 1)) (hp : pc + 1 = pc') (hsh : SH o = (2, n)) (ho : o < hn h) (he : i = nI j) (hj : j < n) (hs : n < 2 ^ 31) (hx : x = 0 ∨ x = 1) (kk : wp d M Q kc ks pc' ls st (seti h o j x)) : wp d M Q kc ks pc ls (vI x :: vI i :: vR (some o) :: st) h := by
  subst he
  refine r_bast hd hp hsh ho (vp_in_nI hj hs) ?_
  rw [nI_clamp (by omega), show vp_nar .boolean x = x by rcases hx with rfl | rfl <;> rfl]
  exact kk
theorem r_aaldTN {o n j p : Nat} {i : Int32} (hd : fet M pc = .ok (.aaload, 1)) (hp : pc + 1 = pc') (hsh : SH o = (4, n)) (ho : o < hn h) (he : i = nI j) (hj : j < n) (hs : n < 2 ^ 31) (hv : hr h o j = some p) (kk : wp d M Q kc ks pc' ls (vR (some p) :: st) h) : wp d M Q kc ks pc ls (vI i :: vR (some o) :: st) h := by
  subst he
  refine r_aaldT hd hp hsh ho (vp_in_nI hj hs) ?_
  rw [nI_clamp (by omega), hv]
  exact kk
theorem r_aaldKN {o n j p : Nat} {i : Int32} (hd : fet M pc = .ok (.aaload, 1)) (hp : pc + 1 = pc') (hsh : SH o = (3, n)) (ho : o < hn h) (he : i = nI j) (hj : j < n) (hs : n < 2 ^ 31) (hv : hr h o j = some p) (kk : wp d M Q kc ks pc' ls (vR (some p) :: st) h) : wp d M Q kc ks pc ls (vI i :: vR (some o) :: st) h := by
  subst he
  refine r_aaldK hd hp hsh ho (vp_in_nI hj hs) ?_
  rw [nI_clamp (by omega), hv]
  exact kk
theorem r_if_eqB {p : Prop} [Decidable p] {off : Int} (tgt : Nat) (hd : fet M pc = .ok (.ifCond .eq off, 3)) (hp : pc + 3 = pc') (ht : (pc : Int) + off = (tgt : Int)) (kt : ¬ p → wp d M Q kc ks tgt ls st h) (kf : p → wp d M Q kc ks pc' ls st h) : wp d M Q kc ks pc ls (vI (bI p) :: st) h := by
  refine r_if_eq tgt hd hp ht (fun q => kt (fun w => ?_)) (fun q => kf (Classical.byContradiction (fun w => q ?_)))
  · rw [bI, if_pos w] at q; exact absurd q (by decide)
  · rw [bI, if_neg w]
theorem r_if_neB {p : Prop} [Decidable p] {off : Int} (tgt : Nat) (hd : fet M pc = .ok (.ifCond .ne off, 3)) (hp : pc + 3 = pc') (ht : (pc : Int) + off = (tgt : Int)) (kt : p → wp d M Q kc ks tgt ls st h) (kf : ¬ p → wp d M Q kc ks pc' ls st h) : wp d M Q kc ks pc ls (vI (bI p) :: st) h := by
  refine r_if_ne tgt hd hp ht (fun q => kt (Classical.byContradiction (fun w => q ?_))) (fun q => kf (fun w => ?_))
  · rw [bI, if_neg w]
  · rw [bI, if_pos w] at q; exact absurd q (by decide)
theorem wp_v {x y : Int32} (e : x = y) (kk : wp d M Q kc ks pc ls (vI y :: st) h) : wp d M Q kc ks pc ls (vI x :: st) h := e ▸ kk
theorem nw_bI (t : FieldType) (p : Prop) [Decidable p] (ht : t = .boolean ∨ t = .int) : narrow t (.int (bI p)) = .int (bI p) := by
  rcases ht with rfl | rfl
  · by_cases q : p
    · rw [bI, if_pos q]; rfl
    · rw [bI, if_neg q]; rfl
  · exact vp_nar_int _
theorem r_iretI {x : Int32} (hd : fet M pc = .ok (.ireturn, 1)) (hr0 : rt M = some .int) (kk : Q (some (vI x)) h) : wp d M Q kc ks pc ls [vI x] h := r_iret hd hr0 (vp_nar_int x) kk
theorem r_iretZ1 (hd : fet M pc = .ok (.ireturn, 1)) (hr0 : rt M = some .boolean) (kk : Q (some (vI 1)) h) : wp d M Q kc ks pc ls [vI 1] h := r_iret hd hr0 rfl kk
theorem r_iretZ0 (hd : fet M pc = .ok (.ireturn, 1)) (hr0 : rt M = some .boolean) (kk : Q (some (vI 0)) h) : wp d M Q kc ks pc ls [vI 0] h := r_iret hd hr0 rfl kk
theorem r_iretB {p : Prop} [Decidable p] (hd : fet M pc = .ok (.ireturn, 1)) (hr0 : rt M = some .boolean) (kk : Q (some (vI (bI p))) h) : wp d M Q kc ks pc ls [vI (bI p)] h := r_iret hd hr0 (nw_bI _ p (Or.inl rfl)) kk
end More
theorem b1 {p : Prop} [Decidable p] (h : p) : bI p = 1 := if_pos h
theorem b0 {p : Prop} [Decidable p] (h : ¬ p) : bI p = 0 := if_neg h
theorem qv {Q : Option AV → Hp → Prop} {x y : Int32} {h : Hp} (e : x = y) (k : Q (some (vI x)) h) : Q (some (vI y)) h := e ▸ k
