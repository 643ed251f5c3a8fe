/-! making cells; the JDK's own; instanceof (printed by wip/whole/p07.py) -/
def okv (n : Nat) : AV → Bool
  | .inr (.inr (some k)) => decide (k < n)
  | _ => true
def Val (h : Hp) : Prop := ∀ k j x, k < hn h → hr h k j = some x → x < hn h
def ext1 (ad : Nat → Nat) (n a : Nat) : Nat → Nat := fun k => if k = n then a else ad k
theorem ext1_lt {ad : Nat → Nat} {n a k : Nat} (hk : k < n) : ext1 ad n a k = ad k := by
  have hne : k ≠ n := by omega
  simp [ext1, hne]
theorem ext1_at {ad : Nat → Nat} {n a : Nat} : ext1 ad n a n = a := by simp [ext1]
theorem cv_ok {n : Nat} {ad ad' : Nat → Nat} {v : AV} (hv : okv n v = true) (ha : ∀ k, k < n → ad' k = ad k) : cv ad' v = cv ad v := by
  rcases v with x | x | o
  · rfl
  · rfl
  · cases o with
    | none => rfl
    | some k =>
      have hk : k < n := by simpa [okv] using hv
      simp [cv, ha k hk]
theorem lc_ok {n : Nat} {ad ad' : Nat → Nat} {ls : List (Nat × AV)} (hv : ls.all (fun q => okv n q.2) = true) (ha : ∀ k, k < n → ad' k = ad k) : lc ad' ls = lc ad ls := by
  unfold lc
  apply List.map_congr_left
  intro q hq
  rw [cv_ok (List.all_eq_true.mp hv q hq) ha]
theorem st_ok {n : Nat} {ad ad' : Nat → Nat} {st : List AV} (hv : st.all (okv n) = true) (ha : ∀ k, k < n → ad' k = ad k) : st.map (cv ad') = st.map (cv ad) := by
  apply List.map_congr_left
  intro q hq
  exact cv_ok (List.all_eq_true.mp hv q hq) ha
theorem fv_ad {ad ad' : Nat → Nat} {f : Nat → Int32} {g : Nat → Option Nat} (hv : ∀ j x, g j = some x → ad' x = ad x) : ∀ (l : List Bool) (j : Nat), fv ad' f g j l = fv ad f g j l := by
  intro l
  induction l with
  | nil => intro j; rfl
  | cons b t ih =>
    intro j
    cases b with
    | true => simp [fv, ih]
    | false =>
      have e : (g j).map ad' = (g j).map ad := by
        cases hg : g j with
        | none => rfl
        | some x => simp [hv j x hg]
      simp [fv, ih, e]
theorem rrow_ad {ad ad' : Nat → Nat} {g : Nat → Option Nat} (hv : ∀ j x, g j = some x → ad' x = ad x) : rrow g ad' = rrow g ad := by
  funext j
  unfold rrow
  cases hg : g j with
  | none => rfl
  | some x => simp [hv j x hg]
theorem cell_ad {E : En} {ad ad' : Nat → Nat} {h h' : Hp} {k : Nat} (h1 : hi h' k = hi h k) (h2 : hr h' k = hr h k) (hv : ∀ j x, hr h k j = some x → ad' x = ad x) : cell E ad' h' k = cell E ad h k := by
  unfold cell
  rw [h1, h2, rrow_ad hv]
  split <;> first | rfl | rw [fv_ad hv]
theorem hi_grow_lt {h : Hp} {k : Nat} (hk : k < hn h) : hi (grow h) k = hi h k := by
  have hne : k ≠ h.1 := Nat.ne_of_lt hk
  simp [hi, grow, hne]
theorem hr_grow_lt {h : Hp} {k : Nat} (hk : k < hn h) : hr (grow h) k = hr h k := by
  have hne : k ≠ h.1 := Nat.ne_of_lt hk
  simp [hr, grow, hne]
theorem hi_grow_at {h : Hp} : hi (grow h) (hn h) = fun _ => 0 := by simp [hi, grow, hn]
theorem hr_grow_at {h : Hp} : hr (grow h) (hn h) = fun _ => none := by simp [hr, grow, hn]
theorem toW_grow {E : En} {ad ad' : Nat → Nat} {h : Hp} (hv : Val h) (ha : ∀ k, k < hn h → ad' k = ad k) : toW E ad' (grow h) = toW E ad h ++ [(ad' (hn h), cell E ad' (grow h) (hn h))] := by
  show (List.range (hn h + 1)).map _ = _
  rw [List.range_succ, List.map_append]
  congr 1
  unfold toW
  apply List.map_congr_left
  intro k hk
  have hk : k < hn h := List.mem_range.mp hk
  rw [ha k hk, cell_ad (hi_grow_lt hk) (hr_grow_lt hk) (fun j x hx => ha x (hv k j x hk hx))]
theorem Val.grow {h : Hp} (hv : Val h) : Val (grow h) := by
  intro k j x hk hx
  by_cases hlt : k < hn h
  · rw [hr_grow_lt hlt] at hx
    exact Nat.lt_succ_of_lt (hv k j x hlt hx)
  · have : k = hn h := by
      have : k < hn h + 1 := hk
      omega
    subst this
    rw [hr_grow_at] at hx
    cases hx
theorem Val.seti {h : Hp} (hv : Val h) (k j : Nat) (x : Int32) : Val (seti h k j x) := hv
theorem Val.setr {h : Hp} (hv : Val h) (k j : Nat) (x : Nat) (hx : x < hn h) : Val (setr h k j (some x)) := by
  intro a b y ha hy
  rw [hr_setr] at hy
  split at hy
  · cases hy; exact hx
  · exact hv a b y ha hy
theorem RT_ext {p : Program} {l : Launch} {e : Env} {R : Room} {s : State} {m : MethodId} {args : Array Value} {below : List Frame} {meth : Method} {c : Code} {A : Nat → Prop} {Z : State → Prop} {E : En} {ad ad1 : Nat → Nat} {n n1 M : Nat} {Q : Option AV → Hp → Prop} (G : RT p l e R s m args below meth c A Z E ad n M Q) (hm : mc M ≠ 0) (ha : ∀ k, k < n → ad1 k = ad k) (hn1 : n ≤ n1) : RT p l e R s m args below meth c A Z E ad1 n1 M Q := by
  intro ad' r h1 H locs kc ks pc lsC a1 a2 a3 a4 a5 a6 a7 a8
  exact G ad' r h1 H locs kc ks pc lsC (fun k hk => (a1 k (Nat.lt_of_lt_of_le hk hn1)).trans (ha k hk)) (Nat.le_trans hn1 a2) (fun z => absurd z hm) a4 a5 a6 a7 a8
theorem ra_eq {U : State} {cA cB : ClassId} {ty : FieldType} (h1 : va_RA U cA ty) (h2 : va_RA U cB ty) : cA = cB := by
  cases ty with
  | object C =>
    obtain ⟨_, _, _, _, _, f1⟩ := h1
    obtain ⟨_, _, _, _, _, f2⟩ := h2
    exact Option.some.inj (f1.symm.trans f2)
  | _ => exact Option.some.inj (Eq.trans (Eq.symm h1) h2)
def SiteN (o : String) (idx ci N : Nat) : Prop := ∃ q : vw_C, classes[ci]? = some q ∧ q.2.2 = N ∧ (∀ w ∈ u_ws q.1 q.2.1 q.2.2, w ∈ TBL) ∧ Cond.classLink o idx q.1 ∈ TBL ∧ Cond.instantiable q.1 N ∈ TBL ∧ Cond.initialized q.1 ∈ TBL ∧ ∃ ty : Nat → FieldType, (∀ k, k < N → parseFieldDescriptor (q.2.1 k).2.2.1 = some (ty k)) ∧ ∀ j, j < N → defaultValue (ty j) = vp_V (fv id (fun _ => 0) (fun _ => none) 0 (FK ci)) j
section Making
variable {d M : Nat} {Q : Option AV → Hp → Prop} {kc ks pc pc' : Nat} {ls ls' : List (Nat × AV)} {st st0 : List AV} {h : Hp}
theorem r_new {idx ci N : Nat} (hd : fet M pc = .ok (.new idx, 3)) (hp : pc + 3 = pc') {on : String} (hon : own M = on) (hs : SiteN on idx ci N) (hsh : SH (hn h) = (0, ci)) (hv : Val h) (hls : ls.all (fun q => okv (hn h) q.2) = true) (hst : st.all (okv (hn h)) = true) (hkc : kc + 1 ≤ mc M) (hks : ks + N ≤ ms M) (kk : wp d M Q (kc + 1) (ks + N) pc' ls (vR (some (hn h)) :: st) (grow h)) : wp d M Q kc ks pc ls st h := by
  subst hp
  intro p l e R s m args below meth c A Z E ad H locs lsC K G D hl g1 g2
  subst hon
  obtain ⟨q, q1, q2, q3, q4, q5, q6, ty, q7, q8⟩ := hs
  subst q2
  obtain ⟨k1, k2, k3, k4, k5, k6, k7, k8, k9, k10, k11, k12, k13⟩ := id K
  refine va_new (D := E.1) (T := q.2.1) (ci := ci) (fs := fv id (fun _ => 0) (fun _ => none) 0 (FK ci)) k1 k2 k5 q3 ty q7 k4 (k5 _ q4) (k5 _ q5) (k5 _ q6) k6 D.1 D.2.1 D.2.2 k7 q1 q8 (Nat.le_trans hkc k11) (Nat.le_trans hks k12) hd (fun a H1 e1 e2 e3 => ?_)
  have hag : ∀ k, k < hn h → ext1 ad (hn h) a k = ad k := fun k hk => ext1_lt hk
  have hw : toW E (ext1 ad (hn h) a) (grow h) = toW E ad h ++ [(a, .inr (ci, fv id (fun _ => 0) (fun _ => none) 0 (FK ci)))] := by
    rw [toW_grow hv hag, ext1_at, cell_obj hsh, hi_grow_at, hr_grow_at, fv_ad (ad := id) (fun j x hx => by cases hx)]
  have w := kk p l e R s m args below meth c A Z E (ext1 ad (hn h) a) H1 locs lsC K (RT_ext G (by omega) hag (Nat.le_succ _)) ⟨by rw [hw]; exact e1, by rw [hw]; exact e2, e3⟩ (by rw [lc_ok hls hag]; exact hl) hkc hks
  rw [List.map_cons, st_ok hst hag, show cv (ext1 ad (hn h) a) (vR (some (hn h))) = .ref a by simp [cv, va_rf, ext1_at]] at w
  exact w
theorem r_newI {n : Int32} {N : Nat} (hd : fet M pc = .ok (.newarray .int, 2)) (hp : pc + 2 = pc') (hs : Cond.arrayClass .int ∈ TBL) (hsh : SH (hn h) = (1, N)) (hn0 : ¬ n < 0) (hN : n.toNatClampNeg = N) (hby : N ≤ 10000) (hv : Val h) (hls : ls.all (fun q => okv (hn h) q.2) = true) (hst : st.all (okv (hn h)) = true) (hkc : kc + 1 ≤ mc M) (hks : ks + N ≤ ms M) (kk : wp d M Q (kc + 1) (ks + N) pc' ls (vR (some (hn h)) :: st) (grow h)) : wp d M Q kc ks pc ls (vI n :: st) h := by
  subst hp
  intro p l e R s m args below meth c A Z E ad H locs lsC K G D hl g1 g2
  obtain ⟨k1, k2, k3, k4, k5, k6, k7, k8, k9, k10, k11, k12, k13⟩ := id K
  refine va_newa (D := E.1) (atype := .int) (a0 := (N, .inl (fun _ => 0))) (ty := .int) k1 k2 (k5 _ hs) rfl k6 D.1 D.2.1 D.2.2 k7 (fun _ => rfl) hn0 hN (by show N * 4 ≤ 536870912; omega) (Nat.le_trans hkc k11) (Nat.le_trans hks k12) hd (fun a cA H1 e0 e1 e2 e3 => ?_)
  have hcA : cA = E.2.1 := ra_eq (e0.2 4 (cA, .int) rfl).2 (k6.2 0 (E.2.1, .int) rfl).2
  subst hcA
  have hag : ∀ k, k < hn h → ext1 ad (hn h) a k = ad k := fun k hk => ext1_lt hk
  have hw : toW E (ext1 ad (hn h) a) (grow h) = toW E ad h ++ [(a, .inl (E.2.1, N, .inl (fun _ => 0)))] := by
    rw [toW_grow hv hag, ext1_at, cell_int hsh, hi_grow_at]
  have w := kk p l e R s m args below meth c A Z E (ext1 ad (hn h) a) H1 locs lsC K (RT_ext G (by omega) hag (Nat.le_succ _)) ⟨by rw [hw]; exact e1, by rw [hw]; exact e2, e3⟩ (by rw [lc_ok hls hag]; exact hl) hkc hks
  rw [List.map_cons, st_ok hst hag, show cv (ext1 ad (hn h) a) (vR (some (hn h))) = .ref a by simp [cv, va_rf, ext1_at]] at w
  exact w
theorem r_newZ {n : Int32} {N : Nat} (hd : fet M pc = .ok (.newarray .boolean, 2)) (hp : pc + 2 = pc') (hs : Cond.arrayClass .boolean ∈ TBL) (hsh : SH (hn h) = (2, N)) (hn0 : ¬ n < 0) (hN : n.toNatClampNeg = N) (hby : N ≤ 10000) (hv : Val h) (hls : ls.all (fun q => okv (hn h) q.2) = true) (hst : st.all (okv (hn h)) = true) (hkc : kc + 1 ≤ mc M) (hks : ks + N ≤ ms M) (kk : wp d M Q (kc + 1) (ks + N) pc' ls (vR (some (hn h)) :: st) (grow h)) : wp d M Q kc ks pc ls (vI n :: st) h := by
  subst hp
  intro p l e R s m args below meth c A Z E ad H locs lsC K G D hl g1 g2
  obtain ⟨k1, k2, k3, k4, k5, k6, k7, k8, k9, k10, k11, k12, k13⟩ := id K
  refine va_newa (D := E.1) (atype := .boolean) (a0 := (N, .inl (fun _ => 0))) (ty := .boolean) k1 k2 (k5 _ hs) rfl k6 D.1 D.2.1 D.2.2 k7 (fun _ => rfl) hn0 hN (by show N * 1 ≤ 536870912; omega) (Nat.le_trans hkc k11) (Nat.le_trans hks k12) hd (fun a cA H1 e0 e1 e2 e3 => ?_)
  have hcA : cA = E.2.2.1 := ra_eq (e0.2 4 (cA, .boolean) rfl).2 (k6.2 1 (E.2.2.1, .boolean) rfl).2
  subst hcA
  have hag : ∀ k, k < hn h → ext1 ad (hn h) a k = ad k := fun k hk => ext1_lt hk
  have hw : toW E (ext1 ad (hn h) a) (grow h) = toW E ad h ++ [(a, .inl (E.2.2.1, N, .inl (fun _ => 0)))] := by
    rw [toW_grow hv hag, ext1_at, cell_bool hsh, hi_grow_at]
  have w := kk p l e R s m args below meth c A Z E (ext1 ad (hn h) a) H1 locs lsC K (RT_ext G (by omega) hag (Nat.le_succ _)) ⟨by rw [hw]; exact e1, by rw [hw]; exact e2, e3⟩ (by rw [lc_ok hls hag]; exact hl) hkc hks
  rw [List.map_cons, st_ok hst hag, show cv (ext1 ad (hn h) a) (vR (some (hn h))) = .ref a by simp [cv, va_rf, ext1_at]] at w
  exact w
theorem r_newK {n : Int32} {N idx : Nat} (hd : fet M pc = .ok (.anewarray idx, 3)) (hp : pc + 3 = pc') {on : String} (hon : own M = on) (hs : Cond.classLink on idx RX3 ∈ TBL) (hov : RX3 ∈ overL) (hsh : SH (hn h) = (3, N)) (hn0 : ¬ n < 0) (hN : n.toNatClampNeg = N) (hby : N ≤ 10000) (hv : Val h) (hls : ls.all (fun q => okv (hn h) q.2) = true) (hst : st.all (okv (hn h)) = true) (hkc : kc + 1 ≤ mc M) (hks : ks + N ≤ ms M) (kk : wp d M Q (kc + 1) (ks + N) pc' ls (vR (some (hn h)) :: st) (grow h)) : wp d M Q kc ks pc ls (vI n :: st) h := by
  subst hp
  subst hon
  intro p l e R s m args below meth c A Z E ad H locs lsC K G D hl g1 g2
  obtain ⟨k1, k2, k3, k4, k5, k6, k7, k8, k9, k10, k11, k12, k13⟩ := id K
  refine va_newq (D := E.1) (C := RX3) k1 k2 k4 (k5 _ hs) (k8.2.2.2 _ hov) k6 D.1 D.2.1 D.2.2 k7 hn0 hN (by omega) (Nat.le_trans hkc k11) (Nat.le_trans hks k12) hd (fun a cA H1 e0 e1 e2 e3 => ?_)
  have hcA : cA = E.2.2.2.1 := ra_eq (e0.2 4 (cA, .object RX3) rfl).2 (k6.2 2 (E.2.2.2.1, .object RX3) rfl).2
  subst hcA
  have hag : ∀ k, k < hn h → ext1 ad (hn h) a k = ad k := fun k hk => ext1_lt hk
  have hw : toW E (ext1 ad (hn h) a) (grow h) = toW E ad h ++ [(a, .inl (E.2.2.2.1, N, .inr (.inr (.inr (.inr (fun _ => none))))))] := by
    rw [toW_grow hv hag, ext1_at, cell_kinds hsh, hr_grow_at]
    rfl
  have w := kk p l e R s m args below meth c A Z E (ext1 ad (hn h) a) H1 locs lsC K (RT_ext G (by omega) hag (Nat.le_succ _)) ⟨by rw [hw]; exact e1, by rw [hw]; exact e2, e3⟩ (by rw [lc_ok hls hag]; exact hl) hkc hks
  rw [List.map_cons, st_ok hst hag, show cv (ext1 ad (hn h) a) (vR (some (hn h))) = .ref a by simp [cv, va_rf, ext1_at]] at w
  exact w
theorem r_newT {n : Int32} {N idx : Nat} (hd : fet M pc = .ok (.anewarray idx, 3)) (hp : pc + 3 = pc') {on : String} (hon : own M = on) (hs : Cond.classLink on idx RX8 ∈ TBL) (hov : RX8 ∈ overL) (hsh : SH (hn h) = (4, N)) (hn0 : ¬ n < 0) (hN : n.toNatClampNeg = N) (hby : N ≤ 10000) (hv : Val h) (hls : ls.all (fun q => okv (hn h) q.2) = true) (hst : st.all (okv (hn h)) = true) (hkc : kc + 1 ≤ mc M) (hks : ks + N ≤ ms M) (kk : wp d M Q (kc + 1) (ks + N) pc' ls (vR (some (hn h)) :: st) (grow h)) : wp d M Q kc ks pc ls (vI n :: st) h := by
  subst hp
  subst hon
  intro p l e R s m args below meth c A Z E ad H locs lsC K G D hl g1 g2
  obtain ⟨k1, k2, k3, k4, k5, k6, k7, k8, k9, k10, k11, k12, k13⟩ := id K
  refine va_newq (D := E.1) (C := RX8) k1 k2 k4 (k5 _ hs) (k8.2.2.2 _ hov) k6 D.1 D.2.1 D.2.2 k7 hn0 hN (by omega) (Nat.le_trans hkc k11) (Nat.le_trans hks k12) hd (fun a cA H1 e0 e1 e2 e3 => ?_)
  have hcA : cA = E.2.2.2.2 := ra_eq (e0.2 4 (cA, .object RX8) rfl).2 (k6.2 3 (E.2.2.2.2, .object RX8) rfl).2
  subst hcA
  have hag : ∀ k, k < hn h → ext1 ad (hn h) a k = ad k := fun k hk => ext1_lt hk
  have hw : toW E (ext1 ad (hn h) a) (grow h) = toW E ad h ++ [(a, .inl (E.2.2.2.2, N, .inr (.inr (.inr (.inr (fun _ => none))))))] := by
    rw [toW_grow hv hag, ext1_at, cell_things hsh, hr_grow_at]
    rfl
  have w := kk p l e R s m args below meth c A Z E (ext1 ad (hn h) a) H1 locs lsC K (RT_ext G (by omega) hag (Nat.le_succ _)) ⟨by rw [hw]; exact e1, by rw [hw]; exact e2, e3⟩ (by rw [lc_ok hls hag]; exact hl) hkc hks
  rw [List.map_cons, st_ok hst hag, show cv (ext1 ad (hn h) a) (vR (some (hn h))) = .ref a by simp [cv, va_rf, ext1_at]] at w
  exact w
theorem r_aastK {o n x ci : Nat} {i : Int32} (hd : fet M pc = .ok (.aastore, 1)) (hp : pc + 1 = pc') (hsh : SH o = (3, n)) (ho : o < hn h) (hx : SH x = (0, ci)) (hxo : x < hn h) (hcx : (classes.getD ci (RL, TX0, 0)).1 = RX3 ∨ ((classes.getD ci (RL, TX0, 0)).1, RX3) ∈ castL) (hin : vp_in i n) (kk : wp d M Q kc ks pc' ls st (setr h o i.toNatClampNeg (some x))) : wp d M Q kc ks pc ls (vR (some x) :: vI i :: vR (some o) :: st) h := by
  subst hp
  intro p l e R s m args below meth c A Z E ad H locs lsC K G D hl g1 g2
  have he : (toW E ad h)[x]? = some (ad x, .inr (ci, fv ad (hi h x) (hr h x) 0 (FK ci))) := by rw [toW_at hxo, cell_obj hx]
  obtain ⟨q, hq, -⟩ := D.1 x _ he
  have hg : classes.getD ci (RL, TX0, 0) = q := by rw [List.getD_eq_getElem?_getD, hq]; rfl
  rw [hg] at hcx
  have hset : (toW E ad h).set o (ad o, .inl (E.2.2.2.1, n, .inr (.inr (.inr (.inr (va_up (rrow (hr h o) ad) i.toNatClampNeg (some (ad x)))))))) = toW E ad (setr h o i.toNatClampNeg (some x)) := by
    refine toW_set rfl ?_ (fun a _ => by rw [hi_setr]) (fun a ha => hr_setr_ne h o _ _ a ha)
    rw [cell_kinds hsh, hr_setr_row, rrow_up]
    rfl
  rcases hcx with w | w
  · refine va_astq (D := E.1) (a := ad o) (v := ad x) (r := q) K.1 K.2.1 K.2.2.2.2.2.1 D.1 D.2.1 D.2.2 o 2 x ci (by rw [toW_at ho, cell_kinds hsh]) (by rw [w]; rfl) he hq hin hd (fun H1 locs1 e1 e2 e3 => ?_)
    rw [hset] at e1 e2
    exact kk p l e R s m args below meth c A Z E ad H1 locs1 lsC K G ⟨e1, e2, e3⟩ hl g1 g2
  · refine va_astqO (D := E.1) (a := ad o) (v := ad x) (r := q) (E := RX3) K.1 K.2.1 K.2.2.2.2.2.1 D.1 D.2.1 D.2.2 o 2 x ci (by rw [toW_at ho, cell_kinds hsh]) rfl (K.2.2.2.2.2.2.2.1.2.1 _ w) he hq hin hd (fun H1 locs1 e1 e2 e3 => ?_)
    rw [hset] at e1 e2
    exact kk p l e R s m args below meth c A Z E ad H1 locs1 lsC K G ⟨e1, e2, e3⟩ hl g1 g2
theorem r_aastT {o n x ci : Nat} {i : Int32} (hd : fet M pc = .ok (.aastore, 1)) (hp : pc + 1 = pc') (hsh : SH o = (4, n)) (ho : o < hn h) (hx : SH x = (0, ci)) (hxo : x < hn h) (hcx : (classes.getD ci (RL, TX0, 0)).1 = RX8 ∨ ((classes.getD ci (RL, TX0, 0)).1, RX8) ∈ castL) (hin : vp_in i n) (kk : wp d M Q kc ks pc' ls st (setr h o i.toNatClampNeg (some x))) : wp d M Q kc ks pc ls (vR (some x) :: vI i :: vR (some o) :: st) h := by
  subst hp
  intro p l e R s m args below meth c A Z E ad H locs lsC K G D hl g1 g2
  have he : (toW E ad h)[x]? = some (ad x, .inr (ci, fv ad (hi h x) (hr h x) 0 (FK ci))) := by rw [toW_at hxo, cell_obj hx]
  obtain ⟨q, hq, -⟩ := D.1 x _ he
  have hg : classes.getD ci (RL, TX0, 0) = q := by rw [List.getD_eq_getElem?_getD, hq]; rfl
  rw [hg] at hcx
  have hset : (toW E ad h).set o (ad o, .inl (E.2.2.2.2, n, .inr (.inr (.inr (.inr (va_up (rrow (hr h o) ad) i.toNatClampNeg (some (ad x)))))))) = toW E ad (setr h o i.toNatClampNeg (some x)) := by
    refine toW_set rfl ?_ (fun a _ => by rw [hi_setr]) (fun a ha => hr_setr_ne h o _ _ a ha)
    rw [cell_things hsh, hr_setr_row, rrow_up]
    rfl
  rcases hcx with w | w
  · refine va_astq (D := E.1) (a := ad o) (v := ad x) (r := q) K.1 K.2.1 K.2.2.2.2.2.1 D.1 D.2.1 D.2.2 o 3 x ci (by rw [toW_at ho, cell_things hsh]) (by rw [w]; rfl) he hq hin hd (fun H1 locs1 e1 e2 e3 => ?_)
    rw [hset] at e1 e2
    exact kk p l e R s m args below meth c A Z E ad H1 locs1 lsC K G ⟨e1, e2, e3⟩ hl g1 g2
  · refine va_astqO (D := E.1) (a := ad o) (v := ad x) (r := q) (E := RX8) K.1 K.2.1 K.2.2.2.2.2.1 D.1 D.2.1 D.2.2 o 3 x ci (by rw [toW_at ho, cell_things hsh]) rfl (K.2.2.2.2.2.2.2.1.2.1 _ w) he hq hin hd (fun H1 locs1 e1 e2 e3 => ?_)
    rw [hset] at e1 e2
    exact kk p l e R s m args below meth c A Z E ad H1 locs1 lsC K G ⟨e1, e2, e3⟩ hl g1 g2
theorem r_callA {M' : Nat} {ins : Instr} {cr : Option Nat} (av st : List AV) (hd : fet M pc = .ok (ins, 3)) (hp : pc + 3 = pc') {on : String} (hon : own M = on) (hs : Site on ins cr M') (hcr : rcv cr av h) (hlen : av.length = na M' + (if cr.isSome then 1 else 0)) (hml : ml M' ≤ 20) (hm : mc M ≠ 0) (hls : ls.all (fun q => okv (hn h) q.2) = true) (hso : st.all (okv (hn h)) = true) (hwt : (st.map wt).sum ≤ 8) (hst : st0 = av.reverse ++ st) (hkc : kc + mc M' ≤ mc M) (hks : ks + ms M' ≤ ms M)
    (kk : Spec d M' av h (fun r h1 => wp (d + 1) M Q (kc + mc M') (ks + ms M') pc' ls (nxt r st) h1)) : wp (d + 1) M Q kc ks pc ls st0 h := by
  subst hp
  intro p l e R s m args below meth c A Z E ad H locs lsC K G D hl g1 g2
  refine run_W (site_run K D hl hd hon hs hcr hlen hml hwt hst hkc hks kk) D.2.1 D.2.2 K.2.2.2.2.2.2.1 ?_
  intro r h1 ad' H1 locs1 a1 a2 a3 a4 a5
  have w := a4 p l e R s m args below meth c A Z E ad' H1 locs1 lsC K (RT_ext G hm a1 a2) a5 (by rw [lc_ok hls a1]; exact hl) hkc hks
  cases r with
  | none => rw [nxt, st_ok hso a1] at w; exact w
  | some v => rw [nxt, List.map_cons, st_ok hso a1] at w; exact w
theorem r_objInit {idx o : Nat} (hd : fet M pc = .ok (.invokespecial idx, 3)) (hp : pc + 3 = pc') {on : String} (hon : own M = on) (h1 : Cond.methodLink on idx objectInit ∈ TBL) (h2 : Cond.instanceMethod objectInit ∈ TBL) (h3 : Cond.code objectInit ⟨#[0xb1]⟩ 1 none ∈ TBL) (hwt : (st.map wt).sum ≤ 8) (kk : wp (d + 1) M Q kc ks pc' ls st h) : wp (d + 1) M Q kc ks pc ls (vR (some o) :: st) h := by
  subst hp
  subst hon
  intro p l e R s m args below meth c A Z E ad H locs lsC K G D hl g1 g2
  obtain ⟨k1, k2, k3, k4, k5, k6, k7, k8, k9, k10, k11, k12, k13⟩ := id K
  refine W.objInit (a := ad o) k1 k2 k4 (k5 _ h1) (k5 _ h2) (k5 _ h3) rfl (by rw [k3]; exact hl.1) rfl hd (by omega) ?_ (kk p l e R s m args below meth c A Z E ad H locs lsC K G D hl g1 g2)
  have w := lv_room (m := m) (pc := pc) (ls := lsC) (rest := []) (st := st.map (cv ad)) (by rw [cat_sum]; exact hwt)
  have e0 : (F0 m pc lsC ([] : List Value)).monitorRoom = (F0 m pc lsC (List.map (cv ad) (vR (some o) :: st))).monitorRoom := rfl
  rw [e0] at w
  omega
theorem r_max {x y : Int32} {idx : Nat} (hd : fet M pc = .ok (.invokestatic idx, 3)) (hp : pc + 3 = pc') {on : String} (hon : own M = on) (h1 : Cond.methodLink on idx Lib.Math.max.name ∈ TBL) (h2 : Cond.static Lib.Math.max.name ∈ TBL) (h3 : Cond.initialized "java/lang/Math" ∈ TBL) (h4 : Cond.code Lib.Math.max.name Lib.Math.max.code 2 (some .int) ∈ TBL) (hwt : (st.map wt).sum ≤ 8) (kk : wp (d + 1) M Q kc ks pc' ls (vI (if x < y then y else x) :: st) h) : wp (d + 1) M Q kc ks pc ls (vI y :: vI x :: st) h := by
  subst hp
  subst hon
  intro p l e R s m args below meth c A Z E ad H locs lsC K G D hl g1 g2
  obtain ⟨k1, k2, k3, k4, k5, k6, k7, k8, k9, k10, k11, k12, k13⟩ := id K
  exact va_mmax k1 k2 (by rw [k3]; exact hl.1.symm) k4 (k5 _ h1) (k5 _ h2) (k5 _ h3) (k5 _ h4) (by omega) (by rw [cat_sum]; omega) (Nat.le_trans g1 k11) (Nat.le_trans g2 k12) hd (kk p l e R s m args below meth c A Z E ad H locs lsC K G D hl g1 g2)
theorem r_min {x y : Int32} {idx : Nat} (hd : fet M pc = .ok (.invokestatic idx, 3)) (hp : pc + 3 = pc') {on : String} (hon : own M = on) (h1 : Cond.methodLink on idx Lib.Math.min.name ∈ TBL) (h2 : Cond.static Lib.Math.min.name ∈ TBL) (h3 : Cond.initialized "java/lang/Math" ∈ TBL) (h4 : Cond.code Lib.Math.min.name Lib.Math.min.code 2 (some .int) ∈ TBL) (hwt : (st.map wt).sum ≤ 8) (kk : wp (d + 1) M Q kc ks pc' ls (vI (if y < x then y else x) :: st) h) : wp (d + 1) M Q kc ks pc ls (vI y :: vI x :: st) h := by
  subst hp
  subst hon
  intro p l e R s m args below meth c A Z E ad H locs lsC K G D hl g1 g2
  obtain ⟨k1, k2, k3, k4, k5, k6, k7, k8, k9, k10, k11, k12, k13⟩ := id K
  exact va_mmin k1 k2 (by rw [k3]; exact hl.1.symm) k4 (k5 _ h1) (k5 _ h2) (k5 _ h3) (k5 _ h4) (by omega) (by rw [cat_sum]; omega) (Nat.le_trans g1 k11) (Nat.le_trans g2 k12) hd (kk p l e R s m args below meth c A Z E ad H locs lsC K G D hl g1 g2)
theorem r_abs {x : Int32} {idx : Nat} (hd : fet M pc = .ok (.invokestatic idx, 3)) (hp : pc + 3 = pc') {on : String} (hon : own M = on) (h1 : Cond.methodLink on idx Lib.Math.abs.name ∈ TBL) (h2 : Cond.static Lib.Math.abs.name ∈ TBL) (h3 : Cond.initialized "java/lang/Math" ∈ TBL) (h4 : Cond.code Lib.Math.abs.name Lib.Math.abs.code 1 (some .int) ∈ TBL) (hwt : (st.map wt).sum ≤ 8) (kk : wp (d + 1) M Q kc ks pc' ls (vI (if 0 ≤ x then x else 0 - x) :: st) h) : wp (d + 1) M Q kc ks pc ls (vI x :: st) h := by
  subst hp
  subst hon
  intro p l e R s m args below meth c A Z E ad H locs lsC K G D hl g1 g2
  obtain ⟨k1, k2, k3, k4, k5, k6, k7, k8, k9, k10, k11, k12, k13⟩ := id K
  exact va_mabs k1 k2 (by rw [k3]; exact hl.1.symm) k4 (k5 _ h1) (k5 _ h2) (k5 _ h3) (k5 _ h4) (by omega) (by rw [cat_sum]; omega) (Nat.le_trans g1 k11) (Nat.le_trans g2 k12) hd (kk p l e R s m args below meth c A Z E ad H locs lsC K G D hl g1 g2)
theorem r_copy {o0 o1 n0 n1 idx : Nat} {sp dp n : Int32} (hd : fet M pc = .ok (.invokestatic idx, 3)) (hp : pc + 3 = pc') {on : String} (hon : own M = on) (h1 : Cond.methodLink on idx arraycopyName ∈ TBL) (h2 : Cond.native arraycopyName ∈ TBL) (h3 : Cond.static arraycopyName ∈ TBL) (h4 : Cond.initialized "java/lang/System" ∈ TBL) (hs0 : SH o0 = (1, n0)) (hs1 : SH o1 = (1, n1)) (ho0 : o0 < hn h) (ho1 : o1 < hn h) (c1 : ¬ sp < 0) (c2 : ¬ dp < 0) (c3 : ¬ n < 0) (c4 : sp.toNatClampNeg + n.toNatClampNeg ≤ n0) (c5 : dp.toNatClampNeg + n.toNatClampNeg ≤ n1) (hwt : (st.map wt).sum ≤ 8) (kk : wp (d + 1) M Q kc ks pc' ls st (setw h o1 (va_cpy (hi h o0) (hi h o1) sp.toNatClampNeg dp.toNatClampNeg n.toNatClampNeg))) : wp (d + 1) M Q kc ks pc ls (vI n :: vI dp :: vR (some o1) :: vI sp :: vR (some o0) :: st) h := by
  subst hp
  subst hon
  intro p l e R s m args below meth c A Z E ad H locs lsC K G D hl g1 g2
  obtain ⟨k1, k2, k3, k4, k5, k6, k7, k8, k9, k10, k11, k12, k13⟩ := id K
  have hset : (toW E ad h).set o1 (ad o1, .inl (E.2.1, n1, .inl (va_cpy (hi h o0) (hi h o1) sp.toNatClampNeg dp.toNatClampNeg n.toNatClampNeg))) = toW E ad (setw h o1 (va_cpy (hi h o0) (hi h o1) sp.toNatClampNeg dp.toNatClampNeg n.toNatClampNeg)) := by
    refine toW_set rfl ?_ (fun a ha => hi_setw_ne h o1 _ a ha) (fun a _ => by rw [hr_setw])
    rw [cell_int hs1, hi_setw_row]
  have hnw : nativeFrameWords "java/lang/System" "arraycopy" 5 ≤ 20 := by decide +kernel
  refine va_copyi (D := E.1) (a := ad o1) (a0 := ad o0) (ty := .int) k1 k2 (by rw [k3]; exact hl.1.symm) k4 (k5 _ h1) (k5 _ h2) (k5 _ h3) (k5 _ h4) k6 D.1 D.2.1 D.2.2 o0 o1 0 0 (by rw [toW_at ho0, cell_int hs0]) (by rw [toW_at ho1, cell_int hs1]) rfl rfl rfl c1 c2 c3 c4 c5 (fun _ _ => rfl) (by omega) (by rw [cat_sum]; omega) hd (fun H1 locs1 e1 e2 e3 => ?_)
  rw [hset] at e1 e2
  exact kk p l e R s m args below meth c A Z E ad H1 locs1 lsC K G ⟨e1, e2, e3⟩ hl g1 g2
theorem r_instN {idx : Nat} (hd : fet M pc = .ok (.instanceof idx, 3)) (hp : pc + 3 = pc') (kk : wp d M Q kc ks pc' ls (vI 0 :: st) h) : wp d M Q kc ks pc ls (vR none :: st) h := by
  subst hp
  intro p l e R s m args below meth c A Z E ad H locs lsC K G D hl g1 g2
  exact lv_instN K.1 K.2.1 hd (kk p l e R s m args below meth c A Z E ad H locs lsC K G D hl g1 g2)
theorem r_inst {idx o ci : Nat} {nm : String} (b : Bool) (hd : fet M pc = .ok (.instanceof idx, 3)) (hp : pc + 3 = pc') {on : String} (hon : own M = on) (hs : Cond.classLink on idx nm ∈ TBL) (hsh : SH o = (0, ci)) (ho : o < hn h) (hb : if b then (classes.getD ci (RL, TX0, 0)).1 = nm ∨ ((classes.getD ci (RL, TX0, 0)).1, nm) ∈ castL else ((classes.getD ci (RL, TX0, 0)).1, nm) ∈ nocastL) (kk : wp d M Q kc ks pc' ls (vI (if b then 1 else 0) :: st) h) : wp d M Q kc ks pc ls (vR (some o) :: st) h := by
  subst hp
  subst hon
  intro p l e R s m args below meth c A Z E ad H locs lsC K G D hl g1 g2
  obtain ⟨k1, k2, k3, k4, k5, k6, k7, k8, k9, k10, k11, k12, k13⟩ := id K
  have he : (toW E ad h)[o]? = some (ad o, .inr (ci, fv ad (hi h o) (hr h o) 0 (FK ci))) := by rw [toW_at ho, cell_obj hsh]
  obtain ⟨q, hq, -⟩ := D.1 o _ he
  have hg : classes.getD ci (RL, TX0, 0) = q := by rw [List.getD_eq_getElem?_getD, hq]; rfl
  rw [hg] at hb
  have hrc := va_recv k6 D.1 hq he
  cases b with
  | true =>
    rcases hb with w | w
    · subst w
      exact va_instS (a := ad o) k1 k2 k4 (k5 _ hs) ((k6.1 ci q hq).2) hrc hd (kk p l e R s m args below meth c A Z E ad H locs lsC K G D hl g1 g2)
    · exact va_instY (a := ad o) (C := q.1) k1 k2 k4 (k5 _ hs) (k8.2.1 _ w) hrc hd (kk p l e R s m args below meth c A Z E ad H locs lsC K G D hl g1 g2)
  | false => exact va_instNo (a := ad o) (C := q.1) k1 k2 k4 (k5 _ hs) (k8.2.2.1 _ hb) hrc hd (kk p l e R s m args below meth c A Z E ad H locs lsC K G D hl g1 g2)
end Making
