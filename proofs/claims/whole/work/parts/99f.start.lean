/-! the law from its entry (by hand) -/
def okw (n : Nat) : AV → Bool
  | .inr (.inr (some k)) => decide (k < n) || k == 999
  | _ => true
theorem cv_okw {n : Nat} {ad ad' : Nat → Nat} {v : AV} (hv : okw n v = true) (ha : ∀ k, k < n → ad' k = ad k) (h9 : ad' 999 = ad 999) : cv ad' v = cv ad v := by
  rcases v with x | x | o
  · rfl
  · rfl
  · cases o with
    | none => rfl
    | some k =>
      have hk : k < n ∨ k = 999 := by simpa [okw] using hv
      rcases hk with w | w
      · simp [cv, ha k w]
      · subst w; simp [cv, h9]
theorem lc_okw {n : Nat} {ad ad' : Nat → Nat} {ls : List (Nat × AV)} (hv : ls.all (fun q => okw n q.2) = true) (ha : ∀ k, k < n → ad' k = ad k) (h9 : ad' 999 = ad 999) : lc ad' ls = lc ad ls := by
  unfold lc
  apply List.map_congr_left
  intro q hq
  rw [cv_okw (List.all_eq_true.mp hv q hq) ha h9]
theorem st_okw {n : Nat} {ad ad' : Nat → Nat} {st : List AV} (hv : st.all (okw n) = true) (ha : ∀ k, k < n → ad' k = ad k) (h9 : ad' 999 = ad 999) : st.map (cv ad') = st.map (cv ad) := by
  apply List.map_congr_left
  intro q hq
  exact cv_okw (List.all_eq_true.mp hv q hq) ha h9
theorem toW_ad {E : En} {ad ad' : Nat → Nat} {h : Hp} (hv : Val h) (ha : ∀ k, k < hn h → ad' k = ad k) : toW E ad' h = toW E ad h := by
  unfold toW
  apply List.map_congr_left
  intro k hk
  have hk : k < hn h := List.mem_range.mp hk
  rw [ha k hk, cell_ad rfl rfl (fun j x hx => ha x (hv k j x hk hx))]
section Ls
variable {b0 L0 : Nat} {xs0 : Nat → Int32} {d M : Nat} {Q : Option AV → Hp → Prop} {kc ks pc pc' : Nat} {ls ls' : List (Nat × AV)} {st st0 : List AV} {h : Hp}
theorem l_new {k idx ci N : Nat} (hk : hn h = k) (hd : fet M pc = .ok (.new idx, 3)) (hp : pc + 3 = pc') {on : String} (hon : own M = on) (hs : SiteN on idx ci N) (hsh : SH k = (0, ci)) (hv : Val h) (h9 : k < 999) (hls : ls.all (fun q => okw k q.2) = true) (hst : st.all (okw k) = true) (hkc : kc + 1 ≤ mc M) (hks : ks + N ≤ ms M) (kk : lwp b0 L0 xs0 d M Q (kc + 1) (ks + N) pc' ls (vR (some k) :: st) (grow h)) : lwp b0 L0 xs0 d M Q kc ks pc ls st h := by
  subst hk
  subst hp
  intro p l e R s m args below meth c A Z E ad H locs lsC K G D hl g1 g2 g3
  subst hon
  obtain ⟨q, q1, q2, q3, q4, q5, q6, ty, q7, q8⟩ := hs
  subst q2
  obtain ⟨k1, k2, k3, k4, k5, k6, k7, k8, k9, k10, k11, k12⟩ := id K
  refine va_new (D := E.1) (T := q.2.1) (ci := ci) (fs := fv id (fun _ => 0) (fun _ => none) 0 (FK ci)) k1 k2 k5 q3 ty q7 k4 (k5 _ q4) (k5 _ q5) (k5 _ q6) k6 D.1 D.2.1 D.2.2 k7 q1 q8 (Nat.le_trans hkc k11) (Nat.le_trans hks k12) hd (fun a H1 e1 e2 e3 => ?_)
  have hag : ∀ k, k < hn h → ext1 ad (hn h) a k = ad k := fun k hk => ext1_lt hk
  have h99 : ext1 ad (hn h) a 999 = ad 999 := by
    have hne : (999 : Nat) ≠ hn h := by omega
    simp [ext1, hne]
  have hw : toW E (ext1 ad (hn h) a) (grow h) = toW E ad h ++ [(a, .inr (ci, fv id (fun _ => 0) (fun _ => none) 0 (FK ci)))] := by
    rw [toW_grow hv hag, ext1_at, cell_obj hsh, hi_grow_at, hr_grow_at, fv_ad (ad := id) (fun j x hx => by cases hx)]
  have w := kk p l e R s m args below meth c A Z E (ext1 ad (hn h) a) H1 locs lsC K (RT_ext G (by omega) hag (Nat.le_succ _)) ⟨by rw [hw]; exact e1, by rw [hw]; exact e2, e3⟩ (by rw [lc_okw hls hag h99]; exact hl) hkc hks ⟨h99.trans g3.1, g3.2⟩
  rw [List.map_cons, st_okw hst hag h99, show cv (ext1 ad (hn h) a) (vR (some (hn h))) = .ref a by simp [cv, va_rf, ext1_at]] at w
  exact w
theorem l_callA {k M' : Nat} {ins : Instr} {cr : Option Nat} (av st : List AV) (hk : hn h = k) (hd : fet M pc = .ok (ins, 3)) (hp : pc + 3 = pc') {on : String} (hon : own M = on) (hs : Site on ins cr M') (hcr : rcv cr av h) (hlen : av.length = na M' + (if cr.isSome then 1 else 0)) (hml : ml M' ≤ 20) (hm : mc M ≠ 0) (hls : ls.all (fun q => okw k q.2) = true) (hso : st.all (okw k) = true) (hwt : (st.map wt).sum ≤ 8) (hst : st0 = av.reverse ++ st) (hkc : kc + mc M' ≤ mc M) (hks : ks + ms M' ≤ ms M)
    (kk : Spec d M' av h (fun r h1 => r = none ∧ Val h1 ∧ hn h1 < 999 ∧ lwp b0 L0 xs0 (d + 1) M Q (kc + mc M') (ks + ms M') pc' ls st h1)) : lwp b0 L0 xs0 (d + 1) M Q kc ks pc ls st0 h := by
  subst hk
  subst hp
  intro p l e R s m args below meth c A Z E ad H locs lsC K G D hl g1 g2 g3
  refine run_W (site_runL K D hl hd hon hs hcr hlen hml hwt hst hkc hks kk) D.2.1 D.2.2 K.2.2.2.2.2.2.1 ?_
  rintro r h1 ad' H1 locs1 a1 a2 a3 ⟨rfl, hv, hn9, a4⟩ a5
  have b1 : ∀ k, k < hn h1 → ext1 ad' 999 (ad 999) k = ad' k := fun k hk => ext1_lt (Nat.lt_trans hk hn9)
  have b2 : ∀ k, k < hn h → ext1 ad' 999 (ad 999) k = ad k := fun k hk => (b1 k (Nat.lt_of_lt_of_le hk a2)).trans (a1 k hk)
  have b3 : ext1 ad' 999 (ad 999) 999 = ad 999 := ext1_at
  have w := a4 p l e R s m args below meth c A Z E (ext1 ad' 999 (ad 999)) H1 locs1 lsC K (RT_ext G hm b2 a2) (by unfold WD; rw [toW_ad hv b1]; exact a5) (by rw [lc_okw hls b2 b3]; exact hl) hkc hks ⟨b3.trans g3.1, g3.2⟩
  rw [st_okw hso b2 b3] at w
  exact w
theorem lwp_heap {h1 : Hp} (e : h = h1) (kk : lwp b0 L0 xs0 d M Q kc ks pc ls st h1) : lwp b0 L0 xs0 d M Q kc ks pc ls st h := e ▸ kk
theorem law_start (hL : L0 ≤ 384) (hQ : ∀ h, Q (some (vI 1)) h) : lwp b0 L0 xs0 41 252 Q 0 0 0 [(0, vR (some 999))] [] hp0 := by
  refine l_new (pc' := 3) hn0_ d252_0 rfl o252 snL_7 rfl vl0 (by decide) rfl rfl (Nat.le_of_ble_eq_true rfl) (Nat.le_of_ble_eq_true rfl) ?_
  refine lwp_heap (show _ = hp1 from rfl) ?_
  refine l_dupR (pc' := 4) d252_3 rfl ?_
  refine l_callA (pc' := 7) [vR (some 0)] [vR (some 0)] hn1_ d252_4 rfl o252 (stL_9 11) (rcv1 sh0 (ltk hn1_ (by decide))) rfl (by decide) (by decide +kernel) rfl rfl (Nat.le_of_ble_eq_true rfl) rfl (Nat.le_of_ble_eq_true rfl) (Nat.le_of_ble_eq_true rfl) (k_mk1 (d := 35) ⟨rfl, vl128, by rw [hn128_]; decide, ?_⟩)
  refine l_astore_n (pc' := 8) (ls' := [(1, vR (some 0)), (0, vR (some 999))]) d252_7 rfl rfl (Nat.le_of_ble_eq_true rfl) rfl ?_
  refine l_new (pc' := 11) hn128_ d252_8 rfl o252 snL_10 rfl vl128 (by decide) rfl rfl (Nat.le_of_ble_eq_true rfl) (Nat.le_of_ble_eq_true rfl) ?_
  refine lwp_heap (show _ = hp129 from rfl) ?_
  refine l_dupR (pc' := 12) d252_11 rfl ?_
  refine l_callA (pc' := 15) [vR (some 50)] [vR (some 50)] hn129_ d252_12 rfl o252 (stL_12 12) (rcv1 sh50 (ltk hn129_ (by decide))) rfl (by decide) (by decide +kernel) rfl rfl (Nat.le_of_ble_eq_true rfl) rfl (Nat.le_of_ble_eq_true rfl) (Nat.le_of_ble_eq_true rfl) (k_mk8 (d := 39) ⟨rfl, vl165, by rw [hn165_]; decide, ?_⟩)
  refine l_astore_n (pc' := 16) (ls' := [(2, vR (some 50)), (1, vR (some 0)), (0, vR (some 999))]) d252_15 rfl rfl (Nat.le_of_ble_eq_true rfl) rfl ?_
  refine l_iconst (v := 0) (pc' := 17) d252_16 rfl (by decide) ?_
  refine l_istore_n (pc' := 18) (ls' := [(3, vI (nI 0)), (2, vR (some 50)), (1, vR (some 0)), (0, vR (some 999))]) d252_17 rfl rfl (Nat.le_of_ble_eq_true rfl) rfl ?_
  exact lwp_pick (ls' := LSi 0) [3, 2, 1, 0] rfl (law_loop hL hQ 64 0 hpZ (by omega) (by omega) sim_0)
end Ls
theorem nc_nest : ∀ q ∈ nestL, Cond.methodLinkNest q.1 q.2.1 q.2.2.1 q.2.2.2 ∈ lw_tbl := by decide +kernel
theorem nc_cast : ∀ q ∈ castL, Cond.castable q.1 q.2 ∈ lw_tbl := by decide +kernel
theorem nc_over : ∀ C ∈ overL, Cond.arrayOver (.object C) ∈ lw_tbl := by decide +kernel
theorem nc_no : ∀ q ∈ nocastL, Cond.not (.castable q.1 q.2) ∈ flatC (Jvm.Cond.and given_1 narrow_1) := by decide +kernel
theorem known_c {s : State} {args : Array Value} (hts : ∀ w ∈ TBL, w.before args s = true) : ∃ D : va_G, ∀ (c : Nat) (q : vw_C), classes[c]? = some q → u_Kn s q.1 q.2.1 q.2.2 (D.1 c) (D.2 c) := by
  have h : ∀ c : Nat, ∃ x : ClassId × (Nat → Nat), ∀ q : vw_C, classes[c]? = some q → u_Kn s q.1 q.2.1 q.2.2 x.1 x.2 := by
    intro c
    match c with
    | 0 => obtain ⟨a, i, w⟩ := u_known (n := 4) hts uw0 (hts (.instantiable RX0 4) (tb 219 (by decide +kernel) rfl)); exact ⟨(a, i), fun q hq => by cases hq; exact w⟩
    | 1 => obtain ⟨a, i, w⟩ := u_known (n := 4) hts uw1 (hts (.instantiable RX1 4) (tb 197 (by decide +kernel) rfl)); exact ⟨(a, i), fun q hq => by cases hq; exact w⟩
    | 2 => obtain ⟨a, i, w⟩ := u_known (n := 4) hts uw2 (hts (.instantiable RX2 4) (tb 230 (by decide +kernel) rfl)); exact ⟨(a, i), fun q hq => by cases hq; exact w⟩
    | 3 => obtain ⟨a, i, w⟩ := u_known (n := 4) hts uw3 (hts (.instantiable RX3 4) (tb 161 (by decide +kernel) rfl)); exact ⟨(a, i), fun q hq => by cases hq; exact w⟩
    | 4 => obtain ⟨a, i, w⟩ := u_known (n := 6) hts uw4 (hts (.instantiable RX4 6) (tb 114 (by decide +kernel) rfl)); exact ⟨(a, i), fun q hq => by cases hq; exact w⟩
    | 5 => obtain ⟨a, i, w⟩ := u_known (n := 3) hts uw5 (hts (.instantiable RX5 3) (tb 97 (by decide +kernel) rfl)); exact ⟨(a, i), fun q hq => by cases hq; exact w⟩
    | 6 => obtain ⟨a, i, w⟩ := u_known (n := 4) hts uw6 (hts (.instantiable RX6 4) (tb 186 (by decide +kernel) rfl)); exact ⟨(a, i), fun q hq => by cases hq; exact w⟩
    | 7 => obtain ⟨a, i, w⟩ := u_known (n := 4) hts uw7 (hts (.instantiable RX7 4) (tb 208 (by decide +kernel) rfl)); exact ⟨(a, i), fun q hq => by cases hq; exact w⟩
    | 8 => obtain ⟨a, i, w⟩ := u_known (n := 8) hts uw8 (hts (.instantiable RX8 8) (tb 241 (by decide +kernel) rfl)); exact ⟨(a, i), fun q hq => by cases hq; exact w⟩
    | 9 => obtain ⟨a, i, w⟩ := u_known (n := 2) hts uw9 (hts (.instantiable RX9 2) (tb 142 (by decide +kernel) rfl)); exact ⟨(a, i), fun q hq => by cases hq; exact w⟩
    | 10 => obtain ⟨a, i, w⟩ := u_known (n := 14) hts uw10 (hts (.instantiable RX10 14) (tb 286 (by decide +kernel) rfl)); exact ⟨(a, i), fun q hq => by cases hq; exact w⟩
    | 11 => obtain ⟨a, i, w⟩ := u_known (n := 17) hts uw11 (hts (.instantiable RX11 17) (tb 89 (by decide +kernel) rfl)); exact ⟨(a, i), fun q hq => by cases hq; exact w⟩
    | 12 => obtain ⟨a, i, w⟩ := u_known (n := 24) hts uw12 (hts (.instantiable RX12 24) (tb 994 (by decide +kernel) rfl)); exact ⟨(a, i), fun q hq => by cases hq; exact w⟩
    | k + 13 => exact ⟨(0, fun _ => 0), fun q hq => by simp [classes] at hq⟩
  exact ⟨(fun c => (Classical.choose (h c)).1, fun c => (Classical.choose (h c)).2), fun c q hq => Classical.choose_spec (h c) q hq⟩
theorem known_a {s : State} {args : Array Value} {ty : FieldType} (hn0 : ∀ C, ty ≠ .object C) (h : (Cond.arrayClass ty).before args s = true) : ∃ cA : ClassId, ArrOfT s cA ty ∧ va_RA s cA ty := by
  obtain ⟨cA, kA, comp, hf, hk, hkind⟩ := Cond.arrayClass_spec h
  refine ⟨cA, fun n z => ⟨fun k h => (by cases h), kA, hk, comp, hkind⟩, ?_⟩
  cases ty with
  | object C => exact absurd rfl (hn0 C)
  | _ => exact hf
theorem known_o {s : State} {args : Array Value} {C : String} (h : (Cond.arrayOver (.object C)).before args s = true) : ∃ cA : ClassId, ArrOfT s cA (.object C) ∧ va_RA s cA (.object C) := by
  obtain ⟨comp, cA, kA, h1, h2, h3, h4, h5⟩ := Cond.arrayOver_spec h
  exact ⟨cA, fun n z => ⟨fun k h => (by cases h), kA, h3, comp, h4⟩, kA, comp, h3, h4, h1, h5⟩
theorem known {s : State} {args : Array Value} (hts : ∀ w ∈ TBL, w.before args s = true) (ho : ∀ C ∈ overL, (Cond.arrayOver (.object C)).before args s = true) : ∃ E : En, va_K E.1 classes (tysE E) s := by
  obtain ⟨D, hD⟩ := known_c hts
  obtain ⟨c1, h1⟩ := known_a (ty := .int) (fun C w => by cases w) (hts _ jaI)
  obtain ⟨c2, h2⟩ := known_a (ty := .boolean) (fun C w => by cases w) (hts _ jaZ)
  obtain ⟨c3, h3⟩ := known_o (C := RX3) (ho _ (by decide +kernel))
  obtain ⟨c4, h4⟩ := known_o (C := RX8) (ho _ (by decide +kernel))
  refine ⟨(D, c1, c2, c3, c4), hD, fun k q hq => ?_⟩
  match k with
  | 0 => cases hq; exact h1
  | 1 => cases hq; exact h2
  | 2 => cases hq; exact h3
  | 3 => cases hq; exact h4
  | k + 4 => simp [tysE] at hq
theorem lw_stand {p : Program} {s : State} {m : MethodId} {meth : Method} {c : Code} {b L : Nat} {xs : Nat → Int32} (C0 : lw_At p s m meth c b L xs) : ∃ E : En, OKL p room_1 s m #[Value.ref b] c (fun q => s.heap.size ≤ q) E 41 252 := by
  obtain ⟨hx, hb, hr, hml, hown, hts0, hX, hbl, hlocks, hgv⟩ := id C0
  have hts : ∀ w ∈ TBL, w.before #[Value.ref b] s = true := fun w hw => hts0 w (List.mem_filter.mp hw).1
  have hov : ∀ C ∈ overL, (Cond.arrayOver (.object C)).before #[Value.ref b] s = true := fun C hC => hts0 _ (nc_over C hC)
  obtain ⟨E, hK⟩ := known hts hov
  have hN : NC s := ⟨fun q hq => va_Nw.of rfl (hts0 _ (nc_nest q hq)), fun q hq => va_Nw.of rfl (hts0 _ (nc_cast q hq)), fun q hq => va_Nc.of (flat_of_before _ hgv _ (nc_no q hq)), fun C hC => va_AO.of (hov C hC)⟩
  exact ⟨E, hx, hb, hml, by rw [o252]; exact hown, hts, hK, fun _ h => h, hN, by decide, by decide, by decide, by decide⟩
/-- YOUR PART: from the entry, for every script of at most 384 ints, the law comes to its end with true -/
theorem whole_start {p : Program} {e : Env} {s : State} {m : MethodId} {below : List Frame} {meth : Method} {c : Code} (l : Launch) {b L : Nat} {xs : Nat → Int32} (hL : L ≤ 384) (C0 : lw_At p s m meth c b L xs) : W p l e room_1 s m #[Value.ref b] below meth c s.heap [] 0 0 (lw_Z below #[Value.ref b] s) (entryFrame m ([Value.ref b] : List Value).toArray 4) := by
  obtain ⟨hx, hb, hr, hml, hown, hts0, hX, hbl, hlocks, hgv⟩ := id C0
  obtain ⟨E, K⟩ := lw_stand C0
  have hP : va_P E.1 classes (toW E (fun _ => b) hp0) s.heap := fun k q h => by simp [toW, hn0_] at h
  have hD : va_D (fun q => s.heap.size ≤ q) (toW E (fun _ => b) hp0) := ⟨fun i j p q h => by simp [toW, hn0_] at h, fun k q h => by simp [toW, hn0_] at h⟩
  have hl := lv_entry ([Value.ref b]) (n := 4) (Nat.le_of_ble_eq_true rfl)
  rw [lg_entry_eq]
  refine law_start (b0 := b) (L0 := L) (xs0 := xs) (Q := fun r _ => r = some (vI 1)) hL (fun _ => rfl) p l e room_1 s m #[Value.ref b] below meth c (fun q => s.heap.size ≤ q) (lw_Z below #[Value.ref b] s) E (fun _ => b) s.heap [] _ K ?_ ⟨hP, hD, va_S.rf⟩ hl (Nat.zero_le _) (Nat.zero_le _) ⟨rfl, hX, hbl, Nat.not_le.mpr hbl⟩
  intro ad' r h1 H locs kc ks pc lsC a1 a2 a3 a4 a5 a6 a7 a8
  have a4 : r = some (vI 1) := a4
  subst a4
  refine W.widen (k := 600000) (n := 7302250) a6 a7 ?_
  refine va_forget (fun q hq => a5.2.2.2.2 q hq) ?_
  exact lw_ret hx hb hr hlocks a8.1
