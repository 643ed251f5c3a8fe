/-! a method's contract out of wp; calls -/
theorem spec_intro {d M : Nat} {av : List AV} {h : Hp} {Q : Option AV → Hp → Prop} (hy : plainName (own M) = true) (hnl : av.all (fun v => !isL v) = true) (hlen : av.length ≤ ml M) (hwp : wp d M Q 0 0 0 (la 0 av) [] h) : Spec d M av h Q := by
  intro l E ad sz
  refine Met.ofW (cc := bt M) (maxL := ml M) (ret := rt M) hy rfl ?_
  intro p e s m args below meth c s₁ B hml hv
  obtain ⟨rfl, hsz, ⟨hP, hK, hN⟩, hD0⟩ := hv
  have hts := atoms_spec (ws := WS M) B.pre
  have hown : s.vm.findClass (own M) = some m.cls := findClass_of_methodNamed B.named
  have hlocks := B.notSynchronized
  subst hsz
  have hD := hD0.self (sz := s.heap.size)
  have hl := lv_entry (av.map (cv ad)) (n := ml M) (by rw [la_len _ _ hnl]; exact hlen)
  rw [la_args ad av hnl 0] at hl
  rw [lg_entry_eq]
  refine hwp p l e _ s m _ below meth c (va_A (toW E ad h) s.heap.size) _ E ad s.heap [] _ ⟨B.exec, B.bytes, hml, hown, fun w hw => hts w (List.mem_cons_of_mem _ hw), hK, fun q hq => Or.inr hq, hN, Nat.le_refl _, Nat.le_refl _, Nat.le_refl _, Nat.le_refl _, (name_of_methodNamed B.named B.method).1⟩ ?_ ⟨hP, hD, va_S.rf⟩ hl (Nat.zero_le _) (Nat.zero_le _)
  intro ad' r h1 H locs kc ks pc lsC a1 a2 a3 a4 a5 a6 a7 a8
  refine W.widen a6 a7 ?_
  have hq : ∀ t : State, t.heap = H → s.WarmedH t.vm → PostC E ad h Q M s.heap.size (av.map (cv ad)).toArray s (.returned (r.map (cv ad'))) t := fun t ht hW => ⟨⟨r, h1, ad', a1, a2, a3, rfl, a4, by rw [ht]; exact a5.1, a5.2.1⟩, a5.2.2.F ht⟩
  rcases r with _ | x | x | o
  · exact W.vret B.exec B.bytes (B.returns.trans a8.2) hq a5.2.2.2.2 a8.1
  · obtain ⟨hd, t, hr0, hn0⟩ := a8
    exact W.zret B.exec B.bytes (B.returns.trans hr0) hn0 hq a5.2.2.2.2 hd
  · exact a8.elim
  · obtain ⟨hd, t, hr0, ht⟩ := a8
    exact W.aret B.exec B.bytes (B.returns.trans hr0) ht (by cases o with
      | none => exact Or.inl rfl
      | some q => exact Or.inr ⟨_, rfl⟩) hq a5.2.2.2.2 hd
theorem run_W {p : Program} {l : Launch} {e : Env} {R : Room} {s : State} {m : MethodId} {args : Array Value} {below : List Frame} {meth : Method} {c : Code} {H : Heap} {locs : List Loc} {kc ks : Nat} {Z : State → Prop} {E : En} {ad : Nat → Nat} {h : Hp} {Q : Option AV → Hp → Prop} {M' pc : Nat} {A : Nat → Prop} {lsC : Array Slot} {st0 rest : List Value} {av : Array Value}
    (hr : va_Run p l e R s m args below meth c H locs kc ks (mc M') (ms M') (F0 m pc lsC st0) rest (PostC E ad h Q M' H.size av) (va_A (toW E ad h) H.size)) (hD : va_D A (toW E ad h)) (hS : va_S A s.heap H locs) (hA : ∀ q, s.heap.size ≤ q → A q)
    (kk : ∀ (r : Option AV) (h1 : Hp) (ad' : Nat → Nat) (H1 : Heap) (locs1 : List Loc), (∀ k, k < hn h → ad' k = ad k) → hn h ≤ hn h1 → (mc M' = 0 → ad' = ad ∧ hn h1 = hn h) → Q r h1 → WD E A ad' h1 s.heap H1 locs1 → W p l e R s m args below meth c H1 locs1 (kc + mc M') (ks + ms M') Z (F0 m (pc + 3) lsC ((r.map (cv ad')).toList ++ rest))) : W p l e R s m args below meth c H locs kc ks Z (F0 m pc lsC st0) := by
  have hF : ∀ q, va_A (toW E ad h) H.size q → A q := by
    intro q hq
    rcases hq with ⟨k, e0, hk⟩ | hq
    · exact hD.2 k _ hk
    · exact hA q (Nat.le_trans hS.1 hq)
  intro T hT X
  obtain ⟨v, st₀, t, T', L, h0, X', hL, e1, e2, ⟨⟨r, h1, ad', a1, a2, a3, hv, a4, a5, a6⟩, hz, hk⟩, st⟩ := hr T hT X
  have hv := Outcome.returned.inj hv
  subst hv
  rw [h0] at hz hk
  obtain ⟨t2, b1, b2⟩ := kk r h1 ad' T'.heap (locs ++ L) a1 a2 a3 a4 ⟨by rw [e1]; exact a5, a6.weaken (fun k q _ w => hF _ w), ⟨Nat.le_trans hS.1 (by rw [e1]; exact hz), fun q h1 h2 => by rw [e1, hk q (Nat.lt_of_lt_of_le h1 hS.1) (fun z => h2 (hF q z))]; exact hS.2.1 q h1 h2, fun q hq => by
      rcases List.mem_append.mp hq with w | w
      · exact hS.2.2 q w
      · exact hF _ (hL q w)⟩⟩ T' rfl X'
  exact ⟨t2, st t2 b1, b2⟩
/-- what a call site gives: the tables' words of the call are there -/
def Site (o : String) (ins : Instr) (cr : Option Nat) (M' : Nat) : Prop :=
  ∀ (p : Program) (l : Launch) (e : Env) (R : Room) (s : State) (m : MethodId) (args : Array Value) (below : List Frame) (meth : Method) (c : Code) (H : Heap) (locs : List Loc) (kc ks : Nat) (cc : ByteArray) (nL : Nat) (Pc : Array Value → State → Prop) (Qc : Array Value → State → Outcome → State → Prop) (free : Addr → Prop) (rm : Room) (As rest : List Value) (g : JFrame) (E : En),
    CallFix p m c cc nL s args TBL o → NC s → va_K E.1 classes (tysE E) s → Met l (ym M') (WS M') rm Pc Qc (mc M') (ms M') free → rm.cells = mc M' → rm.slots = ms M' → (rm.frames + 1 ≤ R.frames ∧ 8 + (ml M' + 11) + rm.locals ≤ R.locals) → FrameBlind Pc → (∀ U : State, U.heap = H → s.WarmedH U.vm → Pc As.toArray U) →
    (∀ ci, cr = some ci → ∃ (b : Addr) (As' : List Value) (q : vw_C) (cl : Cell), As = .ref b :: As' ∧ classes[ci]? = some q ∧ H[b]? = some cl ∧ cl.vm.isStatics = false ∧ s.vm.findClass q.1 = some cl.cls) →
    As.length = na M' + (if cr.isSome then 1 else 0) → g.method = m → g.locals.size = nL → g.stack = As.reverse ++ rest → 2 * g.monitorRoom + (rest.map fun v => v.category).sum ≤ 8 → decode cc g.pc = .ok (ins, 3) → (kc + mc M' ≤ R.cells ∧ ks + ms M' ≤ R.slots) →
    va_Run p l e R s m args below meth c H locs kc ks (mc M') (ms M') g rest (Qc As.toArray) free
def rcv (cr : Option Nat) (av : List AV) (h : Hp) : Prop := ∀ ci, cr = some ci → ∃ (o : Nat) (t : List AV), av = vR (some o) :: t ∧ SH o = (0, ci) ∧ o < hn h
theorem cat_sum (ad : Nat → Nat) (st : List AV) : ((st.map (cv ad)).map fun v => v.category) = st.map wt := by
  rw [List.map_map]
  apply List.map_congr_left
  intro v _
  exact cv_cat ad v
def nxt (r : Option AV) (st : List AV) : List AV := match r with
  | none => st
  | some v => v :: st
section Calls
variable {d M : Nat} {Q : Option AV → Hp → Prop} {kc ks pc pc' : Nat} {ls ls' : List (Nat × AV)} {st st0 : List AV} {h : Hp}
/-- a call's run, out of the site and the callee's contract -/
theorem site_run {M' : Nat} {ins : Instr} {cr : Option Nat} {av : List AV} {Q' : Option AV → Hp → Prop} {p : Program} {l : Launch} {e : Env} {R : Room} {s : State} {m : MethodId} {args : Array Value} {below : List Frame} {meth : Method} {c : Code} {A : Nat → Prop} {E : En} {ad : Nat → Nat} {H : Heap} {locs : List Loc} {lsC : Array Slot}
    (K : OKX p R s m args meth c A E (d + 1) M) (D : WD E A ad h s.heap H locs) (hl : lv_has lsC (ml M) (lc ad ls))
    (hd : fet M pc = .ok (ins, 3)) {on : String} (hon : own M = on) (hs : Site on ins cr M') (hcr : rcv cr av h) (hlen : av.length = na M' + (if cr.isSome then 1 else 0)) (hml : ml M' ≤ 20) (hwt : (st.map wt).sum ≤ 8) (hst : st0 = av.reverse ++ st) (hkc : kc + mc M' ≤ mc M) (hks : ks + ms M' ≤ ms M) (kk : Spec d M' av h Q') :
    va_Run p l e R s m args below meth c H locs kc ks (mc M') (ms M') (F0 m pc lsC (st0.map (cv ad))) (st.map (cv ad)) (PostC E ad h Q' M' H.size (av.map (cv ad)).toArray) (va_A (toW E ad h) H.size) := by
  subst hon
  obtain ⟨k1, k2, k3, k4, k5, k6, k7, k8, k9, k10, k11, k12, k13⟩ := K
  refine hs p l e R s m args below meth c H locs kc ks (bt M) (ml M) (PreC E ad h av H.size) (PostC E ad h Q' M' H.size) (va_A (toW E ad h) H.size) (rmD d M') (av.map (cv ad)) (st.map (cv ad)) (F0 m pc lsC (st0.map (cv ad))) E ⟨k1, k2, k3, k4, k5⟩ k8 k6 (kk l E ad H.size) rfl rfl ⟨k9, ?_⟩ PreC.blind ?_ ?_ ?_ rfl hl.1 ?_ ?_ hd ⟨Nat.le_trans hkc k11, Nat.le_trans hks k12⟩
  · show 8 + (ml M' + 11) + 40 * d ≤ R.locals
    omega
  · intro U hU hW
    exact ⟨rfl, by rw [hU], ⟨by rw [hU]; exact D.1, va_K.moved hW.alike k6, k8.warm hW⟩, D.2.1.weaken (fun _ _ _ _ => trivial)⟩
  · intro ci hci
    obtain ⟨o, t, rfl, hsh, ho⟩ := hcr ci hci
    have he : (toW E ad h)[o]? = some (ad o, .inr (ci, fv ad (hi h o) (hr h o) 0 (FK ci))) := by rw [toW_at ho, cell_obj hsh]
    obtain ⟨q, hq, -⟩ := D.1 o _ he
    obtain ⟨cl, c1, c2, c3⟩ := va_recv k6 D.1 hq he
    exact ⟨ad o, t.map (cv ad), q, cl, rfl, hq, c1, c2, c3⟩
  · rw [List.length_map]; exact hlen
  · rw [hst, List.map_append, List.map_reverse]
  · refine lv_room ?_
    rw [cat_sum]
    exact hwt
theorem r_call {M' : Nat} {ins : Instr} {cr : Option Nat} (av st : List AV) (hd : fet M pc = .ok (ins, 3)) (hp : pc + 3 = pc') {on : String} (hon : own M = on) (hs : Site on ins cr M') (hcr : rcv cr av h) (hlen : av.length = na M' + (if cr.isSome then 1 else 0)) (hml : ml M' ≤ 20) (hm : mc M' = 0 ∧ ms M' = 0) (hwt : (st.map wt).sum ≤ 8) (hst : st0 = av.reverse ++ st)
    (kk : Spec d M' av h (fun r h1 => wp (d + 1) M Q kc ks pc' ls (nxt r st) h1)) : wp (d + 1) M Q kc ks pc ls st0 h := by
  subst hp
  intro p l e R s m args below meth c A Z E ad H locs lsC K G D hl g1 g2
  refine run_W (site_run K D hl hd hon hs hcr hlen hml hwt hst (by rw [hm.1]; exact g1) (by rw [hm.2]; exact g2) kk) D.2.1 D.2.2 K.2.2.2.2.2.2.1 ?_
  intro r h1 ad' H1 locs1 a1 a2 a3 a4 a5
  obtain ⟨e1, e2⟩ := a3 hm.1
  subst e1
  rw [hm.1, hm.2]
  have w := a4 p l e R s m args below meth c A Z E ad' H1 locs1 lsC K (by rw [e2]; exact G) a5 hl g1 g2
  cases r with
  | none => exact w
  | some v => exact w
end Calls
