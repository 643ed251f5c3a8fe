/-! judgements: OKX (what a frame stands on), WD (the world), RT (how it ends), wp (from here on), Spec (a method) -/
def TBL : List Cond := lw_tbl.filter goodWord
theorem tb {w : Cond} (i : Nat) (h : lw_tbl[i]? = some w) (hg : goodWord w = true) : w ∈ TBL := List.mem_filter.mpr ⟨List.mem_of_getElem? h, hg⟩
theorem tbl_good {w : Cond} (h : w ∈ TBL) : (w.onTables && w.keeps) = true ∨ ∃ ty, w = .arrayClass ty := good_of_word (List.mem_filter.mp h).2
def own (M : Nat) : String := (ym M).cls
def WS (M : Nat) : List Cond := .code (ym M) (bt M) (ml M) (rt M) :: TBL
theorem good_ws {M : Nat} (hc : Cond.code (ym M) (bt M) (ml M) (rt M) ∈ TBL) : GoodIn TBL (WS M) := by
  intro w hw
  rcases List.mem_cons.mp hw with rfl | h
  · exact ⟨hc, tbl_good hc⟩
  · exact ⟨h, tbl_good h⟩
theorem good_app {a b : List Cond} (ha : ∀ w ∈ a, w ∈ TBL) (hb : GoodIn TBL b) : GoodIn TBL (a ++ b) := by
  intro w hw
  rcases List.mem_append.mp hw with h | h
  · exact ⟨ha w h, tbl_good (ha w h)⟩
  · exact hb w h
def NC (s : State) : Prop := (∀ q ∈ nestL, va_Nw (.methodLinkNest q.1 q.2.1 q.2.2.1 q.2.2.2) s) ∧ (∀ q ∈ castL, va_Nw (.castable q.1 q.2) s) ∧ (∀ q ∈ nocastL, va_Nc q.1 q.2 s) ∧ (∀ C ∈ overL, va_AO C s)
def rmD (d M : Nat) : Room := { frames := d, cells := mc M, slots := ms M, locals := 40 * d }
def OKX (p : Program) (R : Room) (s : State) (m : MethodId) (args : Array Value) (meth : Method) (c : Code) (A : Nat → Prop) (E : En) (d M : Nat) : Prop :=
  p.tables.exec = Jvm.exec ∧ c.code = bt M ∧ c.maxLocals = ml M ∧ s.vm.findClass (own M) = some m.cls ∧ (∀ w ∈ TBL, w.before args s = true) ∧ va_K E.1 classes (tysE E) s ∧ (∀ q, s.heap.size ≤ q → A q) ∧ NC s ∧ d ≤ R.frames ∧ 40 * d ≤ R.locals ∧ mc M ≤ R.cells ∧ ms M ≤ R.slots ∧ meth.name = (ym M).name
def WD (E : En) (A : Nat → Prop) (ad : Nat → Nat) (h : Hp) (H0 H : Heap) (locs : List Loc) : Prop := va_P E.1 classes (toW E ad h) H ∧ va_D A (toW E ad h) ∧ va_S A H0 H locs
def RI (M pc : Nat) (r : Option AV) : Prop := match r with
  | none => fet M pc = .ok (.return_, 1) ∧ rt M = none
  | some (.inl x) => fet M pc = .ok (.ireturn, 1) ∧ ∃ t, rt M = some t ∧ narrow t (.int x) = .int x
  | some (.inr (.inr _)) => fet M pc = .ok (.areturn, 1) ∧ ∃ t, rt M = some t ∧ ((∃ n, t = .object n) ∨ ∃ u, t = .array u)
  | _ => False
def RT (p : Program) (l : Launch) (e : Env) (R : Room) (s : State) (m : MethodId) (args : Array Value) (below : List Frame) (meth : Method) (c : Code) (A : Nat → Prop) (Z : State → Prop) (E : En) (ad : Nat → Nat) (n M : Nat) (Q : Option AV → Hp → Prop) : Prop :=
  ∀ (ad' : Nat → Nat) (r : Option AV) (h1 : Hp) (H : Heap) (locs : List Loc) (kc ks pc : Nat) (lsC : Array Slot), (∀ k, k < n → ad' k = ad k) → n ≤ hn h1 → (mc M = 0 → ad' = ad ∧ hn h1 = n) → Q r h1 → WD E A ad' h1 s.heap H locs → kc ≤ mc M → ks ≤ ms M → RI M pc r → W p l e R s m args below meth c H locs kc ks Z (F0 m pc lsC (r.toList.map (cv ad')))
def wp (d M : Nat) (Q : Option AV → Hp → Prop) (kc ks pc : Nat) (ls : List (Nat × AV)) (st : List AV) (h : Hp) : Prop :=
  ∀ (p : Program) (l : Launch) (e : Env) (R : Room) (s : State) (m : MethodId) (args : Array Value) (below : List Frame) (meth : Method) (c : Code) (A : Nat → Prop) (Z : State → Prop) (E : En) (ad : Nat → Nat) (H : Heap) (locs : List Loc) (lsC : Array Slot),
    OKX p R s m args meth c A E d M → RT p l e R s m args below meth c A Z E ad (hn h) M Q → WD E A ad h s.heap H locs → lv_has lsC (ml M) (lc ad ls) → kc ≤ mc M → ks ≤ ms M → W p l e R s m args below meth c H locs kc ks Z (F0 m pc lsC (st.map (cv ad)))
def World (E : En) (ad : Nat → Nat) (h : Hp) (U : State) : Prop := va_P E.1 classes (toW E ad h) U.heap ∧ va_K E.1 classes (tysE E) U ∧ NC U
def PreC (E : En) (ad : Nat → Nat) (h : Hp) (av : List AV) (sz : Nat) : Array Value → State → Prop := va_Pc (av.map (cv ad)) (fun U => U.heap.size = sz ∧ World E ad h U ∧ va_D (fun _ => True) (toW E ad h))
def PostC (E : En) (ad : Nat → Nat) (h : Hp) (Q : Option AV → Hp → Prop) (M sz : Nat) : Array Value → State → Outcome → State → Prop := fun _ st oc t =>
  (∃ (r : Option AV) (h1 : Hp) (ad' : Nat → Nat), (∀ k, k < hn h → ad' k = ad k) ∧ hn h ≤ hn h1 ∧ (mc M = 0 → ad' = ad ∧ hn h1 = hn h) ∧ oc = .returned (r.map (cv ad')) ∧ Q r h1 ∧ va_P E.1 classes (toW E ad' h1) t.heap ∧ va_D (va_A (toW E ad h) sz) (toW E ad' h1)) ∧ va_F (va_A (toW E ad h) sz) st t
def Spec (d M : Nat) (av : List AV) (h : Hp) (Q : Option AV → Hp → Prop) : Prop := ∀ (l : Launch) (E : En) (ad : Nat → Nat) (sz : Nat), Met l (ym M) (WS M) (rmD d M) (PreC E ad h av sz) (PostC E ad h Q M sz) (mc M) (ms M) (va_A (toW E ad h) sz)
theorem NC.warm {s U : State} (hW : s.WarmedH U.vm) (h : NC s) : NC U :=
  ⟨fun q hq => va_Nw.warmM hW (h.1 q hq), fun q hq => va_Nw.warmC hW (h.2.1 q hq), fun q hq => (h.2.2.1 q hq).moved hW.alike, fun C hC => va_AO.moved hW.alike (h.2.2.2 C hC)⟩
theorem NC.same {s U : State} (hv : s.vm = U.vm) (h : NC s) : NC U :=
  ⟨fun q hq => va_Nw.same rfl hv (h.1 q hq), fun q hq => va_Nw.same rfl hv (h.2.1 q hq), fun q hq => (h.2.2.1 q hq).moved (by rw [hv]; exact Vm.Alike.refl _), fun C hC => va_AO.moved (by rw [hv]; exact Vm.Alike.refl _) (h.2.2.2 C hC)⟩
theorem PreC.blind {E : En} {ad : Nat → Nat} {h : Hp} {av : List AV} {sz : Nat} : FrameBlind (PreC E ad h av sz) := by
  intro a U g mk q
  obtain ⟨q0, q1, ⟨qP, qK, qN⟩, qD⟩ := q
  exact ⟨q0, q1, ⟨qP, va_K.moved (u := U) (U := U.calling g mk a) (Vm.Alike.refl U.vm) qK, NC.same (s := U) (U := U.calling g mk a) rfl qN⟩, qD⟩
