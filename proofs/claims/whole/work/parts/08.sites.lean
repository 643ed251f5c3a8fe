/-! call sites in general -/
def DOK (M' : Nat) : Prop := (ym M').cls ≠ "java/lang/invoke/MethodHandle" ∧ (ym M').cls ≠ "java/lang/invoke/VarHandle" ∧ (parseMethodDescriptor (ym M').desc).map (fun d => d.parameters.length) = some (na M')
def MI (M' : Nat) : Prop := Cond.code (ym M') (bt M') (ml M') (rt M') ∈ TBL ∧ Cond.instanceMethod (ym M') ∈ TBL ∧ Cond.initialized (ym M').cls ∈ TBL ∧ DOK M'
def MSt (M' : Nat) : Prop := Cond.code (ym M') (bt M') (ml M') (rt M') ∈ TBL ∧ Cond.static (ym M') ∈ TBL ∧ Cond.initialized (ym M').cls ∈ TBL ∧ DOK M'
theorem mem3 {a b c : Cond} {l : List Cond} (h1 : a ∈ l) (h2 : b ∈ l) (h3 : c ∈ l) : ∀ w ∈ [a, b, c], w ∈ l := by
  intro w hw
  simp at hw
  rcases hw with rfl | rfl | rfl <;> assumption
theorem mem4 {a b c d : Cond} {l : List Cond} (h1 : a ∈ l) (h2 : b ∈ l) (h3 : c ∈ l) (h4 : d ∈ l) : ∀ w ∈ [a, b, c, d], w ∈ l := by
  intro w hw
  simp at hw
  rcases hw with rfl | rfl | rfl | rfl <;> assumption
theorem mem5 {a b c d e : Cond} {l : List Cond} (h1 : a ∈ l) (h2 : b ∈ l) (h3 : c ∈ l) (h4 : d ∈ l) (h5 : e ∈ l) : ∀ w ∈ [a, b, c, d, e], w ∈ l := by
  intro w hw
  simp at hw
  rcases hw with rfl | rfl | rfl | rfl | rfl <;> assumption
theorem mem6 {a b c d e f : Cond} {l : List Cond} (h1 : a ∈ l) (h2 : b ∈ l) (h3 : c ∈ l) (h4 : d ∈ l) (h5 : e ∈ l) (h6 : f ∈ l) : ∀ w ∈ [a, b, c, d, e, f], w ∈ l := by
  intro w hw
  simp at hw
  rcases hw with rfl | rfl | rfl | rfl | rfl | rfl <;> assumption
theorem siteV {o : String} {idx ci M' : Nat} (q : vw_C) (hq0 : classes[ci]? = some q) (hC : (ym M').cls = q.1) (hM0 : MI M') (h1 : Cond.methodLink o idx (ym M') ∈ TBL) (h3 : Cond.selects q.1 (ym M') (ym M') ∈ TBL) : Site o (.invokevirtual idx) (some ci) M' := by
  intro p l e R s m args below meth c H locs kc ks cc nL Pc Qc free rm As rest g E S N hK hM hc hs hR hb hpc hrc hlen hg hsz hst hw hd hf
  obtain ⟨b, As', q2, cl, rfl, hq, c1, c2, c3⟩ := hrc ci rfl
  cases hq0.symm.trans hq
  obtain ⟨m1, m2, m3, m4⟩ := hM0
  exact va_runV (As := As') (rest := rest) (C := q.1) S hM (cwV (na M') S.2.2.2.2 (good_app (mem4 h1 m2 h3 (hC ▸ m3)) (good_ws m1)) rfl hc hs ⟨hC, m4⟩ hR) ⟨hb, ⟨cl, c1, c2, c3⟩, hpc⟩ hg (by simpa using hlen) hsz (by rw [hst]; simp) hw hd hf
theorem siteS {o : String} {idx M' : Nat} (hC : (ym M').cls = o) (hM0 : MSt M') (h1 : Cond.methodLink o idx (ym M') ∈ TBL) : Site o (.invokestatic idx) none M' := by
  intro p l e R s m args below meth c H locs kc ks cc nL Pc Qc free rm As rest g E S N hK hM hc hs hR hb hpc hrc hlen hg hsz hst hw hd hf
  obtain ⟨m1, m2, m3, m4⟩ := hM0
  exact va_runS (As := As) (rest := rest) S hM (cwS (na M') S.2.2.2.2 (good_app (mem3 h1 m2 (hC ▸ m3)) (good_ws m1)) rfl hc hs ⟨hC, m4⟩ hR) ⟨hb, hpc⟩ hg (by simpa using hlen) hsz hst hw hd hf
theorem siteS2 {o : String} {idx M' : Nat} (hM0 : MSt M') (h1 : Cond.methodLink o idx (ym M') ∈ TBL) : Site o (.invokestatic idx) none M' := by
  intro p l e R s m args below meth c H locs kc ks cc nL Pc Qc free rm As rest g E S N hK hM hc hs hR hb hpc hrc hlen hg hsz hst hw hd hf
  obtain ⟨m1, m2, m3, m4⟩ := hM0
  have ht := S.2.2.2.2
  exact va_runS (As := As) (rest := rest) S hM ⟨callB_of (na M') ht (good_ws m1) rfl hc hs (ht _ m3) (ht _ h1) m4 hR, ht _ m2⟩ ⟨hb, hpc⟩ hg (by simpa using hlen) hsz hst hw hd hf
theorem siteSN {o host : String} {idx M' : Nat} (hM0 : MSt M') (h1 : (o, idx, ym M', host) ∈ nestL) : Site o (.invokestatic idx) none M' := by
  intro p l e R s m args below meth c H locs kc ks cc nL Pc Qc free rm As rest g E S N hK hM hc hs hR hb hpc hrc hlen hg hsz hst hw hd hf
  obtain ⟨m1, m2, m3, m4⟩ := hM0
  have ht := S.2.2.2.2
  exact va_runSN (As := As) (rest := rest) S hM ⟨va_cnB (na M') ht (good_ws m1) rfl hc hs (N.1 _ h1) (ht _ m3) m4 hR, ht _ m2, trivial⟩ ⟨hb, hpc⟩ hg (by simpa using hlen) hsz hst hw hd hf
theorem siteI {o : String} {idx ci M' : Nat} (hn0 : rt M' = none) (hi0 : (ym M').name = "<init>") (hM0 : MI M') (h1 : Cond.methodLink o idx (ym M') ∈ TBL) : Site o (.invokespecial idx) (some ci) M' := by
  intro p l e R s m args below meth c H locs kc ks cc nL Pc Qc free rm As rest g E S N hK hM hc hs hR hb hpc hrc hlen hg hsz hst hw hd hf
  obtain ⟨b, As', q2, cl, rfl, hq, c1, c2, c3⟩ := hrc ci rfl
  obtain ⟨m1, m2, m3, m4⟩ := hM0
  have ht := S.2.2.2.2
  exact va_runI (As := As') (rest := rest) (maxL := ml M') (bytes := bt M') S hM (cwI (na M') ht (good_ws m1) (show WS M' = Cond.code (ym M') (bt M') (ml M') none :: TBL by unfold WS; rw [hn0]) hc hs (ht _ m3) (ht _ h1) (ht _ m2) hi0 m4 hR) ⟨hb, hpc⟩ hg (by simpa using hlen) hsz (by rw [hst]; simp) hw hd hf
theorem siteIN {o host : String} {idx ci M' : Nat} (hn0 : rt M' = none) (hi0 : (ym M').name = "<init>") (hM0 : MI M') (h1 : (o, idx, ym M', host) ∈ nestL) : Site o (.invokespecial idx) (some ci) M' := by
  intro p l e R s m args below meth c H locs kc ks cc nL Pc Qc free rm As rest g E S N hK hM hc hs hR hb hpc hrc hlen hg hsz hst hw hd hf
  obtain ⟨b, As', q2, cl, rfl, hq, c1, c2, c3⟩ := hrc ci rfl
  obtain ⟨m1, m2, m3, m4⟩ := hM0
  have ht := S.2.2.2.2
  exact va_runIN (As := As') (rest := rest) (maxL := ml M') (bytes := bt M') S hM ⟨va_cnB (na M') ht (good_ws m1) (show WS M' = Cond.code (ym M') (bt M') (ml M') none :: TBL by unfold WS; rw [hn0]) hc hs (N.1 _ h1) (ht _ m3) m4 hR, hi0, ht _ m2⟩ ⟨hb, hpc⟩ hg (by simpa using hlen) hsz (by rw [hst]; simp) hw hd hf
theorem siteU {o owner : String} {idx ci M' : Nat} (x : MethodName) (q : vw_C) (hq0 : classes[ci]? = some q) (hyx : ym M' = ⟨owner, x.name, x.desc⟩) (hM0 : MI M') (h1 : Cond.methodLink o idx x ∈ TBL) (h2 : Cond.sameMethod x.cls owner x.name x.desc ∈ TBL) (h3 : Cond.selects q.1 x (ym M') ∈ TBL) : Site o (.invokevirtual idx) (some ci) M' := by
  intro p l e R s m args below meth c H locs kc ks cc nL Pc Qc free rm As rest g E S N hK hM hc hs hR hb hpc hrc hlen hg hsz hst hw hd hf
  obtain ⟨b, As', q2, cl, rfl, hq, c1, c2, c3⟩ := hrc ci rfl
  cases hq0.symm.trans hq
  obtain ⟨m1, m2, m3, m4⟩ := hM0
  have m5 := m4
  unfold DOK at m5
  rw [hyx] at m5
  exact va_runU (As := As') (rest := rest) (C := q.1) (owner := owner) S hM (va_cwU (na M') S.2.2.2.2 (good_app (mem5 h1 h2 h3 m2 m3) (good_ws m1)) rfl hc hs hyx m5 hR) ⟨hb, ⟨cl, c1, c2, c3⟩, hpc⟩ hg (by simpa using hlen) hsz (by rw [hst]; simp) hw hd hf
theorem siteO {o owner : String} {idx ci M' M0 : Nat} (x : MethodName) (q : vw_C) (hq0 : classes[ci]? = some q) (hyx : ym M0 = ⟨owner, x.name, x.desc⟩) (hna : na M0 = na M') (hM0 : MI M') (hM1 : MI M0) (h1 : Cond.methodLink o idx x ∈ TBL) (h2 : Cond.sameMethod x.cls owner x.name x.desc ∈ TBL) (h3 : Cond.selects q.1 x (ym M') ∈ TBL) : Site o (.invokevirtual idx) (some ci) M' := by
  intro p l e R s m args below meth c H locs kc ks cc nL Pc Qc free rm As rest g E S N hK hM hc hs hR hb hpc hrc hlen hg hsz hst hw hd hf
  obtain ⟨b, As', q2, cl, rfl, hq, c1, c2, c3⟩ := hrc ci rfl
  cases hq0.symm.trans hq
  obtain ⟨m1, m2, m3, m4⟩ := hM0
  obtain ⟨z1, z2, z3, z4⟩ := hM1
  unfold DOK at z4
  rw [hyx] at z1 z2 z4
  rw [hna] at z4
  exact va_runU (As := As') (rest := rest) (C := q.1) (owner := owner) S hM (va_cwO (na M') S.2.2.2.2 (good_app (mem6 h1 h2 z2 h3 m2 m3) (good_ws m1)) rfl hc hs z1 z4 hR) ⟨hb, ⟨cl, c1, c2, c3⟩, hpc⟩ hg (by simpa using hlen) hsz (by rw [hst]; simp) hw hd hf
theorem siteSU {o : String} {idx ci M' : Nat} (hno : (ym M').name ≠ "<init>") (hM0 : MI M') (h1 : Cond.methodLink o idx (ym M') ∈ TBL) (h2 : Cond.sameMethod (ym M').cls (ym M').cls (ym M').name (ym M').desc ∈ TBL) (h3 : Cond.superclass o (ym M').cls ∈ TBL) : Site o (.invokespecial idx) (some ci) M' := by
  intro p l e R s m args below meth c H locs kc ks cc nL Pc Qc free rm As rest g E S N hK hM hc hs hR hb hpc hrc hlen hg hsz hst hw hd hf
  obtain ⟨b, As', q2, cl, rfl, hq, c1, c2, c3⟩ := hrc ci rfl
  obtain ⟨m1, m2, m3, m4⟩ := hM0
  exact va_runSU (As := As') (rest := rest) ((hK.1 ci q2 hq).2) S hM (va_cwSU (na M') S.2.2.2.2 (good_app (mem5 h1 h2 h3 m2 m3) (good_ws m1)) rfl hc hs ⟨hno, m4.2.2⟩ hR) ⟨hb, ⟨cl, c1, c2, c3⟩, hpc⟩ hg (by simpa using hlen) hsz (by rw [hst]; simp) hw hd hf
