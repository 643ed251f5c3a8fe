/-! a yard that was read: the tape below n is all, what the read vector keeps (by hand) -/
section Tp
variable {T T' : Nat → Int32} {n : Nat}
theorem zB_cg (h : ∀ k, k < n → T k = T' k) : zB T n = zB T' n := by
  funext k
  unfold zB
  by_cases z : k < n
  · rw [if_pos z, if_pos z, h k z]
  · rw [if_neg z, if_neg z]
theorem zD_cg (e : zB T n = zB T' n) : zD T n = zD T' n := by
  have d : ∀ r k, zDF T n r k = zDF T' n r k := by
    intro r
    induction r with
    | zero => intro k; rfl
    | succ r ih => intro k; unfold zDF; rw [e, ih]
  funext p
  exact d _ _
theorem zV_cg (e : zB T n = zB T' n) : zV T n = zV T' n := by
  funext p
  unfold zV zVi
  rw [e, zD_cg e]
theorem pS_cg (e : zB T n = zB T' n) : pS T n = pS T' n := by
  funext c σ; unfold pS; rw [e]
theorem pN_cg (e : zB T n = zB T' n) : pN T n = pN T' n := by
  funext lo hi σ; unfold pN; rw [zD_cg e, zV_cg e]
theorem pK_cg (e : zB T n = zB T' n) : pK T n = pK T' n := by
  funext σ; unfold pK; rw [e]
theorem pC_cg (e : zB T n = zB T' n) : pC T n = pC T' n := by
  funext L σ; unfold pC; rw [pS_cg e, pN_cg e]
theorem pCs_cg (e : zB T n = zB T' n) : pCs T n = pCs T' n := by
  funext L σ s; unfold pCs; rw [pC_cg e, zV_cg e, pS_cg e, pN_cg e]
theorem pT_cg (e : zB T n = zB T' n) : pT T n = pT T' n := by
  funext m s σ
  simp only [pT, pNP, thP, pS_cg e, zD_cg e, zV_cg e]
theorem pTs_cg (e : zB T n = zB T' n) : pTs T n = pTs T' n := by
  funext m σ s; unfold pTs; rw [pT_cg e, zV_cg e, e]
theorem pE_cg (e : zB T n = zB T' n) : pE T n = pE T' n := by
  funext m σ; unfold pE; rw [pS_cg e, pN_cg e, pK_cg e]
theorem pEs_cg (e : zB T n = zB T' n) : pEs T n = pEs T' n := by
  funext m σ s; unfold pEs; rw [pE_cg e, zV_cg e, pK_cg e, e]
theorem pG_cg (e : zB T n = zB T' n) : pG T n = pG T' n := by
  funext σ; unfold pG; rw [pS_cg e, pN_cg e]
theorem pGs_cg (e : zB T n = zB T' n) : pGs T n = pGs T' n := by
  funext σ s; unfold pGs; rw [pS_cg e, pN_cg e, zV_cg e]
theorem pCl_cg (e : zB T n = zB T' n) : ∀ r X, pCl T n r X = pCl T' n r X := by
  intro r
  induction r with
  | zero => intro X; rfl
  | succ r ih => intro X; unfold pCl; rw [e, pC_cg e, pCs_cg e, ih]
theorem pTl_cg (e : zB T n = zB T' n) : ∀ r X, pTl T n r X = pTl T' n r X := by
  intro r
  induction r with
  | zero => intro X; rfl
  | succ r ih => intro X; unfold pTl; rw [e, pT_cg e, pTs_cg e, ih]
theorem pEl_cg (e : zB T n = zB T' n) : ∀ r X, pEl T n r X = pEl T' n r X := by
  intro r
  induction r with
  | zero => intro X; rfl
  | succ r ih => intro X; unfold pEl; rw [e, pE_cg e, pEs_cg e, ih]
theorem pY_cg (h : ∀ k, k < n → T k = T' k) (Z : Nat → Int32) : pY T n Z = pY T' n Z := by
  have e := zB_cg h
  unfold pY
  rw [pG_cg e, pGs_cg e, pCl_cg e, pTl_cg e, pEl_cg e]
theorem pF_cg (h : ∀ k, k < n → T k = T' k) (Z : Nat → Int32) : pF T n Z = pF T' n Z := by
  unfold pF
  rw [pY_cg h Z]
end Tp
def PV (s : Nat → Int32) (L m e : Nat) : Prop :=
  (∃ sk : Nat, s 3 = nI sk ∧ 1 ≤ sk ∧ sk ≤ 30) ∧ (∃ wd : Nat, wd ≤ 9 ∧ s 4 = nI wd) ∧ s 19 = 0 ∧
  (∀ c, c < L → ∃ x f : Nat, x ≤ 11 ∧ f ≤ 30 ∧ s (21 + c) = nI x ∧ s (29 + c) = nI f) ∧
  (∀ i, i < m → (∃ q : Nat, 1 ≤ q ∧ q ≤ 5 ∧ s (5 + i) = nI q) ∧ ∃ x : Nat, x ≤ 12 ∧ s (45 + i) = nI x) ∧
  (∀ i, i < e → ∃ k : Nat, 1 ≤ k ∧ k ≤ 5 ∧ s (11 + i) = nI k) ∧
  (∀ i, (37 ≤ i ∧ i < 45) ∨ (51 ≤ i ∧ i < 81) → s i = 0) ∧
  (∀ i k, i < m → k < m → i ≠ k → s (45 + i) = s (45 + k) → s (45 + i) = 12)
def PQ (X : PX) (L m e : Nat) : Prop := X.1.2 = 0 → (X.2 20 = nI L ∧ X.2 1 = nI m ∧ X.2 2 = nI e) ∧ (L ≤ 8 ∧ m ≤ 6 ∧ e ≤ 4) ∧ PV X.2 L m e
theorem srt_n {c : Int32} (h : ¬ srt c = -1000000) : ∃ q : Nat, 1 ≤ q ∧ q ≤ 5 ∧ srt c = nI q := by
  unfold srt at h ⊢
  split
  · exact ⟨1, by decide, by decide, rfl⟩
  · split
    · exact ⟨2, by decide, by decide, rfl⟩
    · split
      · exact ⟨3, by decide, by decide, rfl⟩
      · split
        · exact ⟨4, by decide, by decide, rfl⟩
        · split
          · exact ⟨5, by decide, by decide, rfl⟩
          · next a1 a2 a3 a4 a5 => rw [if_neg a1, if_neg a2, if_neg a3, if_neg a4, if_neg a5] at h; exact (h rfl).elim
theorem tdL_has {s : Nat → Int32} {v : Int32} : ∀ m k, k < m → s (45 + k) = v → tdL s v m = true := by
  intro m
  induction m with
  | zero => intro k hk _; omega
  | succ m ih =>
    intro k hk hv
    unfold tdL
    by_cases z : k = m
    · rw [← z, decide_eq_true hv, Bool.or_true]
    · rw [ih k (by omega) hv, Bool.true_or]
theorem pNP_p {T : Nat → Int32} {n : Nat} {p : Prop} [Decidable p] {σ : Nat × Nat} (h : (pNP T n p σ).2 = 0) : p := by
  have hG := pNP_G h
  unfold pNP at h
  rw [if_pos hG] at h
  by_cases hd : 1 ≤ zD T n σ.1 ∧ zD T n σ.1 ≤ 2
  · rw [if_pos hd] at h
    by_cases hv : p
    · exact hv
    · rw [if_neg hv] at h; exact absurd (show (2 : Nat) = 0 from h) (by decide)
  · rw [if_neg hd] at h; exact absurd (show (1 : Nat) = 0 from h) (by decide)
theorem PV.coal {s : Nat → Int32} {L m e x f : Nat} {vx vf : Int32} (g : PV s L m e) (hL : L < 8) (hx : x ≤ 11) (hf : f ≤ 30) (ex : vx = nI x) (ef : vf = nI f) (hm : m ≤ 6) (he : e ≤ 4) : PV (upd (upd (upd s (21 + L) vx) (29 + L) vf) 20 (nI (L + 1))) (L + 1) m e := by
  obtain ⟨g1, g2, g3, g4, g5, g6, g7, g8⟩ := g
  have lo : ∀ i, i ≠ 20 → i ≠ 21 + L → i ≠ 29 + L → upd (upd (upd s (21 + L) vx) (29 + L) vf) 20 (nI (L + 1)) i = s i := fun i i1 i2 i3 => by rw [upd_ne _ _ _ i1, upd_ne _ _ _ i3, upd_ne _ _ _ i2]
  refine ⟨?_, ?_, ?_, fun c hc => ?_, fun i hi0 => ?_, fun i hi0 => ?_, fun i hi0 => ?_, fun i k hi0 hk hne => ?_⟩
  · rw [lo 3 (by decide) (by omega) (by omega)]; exact g1
  · rw [lo 4 (by decide) (by omega) (by omega)]; exact g2
  · rw [lo 19 (by decide) (by omega) (by omega)]; exact g3
  · by_cases w : c = L
    · refine ⟨x, f, hx, hf, ?_, ?_⟩
      · rw [w, upd_ne _ _ _ (by omega), upd_ne _ _ _ (by omega), upd_at]; exact ex
      · rw [w, upd_ne _ _ _ (by omega), upd_at]; exact ef
    · rw [lo (21 + c) (by omega) (by omega) (by omega), lo (29 + c) (by omega) (by omega) (by omega)]; exact g4 c (by omega)
  · rw [lo (5 + i) (by omega) (by omega) (by omega), lo (45 + i) (by omega) (by omega) (by omega)]; exact g5 i hi0
  · rw [lo (11 + i) (by omega) (by omega) (by omega)]; exact g6 i hi0
  · rw [lo i (by omega) (by omega) (by omega)]; exact g7 i hi0
  · rw [lo (45 + i) (by omega) (by omega) (by omega), lo (45 + k) (by omega) (by omega) (by omega)]; exact g8 i k hi0 hk hne
theorem PV.thing {s : Nat → Int32} {L m e q x : Nat} {vq vx : Int32} (g : PV s L m e) (hm : m < 6) (hq1 : 1 ≤ q) (hq : q ≤ 5) (hx : x ≤ 12) (eq : vq = nI q) (ex : vx = nI x) (ht : ¬ tdI s m vx) (hL : L ≤ 8) (he : e ≤ 4) : PV (upd (upd (upd s (5 + m) vq) (45 + m) vx) 1 (nI (m + 1))) L (m + 1) e := by
  obtain ⟨g1, g2, g3, g4, g5, g6, g7, g8⟩ := g
  have lo : ∀ i, i ≠ 1 → i ≠ 5 + m → i ≠ 45 + m → upd (upd (upd s (5 + m) vq) (45 + m) vx) 1 (nI (m + 1)) i = s i := fun i i1 i2 i3 => by rw [upd_ne _ _ _ i1, upd_ne _ _ _ i3, upd_ne _ _ _ i2]
  have l5 : upd (upd (upd s (5 + m) vq) (45 + m) vx) 1 (nI (m + 1)) (5 + m) = vq := by rw [upd_ne _ _ _ (by omega), upd_ne _ _ _ (by omega), upd_at]
  have l45 : upd (upd (upd s (5 + m) vq) (45 + m) vx) 1 (nI (m + 1)) (45 + m) = vx := by rw [upd_ne _ _ _ (by omega), upd_at]
  have tw : ∀ k, k < m → s (45 + k) = vx → vx = 12 := fun k hk hv => Classical.byContradiction (fun z => ht ⟨tdL_has m k hk hv, z⟩)
  refine ⟨?_, ?_, ?_, fun c hc => ?_, fun i hi0 => ?_, fun i hi0 => ?_, fun i hi0 => ?_, fun i k hi0 hk hne => ?_⟩
  · rw [lo 3 (by decide) (by omega) (by omega)]; exact g1
  · rw [lo 4 (by decide) (by omega) (by omega)]; exact g2
  · rw [lo 19 (by decide) (by omega) (by omega)]; exact g3
  · rw [lo (21 + c) (by omega) (by omega) (by omega), lo (29 + c) (by omega) (by omega) (by omega)]; exact g4 c hc
  · by_cases w : i = m
    · rw [w, l5, l45]; exact ⟨⟨q, hq1, hq, eq⟩, x, hx, ex⟩
    · rw [lo (5 + i) (by omega) (by omega) (by omega), lo (45 + i) (by omega) (by omega) (by omega)]; exact g5 i (by omega)
  · rw [lo (11 + i) (by omega) (by omega) (by omega)]; exact g6 i hi0
  · rw [lo i (by omega) (by omega) (by omega)]; exact g7 i hi0
  · by_cases w : i = m
    · rw [w, l45, lo (45 + k) (by omega) (by omega) (by omega)]; exact fun z => tw k (by omega) z.symm
    · by_cases v : k = m
      · rw [v, l45, lo (45 + i) (by omega) (by omega) (by omega)]; exact fun z => z.trans (tw i (by omega) z)
      · rw [lo (45 + i) (by omega) (by omega) (by omega), lo (45 + k) (by omega) (by omega) (by omega)]; exact g8 i k (by omega) (by omega) hne
theorem PV.eater {s : Nat → Int32} {L m e q : Nat} {vq vm : Int32} (g : PV s L m e) (he : e < 4) (hq1 : 1 ≤ q) (hq : q ≤ 5) (eq : vq = nI q) (hL : L ≤ 8) (hm : m ≤ 6) : PV (upd (upd (upd (upd s (11 + e) vq) (15 + e) vm) (81 + e) (-1000000)) 2 (nI (e + 1))) L m (e + 1) := by
  obtain ⟨g1, g2, g3, g4, g5, g6, g7, g8⟩ := g
  have lo : ∀ i, i ≠ 2 → i ≠ 11 + e → i ≠ 15 + e → i ≠ 81 + e → upd (upd (upd (upd s (11 + e) vq) (15 + e) vm) (81 + e) (-1000000)) 2 (nI (e + 1)) i = s i := fun i i1 i2 i3 i4 => by rw [upd_ne _ _ _ i1, upd_ne _ _ _ i4, upd_ne _ _ _ i3, upd_ne _ _ _ i2]
  refine ⟨?_, ?_, ?_, fun c hc => ?_, fun i hi0 => ?_, fun i hi0 => ?_, fun i hi0 => ?_, fun i k hi0 hk hne => ?_⟩
  · rw [lo 3 (by decide) (by omega) (by omega) (by omega)]; exact g1
  · rw [lo 4 (by decide) (by omega) (by omega) (by omega)]; exact g2
  · rw [lo 19 (by decide) (by omega) (by omega) (by omega)]; exact g3
  · rw [lo (21 + c) (by omega) (by omega) (by omega) (by omega), lo (29 + c) (by omega) (by omega) (by omega) (by omega)]; exact g4 c hc
  · rw [lo (5 + i) (by omega) (by omega) (by omega) (by omega), lo (45 + i) (by omega) (by omega) (by omega) (by omega)]; exact g5 i hi0
  · by_cases w : i = e
    · refine ⟨q, hq1, hq, ?_⟩
      rw [w, upd_ne _ _ _ (by omega), upd_ne _ _ _ (by omega), upd_ne _ _ _ (by omega), upd_at]; exact eq
    · rw [lo (11 + i) (by omega) (by omega) (by omega) (by omega)]; exact g6 i (by omega)
  · rw [lo i (by omega) (by omega) (by omega) (by omega)]; exact g7 i hi0
  · rw [lo (45 + i) (by omega) (by omega) (by omega) (by omega), lo (45 + k) (by omega) (by omega) (by omega) (by omega)]; exact g8 i k hi0 hk hne
theorem pCl_v (T : Nat → Int32) (n : Nat) : ∀ r X L, PQ X L 0 0 → ∃ L', PQ (pCl T n r X) L' 0 0 := by
  intro r
  induction r with
  | zero => intro X L h; exact ⟨L, h⟩
  | succ r ih =>
    intro X L h
    unfold pCl
    split
    · next z =>
      obtain ⟨⟨c1, c2, c3⟩, ⟨l8, _, _⟩, pv⟩ := h z.1
      rw [c1, nI_clamp (by omega)]
      by_cases hz : (pC T n L X.1).2 = 0
      · have hL := pC_lt hz
        have hz2 := hz
        unfold pC at hz2
        have r1 := pN_rg (pS_G (pN_G (pS_G hz2)))
        have r2 := pN_rg (pS_G hz2)
        obtain ⟨x, hx, ex⟩ := nat_of (n := 11) r1.1 r1.2 (by decide)
        obtain ⟨f, hf, ef⟩ := nat_of (n := 30) (Int32.le_trans (by decide) r2.1) r2.2 (by decide)
        refine ih _ (L + 1) (fun _ => ⟨⟨pCs_20 hz, by show pCs T n L X.1 X.2 1 = _; rw [pCs_o (by decide) (by omega) (by omega)]; exact c2, by show pCs T n L X.1 X.2 2 = _; rw [pCs_o (by decide) (by omega) (by omega)]; exact c3⟩, ⟨by omega, by omega, by omega⟩, ?_⟩)
        show PV (pCs T n L X.1 X.2) (L + 1) 0 0
        unfold pCs
        rw [if_pos hz]
        exact pv.coal hL hx hf ex ef (by omega) (by omega)
      · exact ih _ L (fun y => absurd y hz)
    · exact ⟨L, h⟩
theorem pTl_v (T : Nat → Int32) (n : Nat) : ∀ r X L m, PQ X L m 0 → ∃ m', PQ (pTl T n r X) L m' 0 := by
  intro r
  induction r with
  | zero => intro X L m h; exact ⟨m, h⟩
  | succ r ih =>
    intro X L m h
    unfold pTl
    split
    · next z =>
      obtain ⟨⟨c1, c2, c3⟩, ⟨l8, m6, _⟩, pv⟩ := h z.1
      rw [c2, nI_clamp (by omega)]
      by_cases hz : (pT T n m X.2 X.1).2 = 0
      · have hL := pT_lt hz
        have hz2 := hz
        unfold pT at hz2
        have r1 := pNP_p (pS_G hz2)
        obtain ⟨x, hx, ex⟩ := nat_of (n := 12) r1.1.1 r1.1.2 (by decide)
        obtain ⟨q, hq1, hq, eq⟩ := srt_n z.2
        refine ih _ L (m + 1) (fun _ => ⟨⟨by show pTs T n m X.1 X.2 20 = _; rw [pTs_o (by decide) (by omega) (by omega)]; exact c1, pTs_1 hz, by show pTs T n m X.1 X.2 2 = _; rw [pTs_o (by decide) (by omega) (by omega)]; exact c3⟩, ⟨l8, by omega, by omega⟩, ?_⟩)
        show PV (pTs T n m X.1 X.2) L (m + 1) 0
        unfold pTs
        rw [if_pos hz]
        exact pv.thing hL hq1 hq hx eq ex r1.2 l8 (by omega)
      · exact ih _ L m (fun y => absurd y hz)
    · exact ⟨m, h⟩
theorem pEl_v (T : Nat → Int32) (n : Nat) : ∀ r X L m e, PQ X L m e → ∃ e', PQ (pEl T n r X) L m e' := by
  intro r
  induction r with
  | zero => intro X L m e h; exact ⟨e, h⟩
  | succ r ih =>
    intro X L m e h
    unfold pEl
    split
    · next z =>
      obtain ⟨⟨c1, c2, c3⟩, ⟨l8, m6, e4⟩, pv⟩ := h z.1
      rw [c3, nI_clamp (by omega)]
      by_cases hz : (pE T n e X.1).2 = 0
      · have hL := pE_lt hz
        have hz2 := hz
        unfold pE at hz2
        obtain ⟨q, hq1, hq, eq⟩ := srt_n (pK_G (pN_G (pS_G hz2))).2
        refine ih _ L m (e + 1) (fun _ => ⟨⟨by show pEs T n e X.1 X.2 20 = _; rw [pEs_o (by decide) (by omega) (by omega) (by omega)]; exact c1, by show pEs T n e X.1 X.2 1 = _; rw [pEs_o (by decide) (by omega) (by omega) (by omega)]; exact c2, pEs_2 hz⟩, ⟨l8, m6, by omega⟩, ?_⟩)
        show PV (pEs T n e X.1 X.2) L m (e + 1)
        unfold pEs
        rw [if_pos hz]
        exact pv.eater hL hq1 hq eq l8 m6
      · exact ih _ L m e (fun y => absurd y hz)
    · exact ⟨e, h⟩
theorem pY_v {T Z : Nat → Int32} {n : Nat} (hZ : ∀ i, i < 85 → Z i = 0) : ∃ L m e, PQ (pY T n Z) L m e := by
  have p0 : PQ (pG T n (0, 0), pGs T n (0, 0) Z) 0 0 0 := by
    intro z
    have z2 : (pG T n (0, 0)).2 = 0 := z
    unfold pG at z2
    have r2 := pN_rg (pS_G z2)
    have r1 := pN_rg (pS_G (pN_G (pS_G z2)))
    obtain ⟨wd, hw, ew⟩ := nat_of (n := 9) r2.1 r2.2 (by decide)
    obtain ⟨sk, hs, es⟩ := nI_of3 (a := 1) (b := 30) r1 (by decide)
    have lo : ∀ i, i < 85 → i ≠ 3 → i ≠ 4 → pGs T n (0, 0) Z i = 0 := fun i h1 h2 h3 => by unfold pGs; rw [upd_ne _ _ _ h3, upd_ne _ _ _ h2]; exact hZ i h1
    refine ⟨⟨lo 20 (by decide) (by decide) (by decide), lo 1 (by decide) (by decide) (by decide), lo 2 (by decide) (by decide) (by decide)⟩, ⟨by decide, by decide, by decide⟩, ⟨sk, ?_, hs.1, hs.2⟩, ⟨wd, hw, ?_⟩, lo 19 (by decide) (by decide) (by decide), fun c hc => by omega, fun c hc => by omega, fun c hc => by omega, fun i hi0 => lo i (by omega) (by omega) (by omega), fun i k hi0 => by omega⟩
    · show pGs T n (0, 0) Z 3 = _
      unfold pGs; rw [upd_ne _ _ _ (by decide), upd_at]; exact es
    · show pGs T n (0, 0) Z 4 = _
      unfold pGs; rw [upd_at]; exact ew
  obtain ⟨L, p1⟩ := pCl_v T n 9 _ 0 p0
  obtain ⟨m, p2⟩ := pTl_v T n 7 _ L 0 p1
  obtain ⟨e, p3⟩ := pEl_v T n 5 _ L m 0 p2
  exact ⟨L, m, e, p3⟩
theorem sd_0 {f : Nat → Int32} : ∀ k, (∀ i, i < k → ¬ f i = 13) → sdS f k = 0 := by
  intro k
  induction k with
  | zero => intro _; rfl
  | succ k ih => intro h; unfold sdS; rw [ih (fun i hi0 => h i (by omega)), b0 (h k (by omega)), Int32.add_zero]
theorem sv_0 {s : Nat → Int32} : ∀ k, (∀ i, i < k → s (81 + i) = -1000000) → servS s k = 0 := by
  intro k
  induction k with
  | zero => intro _; rfl
  | succ k ih => intro h; unfold servS; rw [ih (fun i hi0 => h i (by omega)), if_pos (h k (by omega)), Int32.add_zero]
/-- a yard that was read stands as the vector says -/
theorem SR.hs {Y h2 : Hp} {c L m e : Nat} {s s' : Nat → Int32} (g : SR Y c s L m e) (pv : PV s L m e) (h1 : ∀ x, c ≤ x → x < c + 14 → hi h2 x = hi Y x) (h3 : ∀ i, i < 6 → hr h2 (c + 8 + i) 1 = hr Y (c + 8 + i) 1) (hs0 : s' 0 = 1) (hs : ∀ i, 1 ≤ i → i < 85 → s' i = s i) : HS h2 c s' m L e 0 := by
  obtain ⟨⟨a1, a2, a3, a4, a5, a6⟩, ⟨b1, b2, b3, b4, b5, b6⟩, hc, ht, he⟩ := g
  obtain ⟨⟨sk, k1, k2, k3⟩, ⟨wd, w1, w2⟩, g3, g4, g5, g6, g7, g8⟩ := pv
  have z0 := yv_0 h2 c
  have eb := h1 c (Nat.le_refl _) (by omega)
  have kk : ∀ i, i < m → ∃ q : Nat, 1 ≤ q ∧ q ≤ 5 ∧ s (5 + i) = nI q ∧ kq h2 (c + 8 + i) = q := fun i hi0 => by
    obtain ⟨q, q1, q2, q3⟩ := (g5 i hi0).1
    refine ⟨q, q1, q2, q3, ?_⟩
    unfold kq
    rw [h3 i (by omega), (ht i hi0).1, q3, kO_n (by omega)]
    show 10 + q - 10 = q; omega
  refine ⟨⟨?_, ?_, ?_, ?_, ?_, ?_, ?_, ?_, ?_, ?_⟩, ⟨b5, b4, b6⟩, ⟨⟨sk, ?_, k3, fun _ => k2⟩, ⟨wd, w1, ?_⟩, ?_, Or.inr hs0⟩, fun k hk => ?_, fun i hi0 => ?_, fun i hi0 => ?_, fun i hi0 => ?_, ?_⟩
  · rw [z0.1, eb, hs 3 (by decide) (by decide)]; exact a1
  · rw [z0.2.1, eb, hs 4 (by decide) (by decide)]; exact a2
  · rw [z0.2.2.1, eb]; exact a3
  · rw [hs 19 (by decide) (by decide)]; exact g3
  · rw [z0.2.2.2.1, eb]; exact a4
  · rw [hs 20 (by decide) (by decide)]; exact b1
  · rw [z0.2.2.2.2.1, eb]; exact a5
  · rw [hs 1 (by decide) (by decide)]; exact b2
  · rw [z0.2.2.2.2.2, eb]; exact a6
  · rw [hs 2 (by decide) (by decide)]; exact b3
  · rw [hs 3 (by decide) (by decide)]; exact k1
  · rw [hs 4 (by decide) (by decide)]; exact w2
  · rw [hs0]; exact fun z => absurd z (by decide)
  · obtain ⟨x, f, x1, f1, x2, f2⟩ := g4 k hk
    obtain ⟨u1, u2, u3⟩ := hc k hk
    rw [h1 (c + 1) (by omega) (by omega), h1 (c + 2) (by omega) (by omega), h1 (c + 3) (by omega) (by omega), hs (21 + k) (by omega) (by omega), hs (29 + k) (by omega) (by omega), hs (37 + k) (by omega) (by omega), u1, u2, u3, g7 (37 + k) (by omega)]
    exact ⟨x, f, 0, ⟨x1, f1, by decide⟩, ⟨x2, x2⟩, ⟨f2, f2⟩, ⟨rfl, rfl⟩⟩
  · obtain ⟨u1, u2, u3, u4⟩ := he i hi0
    rw [h1 (c + 5) (by omega) (by omega), h1 (c + 6) (by omega) (by omega), h1 (c + 7) (by omega) (by omega), hs (11 + i) (by omega) (by omega), hs (15 + i) (by omega) (by omega), hs (81 + i) (by omega) (by omega)]
    exact ⟨u1, u2, u3.trans u4.symm, g6 i hi0⟩
  · obtain ⟨q, q1, q2, q3, q4⟩ := kk i hi0
    obtain ⟨x, x1, x2⟩ := (g5 i hi0).2
    obtain ⟨_, u2, u3⟩ := ht i hi0
    show TR (kq h2 (c + 8 + i)) (hi h2 (c + 8 + i)) s' i 0 ∧ s' (69 + i) = hi h2 (c + 8 + i) 6
    have zz : ∀ j, (51 ≤ j ∧ j < 81) → s' j = 0 := fun j hj => by rw [hs j (by omega) (by omega)]; exact g7 j (by omega)
    rw [q4, h1 (c + 8 + i) (by omega) (by omega), u3 6 (by decide) (by decide), zz (69 + i) (by omega)]
    have bl := TR.below0 (s := s') (i := i) (zz (69 + i) (by omega))
    refine ⟨⟨⟨q1, q2, by rw [hs (5 + i) (by omega) (by omega)]; exact q3⟩, Or.inr ⟨x, x1, u2.trans x2, by rw [hs (45 + i) (by omega) (by omega)]; exact x2⟩, ?_, Or.inl (zz _ (by omega)), ⟨0, 0, ⟨by omega, by omega⟩, ⟨u3 4 (by decide) (by decide), u3 5 (by decide) (by decide)⟩, ⟨?_, ?_⟩, fun _ => ⟨Nat.zero_le _, Nat.zero_le _⟩⟩, ?_, Or.inl (u3 7 (by decide) (by decide))⟩, rfl⟩
    · rw [zz (51 + i) (by omega), u3 3 (by decide) (by decide)]
    · rw [bl.1, zz (57 + i) (by omega)]; rfl
    · rw [bl.2, zz (63 + i) (by omega)]; rfl
    · rw [zz (75 + i) (by omega), u3 7 (by decide) (by decide)]
  · intro k hk hne hon heq
    unfold onI at hon
    rw [hs (45 + i) (by omega) (by omega)] at hon heq
    rw [hs (45 + k) (by omega) (by omega)] at heq
    rw [g8 i k hi0 hk (Ne.symm hne) heq.symm] at hon
    exact absurd hon.2 (by decide)
  · rw [sv_0 e (fun i hi0 => by rw [hs (81 + i) (by omega) (by omega)]; exact (he i hi0).2.2.2)]
    refine sd_0 m (fun i hi0 => ?_)
    show ¬ hi h2 (c + 8 + i) 2 = 13
    obtain ⟨x, x1, x2⟩ := (g5 i hi0).2
    rw [h1 (c + 8 + i) (by omega) (by omega), (ht i hi0).2.1, x2]
    intro z
    have := nI_inj (a := x) (b := 13) z (by omega) (by decide)
    omega
