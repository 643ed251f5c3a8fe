/-! a thing, a minute on: class and reference (by hand) -/
def lmN (q : Nat) : Nat := if q = 1 then 90 else if q = 2 then 120 else if q = 3 then 45 else if q = 4 then 70 else 100
theorem q5 {p : Nat → Prop} (h1 : p 1) (h2 : p 2) (h3 : p 3) (h4 : p 4) (h5 : p 5) {q : Nat} (hq1 : 1 ≤ q) (hq : q ≤ 5) : p q := by
  rcases (show q = 1 ∨ q = 2 ∨ q = 3 ∨ q = 4 ∨ q = 5 by omega) with rfl | rfl | rfl | rfl | rfl <;> assumption
theorem lmK_n {q : Nat} (hq1 : 1 ≤ q) (hq : q ≤ 5) : lmK q = nI (lmN q) ∧ limitI (nI q) = nI (lmN q) := q5 (p := fun q => lmK q = nI (lmN q) ∧ limitI (nI q) = nI (lmN q)) (by decide) (by decide) (by decide) (by decide) (by decide) hq1 hq
theorem lmN_lt (q : Nat) : lmN q ≤ 120 := by unfold lmN; (repeat' split) <;> omega
theorem thK_n {q : Nat} (hq1 : 1 ≤ q) (hq : q ≤ 5) : thK q = thickI (nI q) := q5 (p := fun q => thK q = thickI (nI q)) (by decide) (by decide) (by decide) (by decide) (by decide) hq1 hq
theorem ndK_n {q : Nat} (hq1 : 1 ≤ q) (hq : q ≤ 5) : ndK q = needI (nI q) := q5 (p := fun q => ndK q = needI (nI q)) (by decide) (by decide) (by decide) (by decide) (by decide) hq1 hq
theorem isA_dr {q : Nat} (hq1 : 1 ≤ q) (hq : q ≤ 5) : isAI (nI q) 1 ↔ drK q := q5 (p := fun q => isAI (nI q) 1 ↔ drK q) (by decide) (by decide) (by decide) (by decide) (by decide) hq1 hq
def TR (q : Nat) (f s : Nat → Int32) (i mi : Nat) : Prop :=
  (1 ≤ q ∧ q ≤ 5 ∧ s (5 + i) = nI q) ∧ ((f 2 = 13 ∧ s (45 + i) = -1000000) ∨ (∃ x : Nat, x ≤ 12 ∧ f 2 = nI x ∧ s (45 + i) = nI x)) ∧ s (51 + i) = f 3 ∧ (s (69 + i) = 0 ∨ s (69 + i) = 1) ∧
  (∃ lo up : Nat, (lo ≤ 300 * mi ∧ up ≤ 300 * mi) ∧ (f 4 = nI lo ∧ f 5 = nI up) ∧ (belowI s i = nI lo ∧ aboveI s i = nI up) ∧ (f 7 = 0 → lo ≤ lmN q ∧ up ≤ lmN q)) ∧ s (75 + i) = f 7 ∧ (f 7 = 0 ∨ f 7 = 1)
def AL (s : Nat → Int32) (m i : Nat) : Prop := ∀ k, k < m → k ≠ i → onI s i → ¬ s (45 + k) = s (45 + i)
/-- the four slots of a thing that a minute writes -/
def sl4 (i j : Nat) : Prop := j = 57 + i ∨ j = 63 + i ∨ j = 51 + i ∨ j = 75 + i
theorem gT_ne (s : Nat → Int32) (H : Int32) (t j : Nat) (hj : ¬ sl4 t j) : gT s H t j = s j := by
  unfold sl4 at hj
  unfold gT
  rw [upd_ne _ _ _ (by omega), upd_ne _ _ _ (by omega), upd_ne _ _ _ (by omega), upd_ne _ _ _ (by omega)]
theorem gT_57 (s : Nat → Int32) (H : Int32) (t : Nat) (ht : t < 6) : gT s H t (57 + t) = gOne s H t := by
  unfold gT; rw [upd_ne _ _ _ (by omega), upd_ne _ _ _ (by omega), upd_ne _ _ _ (by omega), upd_at]
theorem gT_63 (s : Nat → Int32) (H : Int32) (t : Nat) (ht : t < 6) : gT s H t (63 + t) = gOther s H t := by
  unfold gT; rw [upd_ne _ _ _ (by omega), upd_ne _ _ _ (by omega), upd_at]
theorem gT_51 (s : Nat → Int32) (H : Int32) (t : Nat) (ht : t < 6) : gT s H t (51 + t) = gCore s H t := by
  unfold gT; rw [upd_ne _ _ _ (by omega), upd_at]
theorem gT_75 (s : Nat → Int32) (H : Int32) (t : Nat) : gT s H t (75 + t) = gBurnt s H t := by
  unfold gT; rw [upd_at]
theorem gT_cg {s s' : Nat → Int32} {H : Int32} {t : Nat} (ht : t < 6) (h5 : s (5 + t) = s' (5 + t)) (h45 : s (45 + t) = s' (45 + t)) (h51 : s (51 + t) = s' (51 + t)) (h57 : s (57 + t) = s' (57 + t)) (h63 : s (63 + t) = s' (63 + t)) (h69 : s (69 + t) = s' (69 + t)) (h75 : s (75 + t) = s' (75 + t)) (j : Nat) (hj : sl4 t j) : gT s H t j = gT s' H t j := by
  have e1 : gOne s H t = gOne s' H t := by unfold gOne onI; rw [h45, h69, h57]
  have e2 : gOther s H t = gOther s' H t := by unfold gOther onI; rw [h45, h69, h63]
  have e3 : gCore s H t = gCore s' H t := by unfold gCore onI; rw [h45, h51, e1, e2, h5]
  have e4 : gBurnt s H t = gBurnt s' H t := by unfold gBurnt; rw [h5, e1, e2, h75]
  rcases hj with rfl | rfl | rfl | rfl
  · rw [gT_57 _ _ _ ht, gT_57 _ _ _ ht, e1]
  · rw [gT_63 _ _ _ ht, gT_63 _ _ _ ht, e2]
  · rw [gT_51 _ _ _ ht, gT_51 _ _ _ ht, e3]
  · rw [gT_75, gT_75, e4]
theorem thL_out (s Hf : Nat → Int32) (k j : Nat) (hj : ∀ t, t < k → ¬ sl4 t j) : thL s Hf k j = s j := by
  induction k with
  | zero => rfl
  | succ k ih =>
    unfold thL
    split
    · exact ih (fun t ht => hj t (by omega))
    · rw [gT_ne _ _ _ _ (hj k (by omega))]; exact ih (fun t ht => hj t (by omega))
theorem thL_in (s Hf : Nat → Int32) (k i : Nat) (hk : k ≤ 6) (hik : i < k) (j : Nat) (hj : sl4 i j) : thL s Hf k j = if goneI s i then s j else gT s (Hf i) i j := by
  induction k with
  | zero => omega
  | succ k ih =>
    have hg : goneI (thL s Hf k) k ↔ goneI s k := by unfold goneI; rw [thL_lo _ _ _ _ (by omega)]
    have ho : ∀ j, (∀ t, t < k → ¬ sl4 t j) → thL s Hf k j = s j := thL_out s Hf k
    unfold thL
    by_cases e : i = k
    · subst e
      by_cases z : goneI s i
      · rw [if_pos (hg.mpr z), if_pos z]; exact ho j (fun t ht y => by unfold sl4 at y hj; omega)
      · rw [if_neg (fun y => z (hg.mp y)), if_neg z]
        exact gT_cg (by omega) (ho _ (fun t ht y => by unfold sl4 at y; omega)) (ho _ (fun t ht y => by unfold sl4 at y; omega)) (ho _ (fun t ht y => by unfold sl4 at y; omega)) (ho _ (fun t ht y => by unfold sl4 at y; omega)) (ho _ (fun t ht y => by unfold sl4 at y; omega)) (ho _ (fun t ht y => by unfold sl4 at y; omega)) (ho _ (fun t ht y => by unfold sl4 at y; omega)) j hj
    · have ihh := ih (by omega) (by omega)
      by_cases z : goneI (thL s Hf k) k
      · rw [if_pos z]; exact ihh
      · rw [if_neg z, gT_ne _ _ _ _ (fun y => by unfold sl4 at y hj; omega)]; exact ihh
theorem gm_th (s : Nat → Int32) (m L i : Nat) (hm : m ≤ 6) (hL : L ≤ 8) (hi0 : i < m) (j : Nat) (hj : sl4 i j) : gm s m L j = if goneI s i then s j else gT s (htsF s m L i) i j := by
  have h2 : 51 ≤ j := by unfold sl4 at hj; omega
  unfold gm
  rw [upd_ne _ _ _ (by omega), cL_out _ _ _ _ (by omega) (by omega), thL_in _ _ _ _ hm hi0 _ hj]
theorem gm_69 (s : Nat → Int32) (m L i : Nat) (hm : m ≤ 6) (hL : L ≤ 8) (hi0 : i < 6) : gm s m L (69 + i) = s (69 + i) := by
  unfold gm
  rw [upd_ne _ _ _ (by omega), cL_out _ _ _ _ (by omega) (by omega), thL_out _ _ _ _ (fun t ht y => by unfold sl4 at y; omega)]
theorem fatL_1 {s : Nat → Int32} {m i : Nat} {w : Int32} (ha : AL s m i) (hon : onI s i) : ∀ k, k ≤ m → fatL s (s (45 + i)) w k = if i < k ∧ (0 < w ∧ isAI (s (5 + i)) 1 ∧ 10 ≤ belowI s i) then 3 else 0 := by
  intro k
  induction k with
  | zero => intro _; rw [if_neg (fun z => absurd z.1 (Nat.not_lt_zero _))]; rfl
  | succ k ih =>
    intro hk
    unfold fatL
    rw [ih (by omega)]
    by_cases e : k = i
    · subst e
      by_cases z : 0 < w ∧ isAI (s (5 + k)) 1 ∧ 10 ≤ belowI s k
      · rw [if_pos ⟨z.1, rfl, z.2.1, z.2.2⟩, if_pos ⟨by omega, z⟩]
      · rw [if_neg (fun y => z ⟨y.1, y.2.2.1, y.2.2.2⟩), if_neg (fun y => z y.2), if_neg (fun y => z y.2)]
    · rw [if_neg (fun y => ha k (by omega) e hon y.2.1)]
      by_cases z : 0 < w ∧ isAI (s (5 + i)) 1 ∧ 10 ≤ belowI s i
      · by_cases y : i < k
        · rw [if_pos ⟨y, z⟩, if_pos ⟨by omega, z⟩]
        · rw [if_neg (fun x => y x.1), if_neg (fun x => absurd x.1 (by omega))]
      · rw [if_neg (fun x => z x.2), if_neg (fun x => z x.2)]
theorem heat_1 {s f : Nat → Int32} {m L i q : Nat} (ha : AL s m i) (hon : onI s i) (hi0 : i < m) (hq1 : 1 ≤ q) (hq : q ≤ 5) (h5 : s (5 + i) = nI q) (h4 : belowI s i = f 4) : heatI s m L (s (45 + i)) = heatV q f (warm s (s (45 + i)) L) (windI s (s (45 + i))) := by
  unfold heatI heatV
  rw [fatL_1 ha hon m (Nat.le_refl _), h5, h4]
  by_cases z : 0 < warm s (s (45 + i)) L ∧ 10 ≤ f 4 ∧ drK q
  · rw [if_pos ⟨hi0, z.1, (isA_dr hq1 hq).mpr z.2.2, z.2.1⟩, if_pos z]
  · rw [if_neg (fun y => z ⟨y.2.1, y.2.2.2, (isA_dr hq1 hq).mp y.2.2.1⟩), if_neg z]
theorem on_n {s : Nat → Int32} {i x : Nat} (h : s (45 + i) = nI x) (hx : x ≤ 12) : onI s i ↔ x ≤ 11 := by
  unfold onI
  rw [h]
  constructor
  · intro z; exact (nI_leI (a := x) (b := 11) (by omega) (by decide)).mp z.2
  · intro z; exact ⟨nI_pos' (by omega), nI_le (a := x) (b := 11) z (by decide)⟩
theorem inC_n {v : Int32} {x : Nat} (h : v = nI x) (hx : x ≤ 12) : inC v ↔ x ≤ 11 := by
  unfold inC
  rw [h]
  constructor
  · intro z; exact (nI_leI (a := x) (b := 11) (by omega) (by decide)).mp z.2
  · intro z; exact ⟨nI_pos' (by omega), nI_le (a := x) (b := 11) z (by decide)⟩
theorem heat_b {s f : Nat → Int32} {L q : Nat} {cell : Int32} (hL : L ≤ 8) (hf : ∀ c, c < L → ∃ f : Nat, f ≤ 30 ∧ s (29 + c) = nI f) (hw : ∃ wd : Nat, wd ≤ 9 ∧ s 4 = nI wd) : ∃ H : Nat, H ≤ 252 ∧ heatV q f (warm s cell L) (windI s cell) = nI H := by
  obtain ⟨w, hw1, e1⟩ := warm_b cell hf L (Nat.le_refl _)
  obtain ⟨wd, hwd, e2⟩ := hw
  have e3 : ∃ z : Nat, z ≤ 9 ∧ windI s cell = nI z := by
    unfold windI; split
    · exact ⟨wd, hwd, e2⟩
    · exact ⟨0, by omega, rfl⟩
  obtain ⟨z, hz, e3⟩ := e3
  have e4 : ∃ t : Nat, t ≤ 3 ∧ (if 0 < warm s cell L ∧ 10 ≤ f 4 ∧ drK q then (3 : Int32) else 0) = nI t := by
    split
    · exact ⟨3, by omega, rfl⟩
    · exact ⟨0, by omega, rfl⟩
  obtain ⟨t, ht, e4⟩ := e4
  refine ⟨w + t + z, by omega, ?_⟩
  unfold heatV
  rw [e4, e1, e3, nI_add, nI_add]
theorem TR.below0 {s : Nat → Int32} {i : Nat} (h : s (69 + i) = 0) : belowI s i = s (57 + i) ∧ aboveI s i = s (63 + i) := by unfold belowI aboveI; rw [if_pos h, if_pos h]; exact ⟨rfl, rfl⟩
theorem TR.below1 {s : Nat → Int32} {i : Nat} (h : s (69 + i) = 1) : belowI s i = s (63 + i) ∧ aboveI s i = s (57 + i) := by unfold belowI aboveI; rw [if_neg (by rw [h]; decide), if_neg (by rw [h]; decide)]; exact ⟨rfl, rfl⟩
/-- below and above, a minute on -/
theorem gm_ba {s : Nat → Int32} {m L i : Nat} (hm : m ≤ 6) (hL : L ≤ 8) (hi0 : i < m) (hs : s (69 + i) = 0 ∨ s (69 + i) = 1) (hg : ¬ goneI s i) :
    belowI (gm s m L) i = (if onI s i then belowI s i + htsF s m L i else leastI (belowI s i - 3)) ∧ aboveI (gm s m L) i = (if onI s i then leastI (aboveI s i - 2) else leastI (aboveI s i - 3)) ∧
    gm s m L (51 + i) = (if onI s i then s (51 + i) + (belowI (gm s m L) i + aboveI (gm s m L) i) / thickI (s (5 + i)) else s (51 + i)) ∧
    gm s m L (75 + i) = (if limitI (s (5 + i)) < belowI (gm s m L) i ∨ limitI (s (5 + i)) < aboveI (gm s m L) i then 1 else s (75 + i)) := by
  have e57 : gm s m L (57 + i) = gOne s (htsF s m L i) i := by rw [gm_th s m L i hm hL hi0 _ (Or.inl rfl), if_neg hg, gT_57 _ _ _ (by omega)]
  have e63 : gm s m L (63 + i) = gOther s (htsF s m L i) i := by rw [gm_th s m L i hm hL hi0 _ (Or.inr (Or.inl rfl)), if_neg hg, gT_63 _ _ _ (by omega)]
  have e51 : gm s m L (51 + i) = gCore s (htsF s m L i) i := by rw [gm_th s m L i hm hL hi0 _ (Or.inr (Or.inr (Or.inl rfl))), if_neg hg, gT_51 _ _ _ (by omega)]
  have e75 : gm s m L (75 + i) = gBurnt s (htsF s m L i) i := by rw [gm_th s m L i hm hL hi0 _ (Or.inr (Or.inr (Or.inr rfl))), if_neg hg, gT_75]
  have e69 := gm_69 s m L i hm hL (by omega)
  rcases hs with h0 | h1
  · obtain ⟨b1, b2⟩ := TR.below0 h0
    obtain ⟨c1, c2⟩ := TR.below0 (e69.trans h0)
    rw [b1, b2, c1, c2, e57, e63, e51, e75]
    unfold gCore gBurnt
    refine ⟨?_, ?_, rfl, rfl⟩
    · unfold gOne; rw [if_pos h0]
    · unfold gOther; rw [if_pos h0]
  · obtain ⟨b1, b2⟩ := TR.below1 h1
    obtain ⟨c1, c2⟩ := TR.below1 (e69.trans h1)
    have h1' : ¬ s (69 + i) = 0 := by rw [h1]; decide
    rw [b1, b2, c1, c2, e57, e63, e51, e75]
    unfold gCore gBurnt
    refine ⟨?_, ?_, ?_, ?_⟩
    · unfold gOther; rw [if_neg h1']
    · unfold gOne; rw [if_neg h1']
    · rw [Int32.add_comm (gOther s (htsF s m L i) i)]
    · by_cases z : limitI (s (5 + i)) < gOne s (htsF s m L i) i ∨ limitI (s (5 + i)) < gOther s (htsF s m L i) i
      · rw [if_pos z, if_pos z.symm]
      · rw [if_neg z, if_neg (fun y => z y.symm)]
/-- a thing, one minute on, n minutes ahead -/
theorem TR.step {y cc cf cr s0 f : Nat → Int32} {L mi sk m i q n : Nat} (hC : CW y cc cf cr s0 L mi sk) (hw : ∃ wd : Nat, wd ≤ 9 ∧ s0 4 = nI wd) (hm : m ≤ 6) (hi0 : i < m) (hn : n ≤ 900) (ha : AL (gmN s0 m L n) m i) (h : TR q f (gmN s0 m L n) i (mi + n)) : TR q (rsV y cc cf cr L q (nI n) f) (gmN s0 m L (n + 1)) i (mi + (n + 1)) := by
  have hL : L ≤ 8 := hC.1.2.2.2.2.2.2.2.2
  have hmi : mi ≤ 1000 := hC.1.2.2.2.2.2.2.2.1
  obtain ⟨k1, k2, k3, k4⟩ := coal_n m hC n (by omega)
  have hwm := wmV_n m hC (f 2) n (by omega)
  have hwd := windV_n m hC (f 2) n (by omega)
  have hfire : ∀ c, c < L → ∃ f : Nat, f ≤ 30 ∧ gmN s0 m L n (29 + c) = nI f := fun c hc => by
    obtain ⟨x, f, r, ⟨x1, x2, x3⟩, _, ⟨z1, z2⟩, _⟩ := hC.2 c hc
    exact ⟨f - sunkN mi sk n, by omega, (k4 c hc).2.1 f x2 z2⟩
  have hw4 : ∃ wd : Nat, wd ≤ 9 ∧ gmN s0 m L n 4 = nI wd := by rw [k3]; exact hw
  show TR q _ (gm (gmN s0 m L n) m L) i _
  generalize gmN s0 m L n = s at *
  obtain ⟨⟨q1, q2, q3⟩, hp, hco, hsd, ⟨lo, up, ⟨b1, b2⟩, ⟨f4, f5⟩, ⟨g4, g5⟩, hbu⟩, h7, h7b⟩ := h
  obtain ⟨l1, l2⟩ := lmK_n q1 q2
  have l3 := lmN_lt q
  have e69 := gm_69 s m L i hm hL (by omega)
  have e45 : gm s m L (45 + i) = s (45 + i) := gm_lo _ _ _ _ (by omega) (by omega) (by omega) hL
  have e5 : gm s m L (5 + i) = s (5 + i) := gm_lo _ _ _ _ (by omega) (by omega) (by omega) hL
  rcases hp with ⟨p1, p2⟩ | ⟨x, hx, p1, p2⟩
  · -- served
    have hg : goneI s i := p2
    have e57 : gm s m L (57 + i) = s (57 + i) := by rw [gm_th s m L i hm hL hi0 _ (Or.inl rfl), if_pos hg]
    have e63 : gm s m L (63 + i) = s (63 + i) := by rw [gm_th s m L i hm hL hi0 _ (Or.inr (Or.inl rfl)), if_pos hg]
    have e51 : gm s m L (51 + i) = s (51 + i) := by rw [gm_th s m L i hm hL hi0 _ (Or.inr (Or.inr (Or.inl rfl))), if_pos hg]
    have e75 : gm s m L (75 + i) = s (75 + i) := by rw [gm_th s m L i hm hL hi0 _ (Or.inr (Or.inr (Or.inr rfl))), if_pos hg]
    have er : rsV y cc cf cr L q (nI n) f = f := by unfold rsV; rw [if_neg (by rw [p1]; decide), if_pos p1]
    have eb : belowI (gm s m L) i = belowI s i := by unfold belowI; rw [e69, e57, e63]
    have ea : aboveI (gm s m L) i = aboveI s i := by unfold aboveI; rw [e69, e57, e63]
    rw [er]
    exact ⟨⟨q1, q2, e5.trans q3⟩, Or.inl ⟨p1, e45.trans p2⟩, e51.trans hco, by rw [e69]; exact hsd, ⟨lo, up, ⟨by omega, by omega⟩, ⟨f4, f5⟩, ⟨eb.trans g4, ea.trans g5⟩, hbu⟩, e75.trans h7, h7b⟩
  · have hg : ¬ goneI s i := fun z => nI_none (k := x) (by omega) (p2.symm.trans z)
    obtain ⟨j1, j2, j3, j4⟩ := gm_ba hm hL hi0 hsd hg
    by_cases hx1 : x ≤ 11
    · -- on the grate
      have hon : onI s i := (on_n p2 hx).mpr hx1
      rw [if_pos hon] at j1 j2 j3
      have hH : htsF s m L i = heatV q f (warm s (f 2) L) (windI s (f 2)) := by
        unfold htsF; rw [if_pos hon, heat_1 ha hon hi0 q1 q2 q3 (g4.trans f4.symm), p2, p1]
      obtain ⟨H, hH1, hH2⟩ := heat_b (s := s) (f := f) (L := L) (q := q) (cell := f 2) hL hfire hw4
      rw [hH, hH2, g4, nI_add] at j1
      rw [g5, show (2 : Int32) = nI 2 from rfl, least_n (by omega) (by decide)] at j2
      rw [j1, j2, q3] at j3
      rw [j1, j2, q3, l2] at j4
      have er : rsV y cc cf cr L q (nI n) f = roastV q (warm s (f 2) L) (windI s (f 2)) f := by
        unfold rsV; rw [if_pos ((inC_n p1 hx).mpr hx1), hwm, hwd]
      rw [er]
      have f4' : roastV q (warm s (f 2) L) (windI s (f 2)) f 4 = nI (lo + H) := by
        show f 4 + heatV q f (warm s (f 2) L) (windI s (f 2)) = _
        rw [hH2, f4, nI_add]
      have f5' : roastV q (warm s (f 2) L) (windI s (f 2)) f 5 = nI (up - 2) := by
        rw [ro_5]; unfold fmU; rw [f5, show (2 : Int32) = nI 2 from rfl, mx0_n (by omega) (by decide)]
      have f3' : roastV q (warm s (f 2) L) (windI s (f 2)) f 3 = f 3 + (nI (lo + H) + nI (up - 2)) / thickI (nI q) := by
        rw [← thK_n q1 q2, ← f4', ← f5']; rfl
      have f7' : roastV q (warm s (f 2) L) (windI s (f 2)) f 7 = if ¬ f 7 = 0 ∨ lmN q < lo + H ∨ lmN q < up - 2 then 1 else 0 := by
        rw [ro_7]
        have z1 : fmB q (warm s (f 2) L) (windI s (f 2)) (f 4) (f 5) ↔ (lmN q < lo + H ∨ lmN q < up - 2) := by
          unfold fmB
          rw [← ro_4, ← ro_5, f4', f5', l1, nI_ltI (by omega) (by omega), nI_ltI (by omega) (by omega)]
        by_cases z : ¬ f 7 = 0 ∨ lmN q < lo + H ∨ lmN q < up - 2
        · rw [if_pos z, if_pos (z.imp id z1.mpr)]
        · rw [if_neg z, if_neg (fun w => z (w.imp id z1.mp))]
      have j4' : gm s m L (75 + i) = roastV q (warm s (f 2) L) (windI s (f 2)) f 7 := by
        rw [j4, f7', h7]
        by_cases z : lmN q < lo + H ∨ lmN q < up - 2
        · rw [if_pos (z.imp (fun w => nI_lt w (by omega)) (fun w => nI_lt w (by omega))), if_pos (Or.inr z)]
        · rw [if_neg (fun w => z (w.imp (nI_ltI (by omega) (by omega)).mp (nI_ltI (by omega) (by omega)).mp))]
          rcases h7b with e | e
          · rw [e, if_neg (fun w => w.elim (fun u => u rfl) z)]
          · rw [e, if_pos (Or.inl (by decide))]
      refine ⟨⟨q1, q2, e5.trans q3⟩, Or.inr ⟨x, hx, p1, e45.trans p2⟩, ?_, by rw [e69]; exact hsd, ⟨lo + H, up - 2, ⟨by omega, by omega⟩, ⟨f4', f5'⟩, ⟨j1, j2⟩, fun z => ?_⟩, j4', ?_⟩
      · rw [j3, f3', hco]
      · rw [f7'] at z
        by_cases w : ¬ f 7 = 0 ∨ lmN q < lo + H ∨ lmN q < up - 2
        · rw [if_pos w] at z; exact absurd z (by decide)
        · exact ⟨Nat.le_of_not_lt (fun u => w (Or.inr (Or.inl u))), Nat.le_of_not_lt (fun u => w (Or.inr (Or.inr u)))⟩
      · rw [f7']; split
        · exact Or.inr rfl
        · exact Or.inl rfl
    · -- aside
      have hon : ¬ onI s i := fun z => hx1 ((on_n p2 hx).mp z)
      rw [if_neg hon] at j1 j2 j3
      rw [g4, show (3 : Int32) = nI 3 from rfl, least_n (by omega) (by decide)] at j1
      rw [g5, show (3 : Int32) = nI 3 from rfl, least_n (by omega) (by decide)] at j2
      have er : rsV y cc cf cr L q (nI n) f = restV 1 f := by
        unfold rsV; rw [if_neg (fun z => hx1 ((inC_n p1 hx).mp z)), if_neg (fun z => by rw [p1] at z; have := (nI_eq (a := x) (b := 13) (by omega) (by decide)).mp z; omega)]
      have f4' : restV 1 f 4 = nI (lo - 3) := by
        show mx0 (f 4 - 3 * 1) = _
        rw [f4, show (3 : Int32) * 1 = nI 3 from by decide, mx0_n (by omega) (by decide)]
      have f5' : restV 1 f 5 = nI (up - 3) := by
        show mx0 (f 5 - 3 * 1) = _
        rw [f5, show (3 : Int32) * 1 = nI 3 from by decide, mx0_n (by omega) (by decide)]
      rw [j1, j2, q3, l2] at j4
      rw [er]
      refine ⟨⟨q1, q2, e5.trans q3⟩, Or.inr ⟨x, hx, p1, e45.trans p2⟩, j3.trans hco, by rw [e69]; exact hsd, ⟨lo - 3, up - 3, ⟨by omega, by omega⟩, ⟨f4', f5'⟩, ⟨j1, j2⟩, fun z => ?_⟩, ?_, h7b⟩
      · obtain ⟨z1, z2⟩ := hbu z; omega
      · show gm s m L (75 + i) = f 7
        rw [j4, h7]
        rcases h7b with e | e
        · obtain ⟨z1, z2⟩ := hbu e
          rw [if_neg (fun w => w.elim (fun u => by have := (nI_ltI (by omega) (by omega)).mp u; omega) (fun u => by have := (nI_ltI (by omega) (by omega)).mp u; omega))]
        · rw [e]; split <;> rfl
theorem AL.gm {s : Nat → Int32} {m L i : Nat} (hL : L ≤ 8) (hm : m ≤ 6) (hi0 : i < m) (h : AL s m i) (n : Nat) : AL (gmN s m L n) m i := by
  intro k hk hki hon
  have e : ∀ t, t < 6 → gmN s m L n (45 + t) = s (45 + t) := fun t ht => gmN_lo _ _ _ _ _ (by omega) (by omega) (by omega) hL
  rw [e k (by omega), e i (by omega)]
  unfold onI at hon
  rw [e i (by omega)] at hon
  exact h k hk hki hon
/-- a thing n minutes ahead -/
theorem TR.run {y cc cf cr s0 f : Nat → Int32} {L mi sk m i q : Nat} (hC : CW y cc cf cr s0 L mi sk) (hw : ∃ wd : Nat, wd ≤ 9 ∧ s0 4 = nI wd) (hm : m ≤ 6) (hi0 : i < m) (ha : AL s0 m i) (h : TR q f s0 i mi) : ∀ n, n ≤ 900 → TR q (trN y cc cf cr L q f n) (gmN s0 m L n) i (mi + n) := by
  intro n
  induction n with
  | zero => intro _; exact h
  | succ n ih => intro hn; exact TR.step hC hw hm hi0 (by omega) (ha.gm hC.1.2.2.2.2.2.2.2.2 hm hi0 n) (ih (by omega))
