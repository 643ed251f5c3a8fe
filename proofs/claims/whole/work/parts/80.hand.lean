/-! hand, judged: the whole yard tried (by hand) -/
theorem hnB_eq {h : Hp} {b m L e mi : Nat} {s : Nat → Int32} (g : HS h b s m L e mi) : ∀ k, k ≤ m → hbO h b k = hnB s k := by
  intro k
  induction k with
  | zero => intro _; rfl
  | succ k ih =>
    intro hk
    have t := g.tr k (by omega)
    have e1 : (inC (hi h (b + 8 + k) 2) ∧ hi h (b + 8 + k) 7 = 0) ↔ (onI s k ∧ s (75 + k) = 0) := by rw [t.on, t.2.2.2.2.2.1]
    have bl : ∀ i, i < m → hi h (b + 8 + i) 4 = belowI s i := fun i hi0 => by
      obtain ⟨lo, up, _, ⟨f4, _⟩, ⟨g4, _⟩, _⟩ := (g.tr i hi0).2.2.2.2.1
      rw [f4, g4]
    unfold hbO hnB hbN
    rw [ih (by omega)]
    cases hq : hnB s k with
    | none =>
      dsimp only
      by_cases z : onI s k ∧ s (75 + k) = 0
      · rw [if_pos z, if_pos (e1.mpr z)]
      · rw [if_neg z, if_neg (fun y => z (e1.mp y))]
    | some i =>
      dsimp only
      have hik := hnB_lt _ _ _ hq
      by_cases z : onI s k ∧ s (75 + k) = 0 ∧ belowI s i < belowI s k
      · rw [if_pos z, if_pos]
        have w := e1.mpr ⟨z.1, z.2.1⟩
        exact ⟨w.1, w.2, by rw [bl i (by omega), bl k (by omega)]; exact z.2.2⟩
      · rw [if_neg z, if_neg]
        intro y
        apply z
        have w := e1.mp ⟨y.1, y.2.1⟩
        exact ⟨w.1, w.2, by rw [← bl i (by omega), ← bl k (by omega)]; exact y.2.2⟩
theorem hcF_eq {h : Hp} {b m L e mi : Nat} {s : Nat → Int32} (g : HS h b s m L e mi) : hcF h b m = hnI s m := by
  unfold hcF hnI
  rw [hnB_eq g m (Nat.le_refl _)]
  cases hq : hnB s m with
  | none => rfl
  | some i =>
    dsimp only
    have hi0 := hnB_lt _ _ _ hq
    obtain ⟨lo, up, _, ⟨f4, f5⟩, ⟨g4, g5⟩, _⟩ := (g.tr i hi0).2.2.2.2.1
    rw [f4, f5, g4, g5]
theorem HS.flpO {h : Hp} {b m L e mi : Nat} {s : Nat → Int32} {o : Option Nat} (g : HS h b s m L e mi) (ho : ∀ i, o = some i → i < m) : HS (fpO h b o) b (flp s o) m L e mi := by
  cases o with
  | none => exact g
  | some i => exact g.flip (ho i rfl)
theorem HS.hand {h : Hp} {b m L e mi : Nat} {s : Nat → Int32} (g : HS h b s m L e mi) (hb : b = 17 ∨ b = 31) (h0 : s 0 = 1) : ∀ k, mi + k ≤ 900 → HS (hcH h b m L k) b (hdS s m L k) m L e (mi + k) ∧ hdS s m L k 0 = 1 ∧ hcT h b m L k = hdT s m L k := by
  intro k
  induction k with
  | zero => intro _; exact ⟨g, h0, rfl⟩
  | succ k ih =>
    intro hk
    obtain ⟨g1, g2, g3⟩ := ih (by omega)
    have hL := g.2.1.2.1
    have e := hcF_eq g1
    have g4 := g1.flpO (o := hnI (hdS s m L k) m) (fun i hi0 => hnI_lt hi0)
    have z0 : flp (hdS s m L k) (hnI (hdS s m L k) m) 0 = 1 := by rw [flp_lo _ _ _ (by decide)]; exact g2
    have g5 := g4.minute hb z0 (by omega)
    refine ⟨?_, ?_, ?_⟩
    · unfold hcH hdS; rw [e]; exact g5
    · unfold hdS; rw [gm_lo _ _ _ _ (by decide) (by decide) (by decide) hL]; exact z0
    · unfold hcT hdT; rw [g3, e]
theorem bI_sh {p : Prop} [Decidable p] (k : Int32) : bI p <<< k = if p then 1 <<< k else 0 := by
  unfold bI; split
  · rfl
  · exact Int32.zero_shiftLeft
theorem bu_eq {h : Hp} {b m L e mi : Nat} {s : Nat → Int32} (g : HS h b s m L e mi) : ∀ k, k ≤ m → buS h b k = soB s k := by
  intro k
  induction k with
  | zero => intro _; rfl
  | succ k ih =>
    intro hk
    have t := g.tr k (by omega)
    unfold buS soB
    rw [ih (by omega), bI_sh]
    have e : buC h b k ↔ (¬ goneI s k ∧ s (75 + k) = 1) := by
      unfold buC
      rw [t.gone, t.2.2.2.2.2.1]
      rcases t.2.2.2.2.2.2 with z | z
      · rw [z]; exact ⟨fun y => absurd rfl y.1, fun y => absurd y.2 (by decide)⟩
      · rw [z]; exact ⟨fun y => ⟨y.2, rfl⟩, fun y => ⟨by decide, y.1⟩⟩
    by_cases z : ¬ goneI s k ∧ s (75 + k) = 1
    · rw [if_pos z, if_pos (e.mpr z)]
    · rw [if_neg z, if_neg (fun y => z (e.mp y))]
theorem do_eq {h : Hp} {b m L e mi : Nat} {s : Nat → Int32} (g : HS h b s m L e mi) : ∀ k, k ≤ m → doS h b k = soW s k := by
  intro k
  induction k with
  | zero => intro _; rfl
  | succ k ih =>
    intro hk
    have t := g.tr k (by omega)
    unfold doS soW
    rw [ih (by omega), bI_sh]
    have e : doC h b k ↔ (¬ goneI s k ∧ wellI s k) := by
      unfold doC
      rw [t.gone, ← t.well]; exact ⟨fun y => ⟨y.2, y.1⟩, fun y => ⟨y.2, y.1⟩⟩
    by_cases z : ¬ goneI s k ∧ wellI s k
    · rw [if_pos z, if_pos (e.mpr z)]
    · rw [if_neg z, if_neg (fun y => z (e.mp y))]
theorem eq_hand {h : Hp} {b m L e mi : Nat} {s : Nat → Int32} (g : HS h b s m L e mi) (hb : b = 17 ∨ b = 31) (h0 : s 0 = 1) {n w : Nat} (hn : mi + n ≤ 900) (hw : w ≤ 2) : hcR h b m L n w = hdR s m L n (nI w) := by
  obtain ⟨g1, g2, g3⟩ := g.hand hb h0 n hn
  unfold hcR hdR
  rcases (show w = 0 ∨ w = 1 ∨ w = 2 by omega) with rfl | rfl | rfl
  · rw [if_neg (by decide), if_pos rfl, if_neg (by decide), if_pos (by decide)]; exact bu_eq g1 m (Nat.le_refl _)
  · rw [if_neg (by decide), if_neg (by decide), if_neg (by decide), if_neg (by decide)]; exact do_eq g1 m (Nat.le_refl _)
  · rw [if_pos rfl, if_pos (by decide), g3]
/-- judged -/
theorem tlI_eq {h : Hp} {b m L e mi : Nat} {s : Nat → Int32} (g : HS h b s m L e mi) (v : Int32) : tlI h b m v = okIt s m v := by
  unfold tlI okIt
  have hm := g.2.1.1
  by_cases z : inR v m
  · obtain ⟨q, hq, rfl⟩ := inR_of z (by omega)
    rw [nI_clamp (by omega)]
    have t := g.tr q hq
    by_cases y : goneI s q
    · rw [decide_eq_true y, decide_eq_true (t.gone.mpr y)]
    · rw [decide_eq_false y, decide_eq_false (fun w => y (t.gone.mp w))]
  · rw [decide_eq_false z]; simp
theorem tlL_eq {h : Hp} {b m L e mi at0 : Nat} {s g57 : Nat → Int32} (g : HS h b s m L e mi) : ∀ n, (∀ k, k < n → hi h 2 (at0 + k) = g57 (at0 + k)) → tlL h b m at0 n = arL s g57 m at0 n := by
  intro n
  induction n with
  | zero => intro _; rfl
  | succ n ih => intro hk; unfold tlL arL; rw [ih (fun k h1 => hk k (by omega)), tlI_eq g, hk n (by omega)]
theorem jcO_eq {s : Nat → Int32} {m : Nat} {v : Int32} (hm : m ≤ 6) (h : okIt s m v = true) : jcO m v = jdO v := by
  rcases okIt_of h hm with rfl | ⟨q, hq, rfl, _⟩
  · rw [jcO_n (fun z => absurd z.1 (by decide))]; rfl
  · rw [jcO_s hq hm]; unfold jdO; rw [if_neg (nI_pos (by omega)), nI_clamp (by omega)]
theorem HS.judge {h : Hp} {b m L e mi at0 n : Nat} {s gc gr : Nat → Int32} (g : HS h b s m L e mi) (hb : b = 17 ∨ b = 31) (h0 : s 0 = 1) (hg : ∀ k, k < n → gc (at0 + k) = gr (at0 + k)) (ha : arL s gr m at0 n = true) : ∀ k, k ≤ n → mi + k ≤ 900 → HS (jcH h gc b m L at0 k) b (jdS s gr m L at0 k) m L e (mi + k) ∧ jdS s gr m L at0 k 0 = 1 := by
  intro k
  induction k with
  | zero => intro _ _; exact ⟨g, h0⟩
  | succ k ih =>
    intro hk hmk
    obtain ⟨g1, g2⟩ := ih (by omega) (by omega)
    have hL := g.2.1.2.1
    have hm := g.2.1.1
    have ok := arL_at ha k (by omega)
    have e : jcO m (gc (at0 + k)) = jdO (gr (at0 + k)) := by rw [hg k (by omega)]; exact jcO_eq hm ok
    have g4 := g1.flpO (o := jdO (gr (at0 + k))) (fun i hi0 => jdO_lt ok hm i hi0)
    have z0 : flp (jdS s gr m L at0 k) (jdO (gr (at0 + k))) 0 = 1 := by rw [flp_lo _ _ _ (by decide)]; exact g2
    have g5 := g4.minute hb z0 (by omega)
    refine ⟨?_, ?_⟩
    · unfold jcH jdS; rw [e]; exact g5
    · unfold jdS; rw [gm_lo _ _ _ _ (by decide) (by decide) (by decide) hL]; exact z0
/-- a vector whose coals are in range -/
def CO (s : Nat → Int32) (L mi sk : Nat) : Prop := (1 ≤ sk ∧ sk ≤ 30 ∧ s 3 = nI sk ∧ s 19 = nI mi ∧ mi ≤ 1000 ∧ L ≤ 8) ∧ (∃ wd : Nat, wd ≤ 9 ∧ s 4 = nI wd) ∧ ∀ c, c < L → ∃ x f r : Nat, (x ≤ 11 ∧ f ≤ 30 ∧ r ≤ 2) ∧ s (21 + c) = nI x ∧ s (29 + c) = nI f ∧ s (37 + c) = nI r
def selfY (s : Nat → Int32) : Nat → Int32 := fun k => if k = 1 then s 3 else if k = 2 then s 4 else s 19
theorem CO.self {s : Nat → Int32} {L mi sk : Nat} (h : CO s L mi sk) : CW (selfY s) (fun c => s (21 + c)) (fun c => s (29 + c)) (fun c => s (37 + c)) s L mi sk := by
  obtain ⟨⟨a1, a2, a3, a4, a5, a6⟩, _, hc⟩ := h
  refine ⟨⟨a1, a2, a3, a3, rfl, a4, a4, a5, a6⟩, fun c hc0 => ?_⟩
  obtain ⟨x, f, r, hr, h1, h2, h3⟩ := hc c hc0
  exact ⟨x, f, r, hr, ⟨h1, h1⟩, ⟨h2, h2⟩, ⟨h3, h3⟩⟩
theorem CW.co {y cc cf cr s : Nat → Int32} {L mi sk : Nat} (h : CW y cc cf cr s L mi sk) (hw : ∃ wd : Nat, wd ≤ 9 ∧ s 4 = nI wd) : CO s L mi sk := by
  obtain ⟨⟨a1, a2, a3, a4, a5, a6, a7, a8, a9⟩, hc⟩ := h
  refine ⟨⟨a1, a2, a4, a7, a8, a9⟩, hw, fun c hc0 => ?_⟩
  obtain ⟨x, f, r, hr, ⟨_, h1⟩, ⟨_, h2⟩, ⟨_, h3⟩⟩ := hc c hc0
  exact ⟨x, f, r, hr, h1, h2, h3⟩
theorem CO.run {s : Nat → Int32} {L mi sk : Nat} (h : CO s L mi sk) (m n : Nat) (hn : mi + n ≤ 1000) : CO (gmN s m L n) L (mi + n) sk := by
  obtain ⟨k1, k2, k3, k4⟩ := coal_n m h.self n (by omega)
  refine ⟨⟨h.1.1, h.1.2.1, k2, k1, hn, h.1.2.2.2.2.2⟩, by rw [k3]; exact h.2.1, fun c hc => ?_⟩
  obtain ⟨x, f, r, ⟨x1, x2, x3⟩, h1, h2, h3⟩ := h.2.2 c hc
  obtain ⟨d1, d2, d3⟩ := k4 c hc
  exact ⟨x, f - sunkN mi sk n, r - n, ⟨x1, by omega, by omega⟩, d1.trans h1, d2 f x2 h2, d3 r x3 h3⟩
theorem CO.upd {s : Nat → Int32} {L mi sk : Nat} (h : CO s L mi sk) (j : Nat) (v : Int32) (hj : 45 ≤ j) : CO (upd s j v) L mi sk := by
  obtain ⟨⟨a1, a2, a3, a4, a5, a6⟩, hw, hc⟩ := h
  refine ⟨⟨a1, a2, by rw [upd_ne _ _ _ (by omega)]; exact a3, by rw [upd_ne _ _ _ (by omega)]; exact a4, a5, a6⟩, by rw [upd_ne _ _ _ (by omega)]; exact hw, fun c hc0 => ?_⟩
  rw [upd_ne _ _ _ (by omega), upd_ne _ _ _ (by omega), upd_ne _ _ _ (by omega)]
  exact hc c hc0
/-- a minute of a thing on the grate, told by what its cell gives -/
theorem TR.on1 {s f : Nat → Int32} {L mi sk m i q : Nat} (hC : CO s L mi sk) (hm : m ≤ 6) (hi0 : i < m) (ha : AL s m i) (t : TR q f s i mi) (hin : inC (f 2)) : TR q (roastV q (warm s (f 2) L) (windI s (f 2)) f) (gm s m L) i (mi + 1) := by
  have z := TR.step (n := 0) hC.self hC.2.1 hm hi0 (by omega) ha t
  have e : rsV (selfY s) (fun c => s (21 + c)) (fun c => s (29 + c)) (fun c => s (37 + c)) L q (nI 0) f = roastV q (warm s (f 2) L) (windI s (f 2)) f := by
    unfold rsV
    rw [if_pos hin, wmV_n m hC.self (f 2) 0 (by decide), windV_n m hC.self (f 2) 0 (by decide)]; rfl
  rw [e] at z
  exact z
theorem TR.off1 {s f : Nat → Int32} {L mi sk m i q : Nat} (hC : CO s L mi sk) (hm : m ≤ 6) (hi0 : i < m) (ha : AL s m i) (t : TR q f s i mi) (h12 : f 2 = 12) : TR q (restV 1 f) (gm s m L) i (mi + 1) := by
  have z := TR.step (n := 0) hC.self hC.2.1 hm hi0 (by omega) ha t
  have e : rsV (selfY s) (fun c => s (21 + c)) (fun c => s (29 + c)) (fun c => s (37 + c)) L q (nI 0) f = restV 1 f := by
    unfold rsV
    rw [if_neg (by rw [h12]; decide), if_neg (by rw [h12]; decide)]
  rw [e] at z
  exact z
theorem gmN_s' (s : Nat → Int32) (m L n : Nat) : gmN s m L (n + 1) = gm (gmN s m L n) m L := rfl
/-- minutes told by a row of warmths, till it is burnt -/
theorem rb_run {W s2 : Nat → Int32} {wi cell : Int32} {L mi sk m i q o : Nat} (hC : CO s2 L mi sk) (hm : m ≤ 6) (hi0 : i < m) (ha : AL s2 m i) (hin : inC cell) (hcell : s2 (45 + i) = cell) (hwi : wi = windI s2 cell) : ∀ (rem k : Nat) (f : Nat → Int32), mi + k + rem ≤ 900 → TR q (upd f 2 cell) (gmN s2 m L k) i (mi + k) → (∀ k', k ≤ k' → k' < k + rem → W (o + k') = warm (gmN s2 m L k') cell L) → (dnV q (rbN W wi q rem (o + k) f) ↔ wellI (gmN s2 m L (k + rem)) i) := by
  have hL : L ≤ 8 := hC.1.2.2.2.2.2
  intro rem
  induction rem with
  | zero => intro k f _ t _; exact t.well
  | succ rem ih =>
    intro k f hk t hW
    unfold rbN
    by_cases z : f 7 = 0
    · rw [if_pos z]
      have hCk := hC.run m k (by omega)
      have t2 := TR.on1 hCk hm hi0 (ha.gm hL hm hi0 k) t (by rw [upd_at]; exact hin)
      rw [upd_at, ← hW k (Nat.le_refl _) (by omega)] at t2
      have ew : windI (gmN s2 m L k) cell = wi := by rw [hwi]; unfold windI; rw [gmN_lo _ _ _ _ _ (by decide) (by decide) (by decide) hL]
      rw [ew] at t2
      have t3 : TR q (upd (roastV q (W (o + k)) wi f) 2 cell) (gmN s2 m L (k + 1)) i (mi + (k + 1)) := t2.cg (fun u a b c => by
        rcases (show u = 2 ∨ u = 3 ∨ u = 4 ∨ u = 5 ∨ u = 7 by omega) with rfl | rfl | rfl | rfl | rfl <;> rfl) (fun _ _ => rfl)
      have r := ih (k + 1) _ (by omega) t3 (fun k' h1 h2 => hW k' (by omega) (by omega))
      rw [show o + (k + 1) = o + k + 1 by omega, show k + 1 + rem = k + (rem + 1) by omega] at r
      exact r
    · rw [if_neg z]
      have hb : gmN s2 m L k (75 + i) = 1 := by
        rw [t.2.2.2.2.2.1]
        rcases t.2.2.2.2.2.2 with w | w
        · exact absurd w z
        · exact w
      have h2 := (burnt_n hm hL hi0 t.2.2.2.1 hb (rem + 1)).1
      rw [← gmN_add] at h2
      exact ⟨fun y => absurd y.2 z, fun y => by have := y.2; rw [h2] at this; exact absurd this (by decide)⟩
