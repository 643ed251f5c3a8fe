/-! servable (by hand) -/
theorem has_or : ∀ k, k < 6 → ∀ d, d < 2 ^ k → ∀ t, t < 6 → (hasI (nI (d + 2 ^ k)) t ↔ (t = k ∨ hasI (nI d) t)) := by decide +kernel
theorem has_hi : ∀ k, k < 7 → ∀ d, d < 2 ^ k → ∀ t, t < 6 → k ≤ t → ¬ hasI (nI d) t := by decide +kernel
theorem has_n0 : ∀ d, d < 64 → ∀ t, t < 6 → (hasI (nI d) t ↔ ¬ ((nI d >>> (nI t &&& 31)) &&& 1 = 0)) := by decide +kernel
def rmB (d t : Nat) : Nat := if d / 2 ^ t % 2 = 1 then d - 2 ^ t else d
theorem has_tk0 : ∀ d, d < 64 → ∀ t, t < 6 → (rmB d t < 64 ∧ nI d &&& (((1 : Int32) <<< (nI t &&& 31)) ^^^ (-1 : Int32)) = nI (rmB d t) ∧ ∀ k, k < 6 → (hasI (nI (rmB d t)) k ↔ (hasI (nI d) k ∧ k ≠ t))) := by decide +kernel
theorem has_tk (d : Nat) (hd : d < 64) (t : Nat) (ht : t < 6) : ∃ d2, d2 < 64 ∧ nI d &&& (((1 : Int32) <<< (nI t &&& 31)) ^^^ (-1 : Int32)) = nI d2 ∧ ∀ k, k < 6 → (hasI (nI d2) k ↔ (hasI (nI d) k ∧ k ≠ t)) := ⟨rmB d t, has_tk0 d hd t ht⟩
theorem has_63 : ∀ t, t < 6 → hasI 63 t := by decide
theorem and_m1 : ∀ d, d < 64 → nI d &&& (-1 : Int32) = nI d := by decide +kernel
theorem pow_6 : ∀ k, k ≤ 6 → 2 ^ k ≤ 64 := by decide
/-- counts -/
def cW (s : Nat → Int32) (mi so : Int32) (f : Nat) : Nat → Nat
  | 0 => 0
  | k + 1 => cW s mi so f k + (if wnC s mi so (f + k) then 1 else 0)
def cT (s : Nat → Int32) (A : Nat → Bool) (so : Int32) : Nat → Nat
  | 0 => 0
  | k + 1 => cT s A so k + (if A k = true ∧ s (5 + k) = so then 1 else 0)
def mN (s : Nat → Int32) (A : Nat → Bool) (mi : Int32) (m e f : Nat) : Nat → Nat
  | 0 => 0
  | q + 1 => mN s A mi m e f q + min (cT s A (nI (q + 1)) m) (cW s mi (nI (q + 1)) f (e - f))
theorem cW_le (s : Nat → Int32) (mi so : Int32) (f k : Nat) : cW s mi so f k ≤ k := by
  induction k with
  | zero => exact Nat.le_refl _
  | succ k ih => unfold cW; split <;> omega
theorem cT_le (s : Nat → Int32) (A : Nat → Bool) (so : Int32) (k : Nat) : cT s A so k ≤ k := by
  induction k with
  | zero => exact Nat.le_refl _
  | succ k ih => unfold cT; split <;> omega
theorem wnN_n (s : Nat → Int32) (mi so : Int32) (f k : Nat) : wnN s mi so f k = nI (cW s mi so f k) := by
  induction k with
  | zero => rfl
  | succ k ih => unfold wnN cW; rw [ih]; split <;> (first | exact nI_1 _ | exact Int32.add_zero _)
theorem thN_n (s g : Nat → Int32) (set so : Int32) (k : Nat) : thN s g set so k = nI (cT s (fun t => decide (hasI set t ∧ ¬ g t = 0)) so k) := by
  induction k with
  | zero => rfl
  | succ k ih =>
    unfold thN cT
    rw [ih]
    by_cases z : thC s g set so k
    · rw [if_pos z, if_pos ⟨decide_eq_true ⟨z.1, z.2.1⟩, z.2.2⟩]; exact nI_1 _
    · rw [if_neg z, if_neg (fun y => z ⟨(of_decide_eq_true y.1).1, (of_decide_eq_true y.1).2, y.2⟩)]; exact Int32.add_zero _
theorem mst_n (s g : Nat → Int32) (m e f : Nat) (set mi : Int32) (hm : m ≤ 6) (he : e ≤ 4) : ∀ q, mst s g m e f set mi q = nI (mN s (fun t => decide (hasI set t ∧ ¬ g t = 0)) mi m e f q) := by
  intro q
  induction q with
  | zero => rfl
  | succ q ih =>
    unfold mst mN
    rw [ih]
    unfold mnO
    rw [thN_n, wnN_n]
    have h1 := cT_le s (fun t => decide (hasI set t ∧ ¬ g t = 0)) (nI (q + 1)) m
    have h2 := cW_le s mi (nI (q + 1)) f (e - f)
    by_cases z : cT s (fun t => decide (hasI set t ∧ ¬ g t = 0)) (nI (q + 1)) m ≤ cW s mi (nI (q + 1)) f (e - f)
    · rw [if_pos (nI_le z (by omega)), Nat.min_eq_left z, nI_add]
    · rw [if_neg (nI_ge (by omega) (by omega)), Nat.min_eq_right (by omega), nI_add]
theorem mN_le (s : Nat → Int32) (A : Nat → Bool) (mi : Int32) (m e f : Nat) (hm : m ≤ 6) : ∀ q, mN s A mi m e f q ≤ 6 * q := by
  intro q
  induction q with
  | zero => exact Nat.le_refl _
  | succ q ih =>
    unfold mN
    have := cT_le s A (nI (q + 1)) m
    have := Nat.min_le_left (cT s A (nI (q + 1)) m) (cW s mi (nI (q + 1)) f (e - f))
    omega
theorem cW_front (s : Nat → Int32) (mi so : Int32) : ∀ k f, cW s mi so f (k + 1) = (if wnC s mi so f then 1 else 0) + cW s mi so (f + 1) k := by
  intro k
  induction k with
  | zero => intro f; unfold cW cW; rw [Nat.add_zero, Nat.zero_add, Nat.add_zero]
  | succ k ih =>
    intro f
    rw [cW, ih f, cW, show f + (k + 1) = f + 1 + k by omega]; omega
theorem cW_step (s : Nat → Int32) (mi so : Int32) {f e : Nat} (hf : f < e) : cW s mi so f (e - f) = (if wnC s mi so f then 1 else 0) + cW s mi so (f + 1) (e - (f + 1)) := by
  rw [show e - f = (e - (f + 1)) + 1 by omega, cW_front]
theorem cT_cg {s : Nat → Int32} {A B : Nat → Bool} {so : Int32} : ∀ k, (∀ t, t < k → A t = B t) → cT s A so k = cT s B so k := by
  intro k
  induction k with
  | zero => intro _; rfl
  | succ k ih => intro h; unfold cT; rw [ih (fun t ht => h t (by omega)), h k (by omega)]
theorem cT_rem {s : Nat → Int32} {A B : Nat → Bool} {so : Int32} {t : Nat} (hA : A t = true) (hB : ∀ k, B k = true ↔ (A k = true ∧ k ≠ t)) : ∀ k, t < k → cT s B so k + (if s (5 + t) = so then 1 else 0) = cT s A so k := by
  intro k
  induction k with
  | zero => intro h; omega
  | succ k ih =>
    intro hk
    unfold cT
    by_cases e : t = k
    · subst e
      have h1 : cT s B so t = cT s A so t := cT_cg t (fun u hu => by
        cases hq : A u with
        | true => exact (hB u).mpr ⟨hq, by omega⟩
        | false => cases hq2 : B u with
          | false => rfl
          | true => rw [((hB u).mp hq2).1] at hq; cases hq)
      rw [h1, if_neg (fun y => absurd rfl ((hB t).mp y.1).2)]
      by_cases z : s (5 + t) = so
      · rw [if_pos z, if_pos ⟨hA, z⟩]
      · rw [if_neg z, if_neg (fun y => z y.2)]
    · have := ih (by omega)
      by_cases z : A k = true ∧ s (5 + k) = so
      · rw [if_pos z, if_pos ⟨(hB k).mpr ⟨z.1, fun w => e w.symm⟩, z.2⟩]; omega
      · rw [if_neg z, if_neg (fun y => z ⟨((hB k).mp y.1).1, y.2⟩)]; omega
theorem cT_pos {s : Nat → Int32} {A : Nat → Bool} {so : Int32} {t : Nat} (hA : A t = true) (hs : s (5 + t) = so) : ∀ k, t < k → 1 ≤ cT s A so k := by
  intro k
  induction k with
  | zero => intro h; omega
  | succ k ih =>
    intro hk
    unfold cT
    by_cases e : t = k
    · subst e; rw [if_pos ⟨hA, hs⟩]; omega
    · have := ih (by omega); omega
theorem cT_zero {s : Nat → Int32} {A : Nat → Bool} {so : Int32} : ∀ k, (∀ t, t < k → ¬ (A t = true ∧ s (5 + t) = so)) → cT s A so k = 0 := by
  intro k
  induction k with
  | zero => intro _; rfl
  | succ k ih => intro h; unfold cT; rw [ih (fun t ht => h t (by omega)), if_neg (h k (by omega))]
/-- one is given to eater f: one less to give -/
theorem mN_give {s : Nat → Int32} {A B : Nat → Bool} {mi : Int32} {m e f σ t : Nat} (hf : f < e) (hσ : 1 ≤ σ ∧ σ ≤ 5) (hw : ∀ so, wnC s mi so f ↔ so = nI σ) (ht : t < m) (hA : A t = true) (hs : s (5 + t) = nI σ) (hB : ∀ k, B k = true ↔ (A k = true ∧ k ≠ t)) : ∀ q, q ≤ 5 → mN s B mi m e (f + 1) q + (if σ ≤ q then 1 else 0) = mN s A mi m e f q := by
  intro q
  induction q with
  | zero => intro _; rw [if_neg (by omega)]; rfl
  | succ q ih =>
    intro hq
    have i := ih (by omega)
    unfold mN
    rw [cW_step s mi (nI (q + 1)) hf]
    have r := cT_rem (s := s) (so := nI (q + 1)) hA hB m ht
    by_cases z : q + 1 = σ
    · subst z
      have p := cT_pos hA hs m ht
      rw [if_pos hs] at r
      rw [if_pos ((hw _).mpr rfl), if_pos (Nat.le_refl _)]
      rw [if_neg (by omega)] at i
      omega
    · have hne : ¬ nI σ = nI (q + 1) := fun y => z ((nI_eq (by omega) (by omega)).mp y).symm
      rw [if_neg (by rw [hs]; exact hne)] at r
      rw [if_neg (fun y => hne ((hw _).mp y).symm)]
      by_cases w : σ ≤ q
      · rw [if_pos w] at i; rw [if_pos (by omega)]; omega
      · rw [if_neg w] at i; rw [if_neg (by omega)]; omega
/-- eater f gets nothing: as many as before -/
theorem mN_skip {s : Nat → Int32} {A : Nat → Bool} {mi : Int32} {m e f : Nat} (hf : f < e) (h : ∀ so, wnC s mi so f → cT s A so m = 0) : ∀ q, mN s A mi m e (f + 1) q = mN s A mi m e f q := by
  intro q
  induction q with
  | zero => rfl
  | succ q ih =>
    unfold mN
    rw [ih, cW_step s mi (nI (q + 1)) hf]
    by_cases z : wnC s mi (nI (q + 1)) f
    · rw [h _ z]; omega
    · rw [if_neg z]; omega
theorem mN_end (s : Nat → Int32) (A : Nat → Bool) (mi : Int32) (m e : Nat) : ∀ q, mN s A mi m e e q = 0 := by
  intro q
  induction q with
  | zero => rfl
  | succ q ih =>
    unfold mN
    rw [ih, Nat.sub_self]
    show 0 + min (cT s A (nI (q + 1)) m) 0 = 0
    rw [Nat.min_zero]
theorem mN_cg {s : Nat → Int32} {A B : Nat → Bool} {mi : Int32} {m e f : Nat} (h : ∀ t, t < m → A t = B t) : ∀ q, mN s A mi m e f q = mN s B mi m e f q := by
  intro q
  induction q with
  | zero => rfl
  | succ q ih => unfold mN; rw [ih, cT_cg m h]
theorem one_add (x : Nat) : (1 : Int32) + nI x = nI (x + 1) := by rw [Int32.add_comm]; exact nI_1 x
/-- the things that are done n minutes on, as bits -/
theorem daS_n {h : Hp} {b m L e mi n : Nat} {s : Nat → Int32} (g : HS h b s m L e mi) (hmi : mi ≤ 700) (hn : n ≤ 60) : ∀ k, k ≤ m → ∃ d, d < 2 ^ k ∧ daS h b L n k = nI d ∧ ∀ t, t < 6 → (hasI (nI d) t ↔ (t < k ∧ cbF (gmN s m L n) t = 1)) := by
  have hm := g.2.1.1
  have hL := g.2.1.2.1
  intro k
  induction k with
  | zero => intro _; exact ⟨0, by decide, rfl, fun t ht => ⟨fun z => absurd z (has_hi 0 (by decide) 0 (by decide) t ht (Nat.zero_le _)), fun z => absurd z.1 (Nat.not_lt_zero _)⟩⟩
  | succ k ih =>
    intro hk
    obtain ⟨d, hd, e1, e2⟩ := ih (by omega)
    obtain ⟨sk, hC⟩ := g.cw (g.is1 (by omega)) (by omega)
    have t0 := g.tr k (by omega)
    have t := TR.run hC g.wd hm (show k < m by omega) (g.2.2.2.2.2.2.1 k (by omega)) t0 n (by omega)
    have hg : goneI (gmN s m L n) k ↔ goneI s k := by unfold goneI; rw [gmN_lo _ _ _ _ _ (by omega) (by omega) (by omega) hL]
    have hp : 2 ^ (k + 1) = 2 ^ k + 2 ^ k := by rw [Nat.pow_succ]; omega
    unfold daS
    rw [e1]
    by_cases z : cbF (gmN s m L n) k = 1
    · have zz : ¬ goneI (gmN s m L n) k ∧ wellI (gmN s m L n) k := by
        unfold cbF at z
        by_cases y : ¬ goneI (gmN s m L n) k ∧ wellI (gmN s m L n) k
        · exact y
        · rw [if_neg y] at z; exact absurd z (by decide)
      rw [if_neg (fun y => zz.1 (hg.mpr (t0.gone.mp y))), bI_sh, if_pos (t.well.mpr zz.2), or_pow k (by omega) d hd]
      refine ⟨d + 2 ^ k, by omega, rfl, fun u hu => ?_⟩
      rw [has_or k (by omega) d hd u hu, e2 u hu]
      constructor
      · rintro (y | y)
        · subst y; exact ⟨by omega, z⟩
        · exact ⟨by omega, y.2⟩
      · rintro ⟨y1, y2⟩
        by_cases w : u = k
        · exact Or.inl w
        · exact Or.inr ⟨by omega, y2⟩
    · have rest : (∃ d, d < 2 ^ (k + 1) ∧ nI d = nI d ∧ ∀ t, t < 6 → (hasI (nI d) t ↔ (t < k + 1 ∧ cbF (gmN s m L n) t = 1))) → True := fun _ => trivial
      have fin : ∀ t, t < 6 → (hasI (nI d) t ↔ (t < k + 1 ∧ cbF (gmN s m L n) t = 1)) := fun u hu => by
        rw [e2 u hu]
        constructor
        · intro y; exact ⟨by omega, y.2⟩
        · rintro ⟨y1, y2⟩
          by_cases w : u = k
          · subst w; exact absurd y2 z
          · exact ⟨by omega, y2⟩
      by_cases y : hi h (b + 8 + k) 2 = 13
      · rw [if_pos y]; exact ⟨d, by omega, rfl, fin⟩
      · rw [if_neg y, bI_sh, if_neg (fun w => z (by unfold cbF; rw [if_pos ⟨fun v => y (t0.gone.mpr (hg.mp v)), t.well.mp w⟩])), Int32.or_zero]
        exact ⟨d, by omega, rfl, fin⟩
/-- both give the same thing to each eater in turn -/
theorem serve_eq {h : Hp} {b m L e mi n : Nat} {s CB : Nat → Int32} (g : HS h b s m L e mi) (hmi : mi ≤ 700) (hn : n ≤ 60) (hCB : ∀ t, t < m → CB t = cbF (gmN s m L n) t) : ∀ k, k ≤ e → ∃ d l : Nat, d < 64 ∧ l < 64 ∧ (seP h b m (nI n) (daS h b L n m) k).1 = nI d ∧ (svP s CB m e (s 19 + nI n) k).1 = nI l ∧ (∀ t, t < m → (hasI (nI d) t ↔ (hasI (nI l) t ∧ ¬ CB t = 0))) ∧
    (svP s CB m e (s 19 + nI n) k).2 = nI (mN s (fun t => decide (hasI (nI l) t ∧ ¬ CB t = 0)) (s 19 + nI n) m e k 5) ∧ mN s (fun t => decide (hasI (nI l) t ∧ ¬ CB t = 0)) (s 19 + nI n) m e k 5 + (seP h b m (nI n) (daS h b L n m) k).2 = mN s (fun t => decide (hasI 63 t ∧ ¬ CB t = 0)) (s 19 + nI n) m e 0 5 ∧
    (k < e → fiF h b k (seP h b m (nI n) (daS h b L n m) k).1 (nI n) m 0 = svF s CB m e (s 19 + nI n) (svP s CB m e (s 19 + nI n) k).1 (svP s CB m e (s 19 + nI n) k).2 k m 0) := by
  have hm := g.2.1.1
  have he := g.2.1.2.2
  have cb1 : ∀ t, t < m → (¬ CB t = 0 ↔ cbF (gmN s m L n) t = 1) := fun t ht => by
    rw [hCB t ht]; unfold cbF; split
    · exact ⟨fun _ => rfl, fun _ => by decide⟩
    · exact ⟨fun y => absurd rfl y, fun y => absurd y (by decide)⟩
  -- the equality of what eater k gets, out of the rest at k
  have first : ∀ k d l, k < e → d < 64 → l < 64 → (∀ t, t < m → (hasI (nI d) t ↔ (hasI (nI l) t ∧ ¬ CB t = 0))) → ∀ r t0, t0 + r = m → fiF h b k (nI d) (nI n) r t0 = svF s CB m e (s 19 + nI n) (nI l) (nI (mN s (fun t => decide (hasI (nI l) t ∧ ¬ CB t = 0)) (s 19 + nI n) m e k 5)) k r t0 := by
    intro k d l hk hd hl hA r
    induction r with
    | zero => intro t0 _; rfl
    | succ r ih =>
      intro t0 ht0
      unfold fiF svF
      rw [ih (t0 + 1) (by omega)]
      obtain ⟨u1, u2, u3, σ, s1, s2, s3⟩ := g.2.2.2.2.1 k hk
      have hq : s (5 + t0) = nI (kq h (b + 8 + t0)) := (g.tr t0 (by omega)).1.2.2
      have hmin : hi h b 3 = s 19 := g.1.2.2.1.trans g.1.2.2.2.1.symm
      have e1 : fiC h b k (nI d) (nI n) t0 ↔ (hasI (nI l) t0 ∧ mayG s CB (s 19 + nI n) k t0) := by
        unfold fiC wanC mayG
        rw [← has_n0 d hd t0 (by omega), hA t0 (by omega), u1, u2, u3, hmin, ← hq]
        constructor
        · rintro ⟨⟨a, b⟩, c1, c2, c3⟩; exact ⟨a, c1, c2, b, c3⟩
        · rintro ⟨a, c1, c2, b, c3⟩; exact ⟨⟨a, b⟩, c1, c2, c3⟩
      have e2 : svIs s CB m e (s 19 + nI n) (nI l) (nI (mN s (fun t => decide (hasI (nI l) t ∧ ¬ CB t = 0)) (s 19 + nI n) m e k 5)) k t0 ↔ (hasI (nI l) t0 ∧ mayG s CB (s 19 + nI n) k t0) := by
        unfold svIs
        refine ⟨fun y => ⟨y.1, y.2.1⟩, fun y => ⟨y.1, y.2, ?_⟩⟩
        obtain ⟨y1, c1, c2, c3, c4⟩ := y
        obtain ⟨l2, hl2, el2, hl3⟩ := has_tk l hl t0 (by omega)
        rw [el2, mst_n s CB m e (k + 1) (nI l2) (s 19 + nI n) hm he 5]
        have hw : ∀ so, wnC s (s 19 + nI n) so k ↔ so = nI σ := fun so => ⟨fun w => w.2.2.symm.trans s3, fun w => ⟨c1, c2, s3.trans w.symm⟩⟩
        have gv := mN_give (m := m) (A := fun t => decide (hasI (nI l) t ∧ ¬ CB t = 0)) (B := fun t => decide (hasI (nI l) t ∧ ¬ CB t = 0) && decide (t ≠ t0)) hk ⟨s1, s2⟩ hw (show t0 < m by omega) (decide_eq_true ⟨y1, c3⟩) (c4.symm.trans s3) (fun v => by rw [Bool.and_eq_true, decide_eq_true_eq (p := v ≠ t0)]) 5 (Nat.le_refl _)
        have cg : mN s (fun t => decide (hasI (nI l2) t ∧ ¬ CB t = 0)) (s 19 + nI n) m e (k + 1) 5 = mN s (fun t => decide (hasI (nI l) t ∧ ¬ CB t = 0) && decide (t ≠ t0)) (s 19 + nI n) m e (k + 1) 5 := by
          refine mN_cg (fun t ht => ?_) 5
          show decide (hasI (nI l2) t ∧ ¬ CB t = 0) = (decide (hasI (nI l) t ∧ ¬ CB t = 0) && decide (t ≠ t0))
          have w := hl3 t (by omega)
          by_cases v1 : hasI (nI l) t
          · by_cases v2 : t = t0
            · rw [decide_eq_false (p := hasI (nI l2) t ∧ ¬ CB t = 0) (fun z => (w.mp z.1).2 v2), decide_eq_false (p := t ≠ t0) (fun z => z v2), Bool.and_false]
            · rw [decide_eq_true (p := t ≠ t0) v2, Bool.and_true]
              by_cases v3 : CB t = 0
              · rw [decide_eq_false (fun z => z.2 v3), decide_eq_false (fun z => z.2 v3)]
              · rw [decide_eq_true ⟨w.mpr ⟨v1, v2⟩, v3⟩, decide_eq_true ⟨v1, v3⟩]
          · rw [decide_eq_false (p := hasI (nI l2) t ∧ ¬ CB t = 0) (fun z => v1 (w.mp z.1).1), decide_eq_false (p := hasI (nI l) t ∧ ¬ CB t = 0) (fun z => v1 z.1)]; rfl
        rw [if_pos s2] at gv
        rw [cg, ← gv]; exact one_add _
      by_cases z : hasI (nI l) t0 ∧ mayG s CB (s 19 + nI n) k t0
      · rw [if_pos (e1.mpr z), if_pos (e2.mpr z)]
      · rw [if_neg (fun y => z (e1.mp y)), if_neg (fun y => z (e2.mp y))]
  intro k
  induction k with
  | zero =>
    intro _
    obtain ⟨d, hd, e1, e2⟩ := daS_n g hmi hn m (Nat.le_refl _)
    have hd64 : d < 64 := by have := pow_6 m hm; omega
    have hA : ∀ t, t < m → (hasI (nI d) t ↔ (hasI (nI 63) t ∧ ¬ CB t = 0)) := fun t ht => by
      rw [e2 t (by omega), cb1 t ht]; exact ⟨fun y => ⟨has_63 t (by omega), y.2⟩, fun y => ⟨ht, y.2⟩⟩
    have hy : (svP s CB m e (s 19 + nI n) 0).2 = nI (mN s (fun t => decide (hasI (nI 63) t ∧ ¬ CB t = 0)) (s 19 + nI n) m e 0 5) := mst_n s CB m e 0 63 (s 19 + nI n) hm he 5
    refine ⟨d, 63, hd64, by decide, e1, rfl, hA, hy, rfl, fun hk => ?_⟩
    rw [hy]
    show fiF h b 0 (daS h b L n m) (nI n) m 0 = _
    rw [e1]
    exact first 0 d 63 hk hd64 (by decide) hA m 0 (Nat.zero_add _)
  | succ k ih =>
    intro hk
    obtain ⟨d, l, hd, hl, e1, e2, hA, e3, e4, e5⟩ := ih (by omega)
    have e5 := e5 (by omega)
    obtain ⟨u1, u2, u3, σ, s1, s2, s3⟩ := g.2.2.2.2.1 k (by omega)
    -- what is left behind eater k
    have next : ∃ d2 l2 : Nat, d2 < 64 ∧ l2 < 64 ∧ (seP h b m (nI n) (daS h b L n m) (k + 1)).1 = nI d2 ∧ (svP s CB m e (s 19 + nI n) (k + 1)).1 = nI l2 ∧ (∀ t, t < m → (hasI (nI d2) t ↔ (hasI (nI l2) t ∧ ¬ CB t = 0))) ∧ (svP s CB m e (s 19 + nI n) (k + 1)).2 = nI (mN s (fun t => decide (hasI (nI l2) t ∧ ¬ CB t = 0)) (s 19 + nI n) m e (k + 1) 5) ∧ mN s (fun t => decide (hasI (nI l2) t ∧ ¬ CB t = 0)) (s 19 + nI n) m e (k + 1) 5 + (seP h b m (nI n) (daS h b L n m) (k + 1)).2 = mN s (fun t => decide (hasI 63 t ∧ ¬ CB t = 0)) (s 19 + nI n) m e 0 5 := by
      unfold seP svP
      rw [← e5]
      rcases fiF_rg h b k (seP h b m (nI n) (daS h b L n m) k).1 (nI n) m 0 with z | ⟨t, _, ht, z⟩
      · -- nobody
        rw [z, if_pos rfl, if_pos rfl, if_pos rfl]
        have sk : mN s (fun t => decide (hasI (nI l) t ∧ ¬ CB t = 0)) (s 19 + nI n) m e (k + 1) 5 = mN s (fun t => decide (hasI (nI l) t ∧ ¬ CB t = 0)) (s 19 + nI n) m e k 5 := by
          refine mN_skip (by omega) (fun so hw => cT_zero m (fun t ht y => ?_)) 5
          have y1 := of_decide_eq_true y.1
          have hq : s (5 + t) = nI (kq h (b + 8 + t)) := (g.tr t ht).1.2.2
          have hmin : hi h b 3 = s 19 := g.1.2.2.1.trans g.1.2.2.2.1.symm
          have hc : fiC h b k (nI d) (nI n) t := by
            refine ⟨(has_n0 d hd t (by omega)).mp ((hA t ht).mpr y1), ?_, ?_, ?_⟩
            · rw [u3]; exact hw.1
            · rw [u2, hmin]; exact hw.2.1
            · rw [u1, ← hq, y.2]; exact hw.2.2
          rw [e1] at z
          have aux : ∀ r t0, t0 ≤ t → t < t0 + r → ¬ fiF h b k (nI d) (nI n) r t0 = -1000000 := by
            intro r
            induction r with
            | zero => intro t0 a1 a2; omega
            | succ r ihr =>
              intro t0 a1 a2 a3
              unfold fiF at a3
              by_cases v : fiC h b k (nI d) (nI n) t0
              · rw [if_pos v] at a3
                by_cases big : t0 < 2 ^ 31
                · exact nI_none big a3
                · omega
              · rw [if_neg v] at a3
                by_cases w : t0 = t
                · subst w; exact v hc
                · exact ihr (t0 + 1) (by omega) (by omega) a3
          exact aux m 0 (Nat.zero_le _) (by omega) z
        refine ⟨d, l, hd, hl, e1, ?_, hA, ?_, ?_⟩
        · show (svP s CB m e (s 19 + nI n) k).1 &&& (-1 : Int32) = nI l
          rw [e2]; exact and_m1 l hl
        · show (svP s CB m e (s 19 + nI n) k).2 - 0 = _
          rw [e3, sk]; exact Int32.sub_zero _
        · rw [sk]; exact e4
      · -- thing t
        have hne : ¬ nI t = (-1000000 : Int32) := nI_none (by omega)
        have htm : t < m := by omega
        rw [z, if_neg hne, if_neg hne, if_neg hne]
        obtain ⟨d2, hd2, ed2, hd3⟩ := has_tk d hd t (by omega)
        obtain ⟨l2, hl2, el2, hl3⟩ := has_tk l hl t (by omega)
        -- t is one that may be had
        have hc : fiC h b k (nI d) (nI n) t := by
          rw [e1] at z
          have aux : ∀ r t0, fiF h b k (nI d) (nI n) r t0 = nI t → t0 + r ≤ 6 → fiC h b k (nI d) (nI n) t := by
            intro r
            induction r with
            | zero => intro t0 a1 _; exact absurd a1.symm hne
            | succ r ihr =>
              intro t0 a1 a2
              unfold fiF at a1
              by_cases v : fiC h b k (nI d) (nI n) t0
              · rw [if_pos v] at a1
                have : t0 = t := (nI_eq (by omega) (by omega)).mp a1
                subst this; exact v
              · rw [if_neg v] at a1; exact ihr (t0 + 1) a1 (by omega)
          exact aux m 0 z (by omega)
        have hin := (hA t htm).mp ((has_n0 d hd t (by omega)).mpr hc.1)
        have hq : s (5 + t) = nI (kq h (b + 8 + t)) := (g.tr t htm).1.2.2
        have hmin : hi h b 3 = s 19 := g.1.2.2.1.trans g.1.2.2.2.1.symm
        obtain ⟨w1, w2, w3⟩ := hc.2
        rw [u3] at w1; rw [u2, hmin] at w2; rw [u1, ← hq] at w3
        have hw : ∀ so, wnC s (s 19 + nI n) so k ↔ so = nI σ := fun so => ⟨fun w => w.2.2.symm.trans s3, fun w => ⟨w1, w2, s3.trans w.symm⟩⟩
        have gv := mN_give (m := m) (A := fun v => decide (hasI (nI l) v ∧ ¬ CB v = 0)) (B := fun v => decide (hasI (nI l2) v ∧ ¬ CB v = 0 ∧ v < 6) || (decide (6 ≤ v) && decide (hasI (nI l) v ∧ ¬ CB v = 0))) (show k < e by omega) ⟨s1, s2⟩ hw htm (decide_eq_true hin) (w3.symm.trans s3) (fun v => by
          by_cases v6 : v < 6
          · rw [decide_eq_false (p := 6 ≤ v) (by omega), Bool.false_and, Bool.or_false, decide_eq_true_eq, decide_eq_true_eq, hl3 v v6]
            constructor
            · rintro ⟨⟨x1, x2⟩, x3, _⟩; exact ⟨⟨x1, x3⟩, x2⟩
            · rintro ⟨⟨x1, x3⟩, x2⟩; exact ⟨⟨x1, x2⟩, x3, v6⟩
          · rw [decide_eq_true (p := 6 ≤ v) (by omega), Bool.true_and, decide_eq_false (p := hasI (nI l2) v ∧ ¬ CB v = 0 ∧ v < 6) (fun x => v6 x.2.2), Bool.false_or]
            exact ⟨fun x => ⟨x, by omega⟩, fun x => x.1⟩) 5 (Nat.le_refl _)
        have cg : mN s (fun v => decide (hasI (nI l2) v ∧ ¬ CB v = 0)) (s 19 + nI n) m e (k + 1) 5 = mN s (fun v => decide (hasI (nI l2) v ∧ ¬ CB v = 0 ∧ v < 6) || (decide (6 ≤ v) && decide (hasI (nI l) v ∧ ¬ CB v = 0))) (s 19 + nI n) m e (k + 1) 5 := by
          refine mN_cg (fun v hv => ?_) 5
          show decide (hasI (nI l2) v ∧ ¬ CB v = 0) = (decide (hasI (nI l2) v ∧ ¬ CB v = 0 ∧ v < 6) || (decide (6 ≤ v) && decide (hasI (nI l) v ∧ ¬ CB v = 0)))
          rw [decide_eq_false (p := 6 ≤ v) (by omega), Bool.false_and, Bool.or_false]
          by_cases x : hasI (nI l2) v ∧ ¬ CB v = 0
          · rw [decide_eq_true x, decide_eq_true ⟨x.1, x.2, by omega⟩]
          · rw [decide_eq_false x, decide_eq_false (fun y => x ⟨y.1, y.2.1⟩)]
        rw [if_pos s2] at gv
        refine ⟨d2, l2, hd2, hl2, ?_, ?_, fun v hv => ?_, ?_, ?_⟩
        · show (seP h b m (nI n) (daS h b L n m) k).1 &&& _ = _
          rw [e1]; exact ed2
        · show (svP s CB m e (s 19 + nI n) k).1 &&& _ = _
          rw [e2]; exact el2
        · rw [hd3 v (by omega), hl3 v (by omega), hA v hv]
          exact ⟨fun x => ⟨⟨x.1.1, x.2⟩, x.1.2⟩, fun x => ⟨⟨x.1.1, x.2⟩, x.1.2⟩⟩
        · show (svP s CB m e (s 19 + nI n) k).2 - 1 = _
          rw [e3, cg, ← gv, nI_pred]
        · show _ + ((seP h b m (nI n) (daS h b L n m) k).2 + 1) = _
          rw [cg, ← e4, ← gv]; omega
    obtain ⟨d2, l2, f1, f2, f3, f4, f5, f6, f7⟩ := next
    refine ⟨d2, l2, f1, f2, f3, f4, f5, f6, f7, fun hk2 => ?_⟩
    rw [f3, f4, f6]
    exact first (k + 1) d2 l2 hk2 f1 f2 f5 m 0 (Nat.zero_add _)
theorem eq_most {h : Hp} {b m L e mi n : Nat} {s CB : Nat → Int32} (g : HS h b s m L e mi) (hmi : mi ≤ 700) (hn : n ≤ 60) (hCB : ∀ t, t < m → CB t = cbF (gmN s m L n) t) : nI (seP h b m (nI n) (daS h b L n m) e).2 = mst s CB m e 0 63 (s 19 + nI n) 5 := by
  obtain ⟨d, l, _, _, _, _, _, _, e4, _⟩ := serve_eq g hmi hn hCB e (Nat.le_refl _)
  rw [mN_end, Nat.zero_add] at e4
  rw [e4, mst_n s CB m e 0 63 (s 19 + nI n) g.2.1.1 g.2.1.2.2 5]
theorem eq_gets {h : Hp} {b m L e mi n z : Nat} {s CB : Nat → Int32} (g : HS h b s m L e mi) (hmi : mi ≤ 700) (hn : n ≤ 60) (hCB : ∀ t, t < m → CB t = cbF (gmN s m L n) t) (hz : z < e) : fiF h b z (seP h b m (nI n) (daS h b L n m) z).1 (nI n) m 0 = svG s CB m e (s 19 + nI n) z := by
  obtain ⟨d, l, _, _, _, _, _, _, _, e5⟩ := serve_eq g hmi hn hCB z (by omega)
  exact e5 hz
