/-! coals, now and ahead: class and reference give the same warmth (by hand) -/
theorem nI_p0 {n : Nat} (h0 : 0 < n) (h : n < 2 ^ 31) : (0 : Int32) < nI n := nI_lt (a := 0) h0 h
theorem le_ne {a b : Int32} (h : a ≤ b) (h2 : a ≠ b) : a < b := by
  have h3 := Int32.le_iff_toInt_le.mp h
  have h4 : a.toInt ≠ b.toInt := fun z => h2 (Int32.toInt_inj.mp z)
  exact Int32.lt_iff_toInt_lt.mpr (by omega)
theorem least_n {a b : Nat} (ha : a < 2 ^ 30) (hb : b < 2 ^ 30) : leastI (nI a - nI b) = nI (a - b) := by
  unfold leastI
  by_cases h : b ≤ a
  · rw [pk_sub h, if_pos (nI_pos' (by omega))]
  · rw [if_neg (Int32.not_le.mpr (pk_sneg hb (by omega))), show a - b = 0 by omega]; rfl
theorem mx0_n {a b : Nat} (ha : a < 2 ^ 30) (hb : b < 2 ^ 30) : mx0 (nI a - nI b) = nI (a - b) := by
  unfold mx0
  by_cases h : b < a
  · rw [pk_sub (by omega), if_pos (nI_p0 (by omega) (by omega))]
  · by_cases e : a = b
    · subst e; rw [pk_sub (Nat.le_refl _), Nat.sub_self, if_neg (by decide)]; rfl
    · rw [if_neg (fun z => absurd (Int32.lt_trans z (pk_sneg hb (by omega))) (by decide)), show a - b = 0 by omega]; rfl
theorem least_mx (v : Int32) : leastI v = mx0 v := by
  unfold leastI mx0
  by_cases h : 0 < v
  · rw [if_pos h, if_pos (Int32.le_of_lt h)]
  · by_cases e : v = 0
    · subst e; rfl
    · rw [if_neg h, if_neg (fun z => h (le_ne z (Ne.symm e)))]
def sunkN (mi sk n : Nat) : Nat := (mi + n) / sk - mi / sk
theorem sunkN_s (mi sk n : Nat) : sunkN mi sk (n + 1) = sunkN mi sk n + (if (mi + n + 1) % sk = 0 then 1 else 0) := by
  unfold sunkN
  have h1 : mi / sk ≤ (mi + n) / sk := Nat.div_le_div_right (by omega)
  rw [show mi + (n + 1) = (mi + n) + 1 by omega, Nat.succ_div]
  by_cases hd : sk ∣ mi + n + 1
  · rw [if_pos hd, if_pos (Nat.mod_eq_zero_of_dvd hd)]; omega
  · rw [if_neg hd, if_neg (fun z => hd (Nat.dvd_of_mod_eq_zero z))]; omega
theorem sunkN_le (mi sk n : Nat) : sunkN mi sk n ≤ n := by
  induction n with
  | zero => unfold sunkN; rw [Nat.add_zero, Nat.sub_self]; exact Nat.le_refl _
  | succ n ih => rw [sunkN_s]; split <;> omega
def CW (y cc cf cr s : Nat → Int32) (L mi sk : Nat) : Prop :=
  (1 ≤ sk ∧ sk ≤ 30 ∧ y 1 = nI sk ∧ s 3 = nI sk ∧ y 2 = s 4 ∧ y 3 = nI mi ∧ s 19 = nI mi ∧ mi ≤ 1000 ∧ L ≤ 8) ∧
  ∀ c, c < L → ∃ x f r : Nat, (x ≤ 11 ∧ f ≤ 30 ∧ r ≤ 2) ∧ (cc c = nI x ∧ s (21 + c) = nI x) ∧ (cf c = nI f ∧ s (29 + c) = nI f) ∧ (cr c = nI r ∧ s (37 + c) = nI r)
theorem CW.upd {y cc cf cr s : Nat → Int32} {L mi sk : Nat} (h : CW y cc cf cr s L mi sk) (j : Nat) (v : Int32) (hj : 45 ≤ j) : CW y cc cf cr (upd s j v) L mi sk := by
  obtain ⟨⟨a1, a2, a3, a4, a5, a6, a7, a8, a9⟩, hc⟩ := h
  refine ⟨⟨a1, a2, a3, by rw [upd_ne _ _ _ (by omega)]; exact a4, by rw [upd_ne _ _ _ (by omega)]; exact a5, a6, by rw [upd_ne _ _ _ (by omega)]; exact a7, a8, a9⟩, fun c hc0 => ?_⟩
  rw [upd_ne _ _ _ (by omega), upd_ne _ _ _ (by omega), upd_ne _ _ _ (by omega)]
  exact hc c hc0
theorem sunk_n {y cc cf cr s : Nat → Int32} {L mi sk : Nat} (h : CW y cc cf cr s L mi sk) (n : Nat) (hn : n ≤ 1000) : sunkV y (nI n) = nI (sunkN mi sk n) := by
  obtain ⟨⟨a1, a2, a3, a4, a5, a6, a7, a8, a9⟩, hc⟩ := h
  unfold sunkV sunkN
  rw [a3, a6, if_pos (nI_p0 (by omega) (by omega)), nI_add, pk_div (by omega) (by omega) (by omega), pk_div (by omega) (by omega) (by omega), pk_sub (Nat.div_le_div_right (by omega))]
/-- what one minute makes of the coals in the reference -/
theorem cL_29 (s : Nat → Int32) (b : Bool) (k c : Nat) (hc : c < k) (hk : k ≤ 8) : cL s b k (29 + c) = if b then leastI (s (29 + c) - 1) else s (29 + c) := by
  induction k with
  | zero => omega
  | succ k ih =>
    unfold cL
    by_cases e : c = k
    · subst e
      rw [upd_at, upd_ne _ _ _ (by omega), cL_out _ _ _ _ (by omega) (by omega)]
    · rw [upd_ne _ _ _ (by omega), upd_ne _ _ _ (by omega)]
      exact ih (by omega) (by omega)
theorem cL_37 (s : Nat → Int32) (b : Bool) (k c : Nat) (hc : c < k) (hk : k ≤ 8) : cL s b k (37 + c) = leastI (s (37 + c) - 1) := by
  induction k with
  | zero => omega
  | succ k ih =>
    unfold cL
    by_cases e : c = k
    · subst e
      rw [upd_ne _ _ _ (by omega), upd_at, cL_out _ _ _ _ (by omega) (by omega)]
    · rw [upd_ne _ _ _ (by omega), upd_ne _ _ _ (by omega)]
      exact ih (by omega) (by omega)
theorem gm_19 (s : Nat → Int32) (m L : Nat) (hL : L ≤ 8) : gm s m L 19 = s 19 + 1 := by
  unfold gm; rw [upd_at, cL_out _ _ _ _ (by omega) (by omega), thL_lo _ _ _ _ (by decide)]
theorem gm_29 (s : Nat → Int32) (m L c : Nat) (hL : L ≤ 8) (hc : c < L) : gm s m L (29 + c) = if snkI s then leastI (s (29 + c) - 1) else s (29 + c) := by
  unfold gm
  rw [upd_ne _ _ _ (by omega), cL_29 _ _ _ _ hc hL, thL_lo _ _ _ _ (by omega)]
  unfold snkI
  rw [thL_lo _ _ _ _ (by decide), thL_lo _ _ _ _ (by decide)]
theorem gm_37 (s : Nat → Int32) (m L c : Nat) (hL : L ≤ 8) (hc : c < L) : gm s m L (37 + c) = leastI (s (37 + c) - 1) := by
  unfold gm
  rw [upd_ne _ _ _ (by omega), cL_37 _ _ _ _ hc hL, thL_lo _ _ _ _ (by omega)]
/-- the scalars and coals n minutes on -/
theorem coal_n {y cc cf cr s : Nat → Int32} {L mi sk : Nat} (m : Nat) (h : CW y cc cf cr s L mi sk) : ∀ n, n ≤ 1000 → gmN s m L n 19 = nI (mi + n) ∧ gmN s m L n 3 = nI sk ∧ gmN s m L n 4 = s 4 ∧ ∀ c, c < L → gmN s m L n (21 + c) = s (21 + c) ∧ (∀ f : Nat, f ≤ 30 → s (29 + c) = nI f → gmN s m L n (29 + c) = nI (f - sunkN mi sk n)) ∧ (∀ r : Nat, r ≤ 2 → s (37 + c) = nI r → gmN s m L n (37 + c) = nI (r - n)) := by
  obtain ⟨⟨a1, a2, a3, a4, a5, a6, a7, a8, a9⟩, hc⟩ := h
  intro n
  induction n with
  | zero =>
    intro _
    refine ⟨a7, a4, rfl, fun c hc0 => ⟨rfl, fun f hf e => ?_, fun r hr e => e⟩⟩
    show s (29 + c) = _
    rw [e]; unfold sunkN; rw [Nat.add_zero, Nat.sub_self]; rfl
  | succ n ih =>
    intro hn
    obtain ⟨b1, b2, b3, b4⟩ := ih (by omega)
    have hs : snkI (gmN s m L n) = decide ((mi + n + 1) % sk = 0) := by
      unfold snkI
      rw [b1, b2, nI_1, pk_rem (by omega) (by omega) (by omega)]
      have hl : (mi + n + 1) % sk < sk := Nat.mod_lt _ (by omega)
      by_cases z : (mi + n + 1) % sk = 0
      · rw [z]; rfl
      · rw [decide_eq_false z, decide_eq_false (nI_ne0 (by omega) (by omega))]
    unfold gmN
    refine ⟨?_, ?_, ?_, fun c hc0 => ⟨?_, fun f hf e => ?_, fun r hr e => ?_⟩⟩
    · rw [gm_19 _ _ _ a9, b1, nI_1]; rfl
    · rw [gm_lo _ _ _ _ (by decide) (by decide) (by decide) a9]; exact b2
    · rw [gm_lo _ _ _ _ (by decide) (by decide) (by decide) a9]; exact b3
    · rw [gm_lo _ _ _ _ (by omega) (by omega) (by omega) a9]; exact (b4 c hc0).1
    · rw [gm_29 _ _ _ _ a9 hc0, (b4 c hc0).2.1 f hf e, hs, sunkN_s]
      by_cases z : (mi + n + 1) % sk = 0
      · rw [decide_eq_true z, if_pos rfl, if_pos z, show (1 : Int32) = nI 1 from rfl, least_n (by omega) (by decide), Nat.sub_sub]
      · rw [decide_eq_false z, if_neg (by decide), if_neg z]; rfl
    · rw [gm_37 _ _ _ _ a9 hc0, (b4 c hc0).2.2 r hr e, show (1 : Int32) = nI 1 from rfl, least_n (by omega) (by decide), Nat.sub_sub]
/-- the warmth of a cell n minutes on -/
theorem warm_n {y cc cf cr s : Nat → Int32} {L mi sk : Nat} (m : Nat) (h : CW y cc cf cr s L mi sk) (cell : Int32) (n : Nat) (hn : n ≤ 1000) : ∀ k, k ≤ L → wmS cc cf cr cell (nI n) (sunkV y (nI n)) k = warm (gmN s m L n) cell k := by
  intro k
  induction k with
  | zero => intro _; rfl
  | succ k ih =>
    intro hk
    unfold wmS warm
    rw [ih (by omega)]
    have hs := sunk_n h n hn
    obtain ⟨b1, b2, b3, b4⟩ := coal_n m h n hn
    obtain ⟨c1, c2, c3⟩ := b4 k (by omega)
    obtain ⟨x, f, r, ⟨x1, x2, x3⟩, ⟨y1, y2⟩, ⟨z1, z2⟩, ⟨w1, w2⟩⟩ := h.2 k (by omega)
    have sle := sunkN_le mi sk n
    have ef : fiV cf cr (nI n) (sunkV y (nI n)) k = fireN (gmN s m L n) k := by
      unfold fiV fireN
      rw [hs, w1, z1, c2 f x2 z2, c3 r x3 w2, mx0_n (by omega) (by omega)]
      by_cases z : r ≤ n
      · rw [if_pos (nI_le z (by omega)), if_pos (by rw [show r - n = 0 by omega]; decide)]
      · rw [if_neg (nI_ge (by omega) (by omega)), if_neg (nI_nle (by omega) (by omega))]
    unfold ctV ctr
    rw [ef, c1, y1, y2]
theorem wmV_n {y cc cf cr s : Nat → Int32} {L mi sk : Nat} (m : Nat) (h : CW y cc cf cr s L mi sk) (cell : Int32) (n : Nat) (hn : n ≤ 1000) : wmV y cc cf cr L cell (nI n) = warm (gmN s m L n) cell L := warm_n m h cell n hn L (Nat.le_refl _)
theorem windV_n {y cc cf cr s : Nat → Int32} {L mi sk : Nat} (m : Nat) (h : CW y cc cf cr s L mi sk) (cell : Int32) (n : Nat) (hn : n ≤ 1000) : windV y cell = windI (gmN s m L n) cell := by
  unfold windV windI
  rw [(coal_n m h n hn).2.2.1, h.1.2.2.2.2.1]
theorem warm_b {s : Nat → Int32} {L : Nat} (cell : Int32) (h : ∀ c, c < L → ∃ f : Nat, f ≤ 30 ∧ s (29 + c) = nI f) : ∀ k, k ≤ L → ∃ w : Nat, w ≤ 30 * k ∧ warm s cell k = nI w := by
  intro k
  induction k with
  | zero => intro _; exact ⟨0, Nat.le_refl _, rfl⟩
  | succ k ih =>
    intro hk
    obtain ⟨w, hw, e⟩ := ih (by omega)
    obtain ⟨f, hf, ef⟩ := h k (by omega)
    have hfi : ∃ g : Nat, g ≤ 30 ∧ fireN s k = nI g := by
      unfold fireN; split
      · exact ⟨f, hf, ef⟩
      · exact ⟨0, by omega, rfl⟩
    obtain ⟨g, hg, eg⟩ := hfi
    have hct : ∃ g : Nat, g ≤ 30 ∧ ctr s cell k = nI g := by
      unfold ctr
      split
      · exact ⟨g, hg, eg⟩
      · split
        · exact ⟨g / 2, by omega, by rw [eg, show (2 : Int32) = nI 2 from rfl, pk_div (by omega) (by decide) (by decide)]⟩
        · exact ⟨0, by omega, rfl⟩
    obtain ⟨t, ht, et⟩ := hct
    exact ⟨w + t, by omega, by unfold warm; rw [e, et, nI_add]⟩
