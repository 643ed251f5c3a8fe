/-! start, fuelFor, fuel (by hand) -/
theorem gm_out (s : Nat → Int32) (m L i : Nat) (h1 : i < 51) (h2 : i ≠ 19) (h3 : ¬ (29 ≤ i ∧ i < 29 + L)) (h4 : ¬ (37 ≤ i ∧ i < 37 + L)) : gm s m L i = s i := by
  unfold gm; rw [upd_ne _ _ _ h2, cL_out _ _ _ _ h4 h3, thL_lo _ _ _ _ h1]
theorem gm_ce {s s' : Nat → Int32} {m L : Nat} (hL : L ≤ 8) (h : ∀ i, i < 45 → s i = s' i) : ∀ i, i < 45 → gm s m L i = gm s' m L i := by
  intro i hi0
  by_cases h1 : i = 19
  · subst h1; rw [gm_19 _ _ _ hL, gm_19 _ _ _ hL, h 19 (by decide)]
  by_cases h2 : 29 ≤ i ∧ i < 29 + L
  · obtain ⟨c, rfl⟩ : ∃ c, i = 29 + c := ⟨i - 29, by omega⟩
    rw [gm_29 _ _ _ _ hL (by omega), gm_29 _ _ _ _ hL (by omega)]
    unfold snkI
    rw [h 19 (by decide), h 3 (by decide), h (29 + c) (by omega)]
  by_cases h3 : 37 ≤ i ∧ i < 37 + L
  · obtain ⟨c, rfl⟩ : ∃ c, i = 37 + c := ⟨i - 37, by omega⟩
    rw [gm_37 _ _ _ _ hL (by omega), gm_37 _ _ _ _ hL (by omega), h (37 + c) (by omega)]
  rw [gm_out _ _ _ _ (by omega) h1 h2 h3, gm_out _ _ _ _ (by omega) h1 h2 h3, h i hi0]
theorem gmN_ce {s s' : Nat → Int32} {m L : Nat} (hL : L ≤ 8) (h : ∀ i, i < 45 → s i = s' i) : ∀ n i, i < 45 → gmN s m L n i = gmN s' m L n i := by
  intro n
  induction n with
  | zero => exact h
  | succ n ih => exact gm_ce hL ih
theorem warm_ce {s s' : Nat → Int32} {cell : Int32} : ∀ k, k ≤ 8 → (∀ c, c < k → s (21 + c) = s' (21 + c) ∧ s (29 + c) = s' (29 + c) ∧ s (37 + c) = s' (37 + c)) → warm s cell k = warm s' cell k := by
  intro k
  induction k with
  | zero => intro _ _; rfl
  | succ k ih =>
    intro hk h
    obtain ⟨h1, h2, h3⟩ := h k (by omega)
    unfold warm
    rw [ih (by omega) (fun c hc => h c (by omega))]
    unfold ctr fireN
    rw [h1, h2, h3]
theorem tak_cg {s s' : Nat → Int32} {t : Nat} {cell : Int32} (h : ∀ k, k < 6 → k ≠ t → s' (45 + k) = s (45 + k)) (m : Nat) (hm : m ≤ 6) : takI s' m t cell ↔ takI s m t cell := by
  unfold takI
  rw [takL_iff, takL_iff]
  constructor
  · rintro ⟨⟨k, a, b, c⟩, d⟩; exact ⟨⟨k, a, b, by rw [← h k (by omega) b]; exact c⟩, d⟩
  · rintro ⟨⟨k, a, b, c⟩, d⟩; exact ⟨⟨k, a, b, by rw [h k (by omega) b]; exact c⟩, d⟩
/-- aside for r minutes -/
theorem TR.rest {s f : Nat → Int32} {L mi sk m i q : Nat} (hC : CO s L mi sk) (hm : m ≤ 6) (hi0 : i < m) (t : TR q f s i mi) (hmi : mi ≤ 800) : ∀ r, r ≤ 60 → TR q (upd (restV (nI r) f) 2 12) (gmN (upd s (45 + i) 12) m L r) i (mi + r) := by
  have hL : L ≤ 8 := hC.1.2.2.2.2.2
  obtain ⟨lo, up, ⟨b1, b2⟩, ⟨f4, f5⟩, _, _⟩ := t.2.2.2.2.1
  have t0 := t.place (v := 12) (by omega) (Nat.le_refl 12) rfl
  have hal : AL (upd s (45 + i) 12) m i := fun k _ _ hon => by unfold onI at hon; rw [upd_at] at hon; exact absurd hon.2 (by decide)
  have e4 : ∀ r, r ≤ 61 → restV (nI r) f 4 = nI (lo - 3 * r) := fun r hr => by
    show mx0 (f 4 - 3 * nI r) = _
    rw [f4, show (3 : Int32) = nI 3 from rfl, pk_mul, mx0_n (by omega) (by omega)]
  have e5 : ∀ r, r ≤ 61 → restV (nI r) f 5 = nI (up - 3 * r) := fun r hr => by
    show mx0 (f 5 - 3 * nI r) = _
    rw [f5, show (3 : Int32) = nI 3 from rfl, pk_mul, mx0_n (by omega) (by omega)]
  have en : ∀ (n : Int32) (u : Nat), u ≠ 4 → u ≠ 5 → restV n f u = f u := fun n u h1 h2 => by unfold restV; rw [upd_ne _ _ _ h2, upd_ne _ _ _ h1]
  intro r
  induction r with
  | zero =>
    intro _
    refine t0.cg (fun u a b c => ?_) (fun _ _ => rfl)
    by_cases z2 : u = 2
    · subst z2; rw [upd_at, upd_at]
    · rw [upd_ne _ _ _ z2, upd_ne _ _ _ z2]
      by_cases z4 : u = 4
      · subst z4; rw [e4 0 (by omega), f4]; rfl
      · by_cases z5 : u = 5
        · subst z5; rw [e5 0 (by omega), f5]; rfl
        · exact en _ u z4 z5
  | succ r ih =>
    intro hr
    have t1 := ih (by omega)
    have t2 := TR.off1 ((hC.upd (45 + i) 12 (by omega)).run m r (by omega)) hm hi0 (hal.gm hL hm hi0 r) t1 (upd_at _ _ _)
    refine t2.cg (fun u a b c => ?_) (fun _ _ => rfl)
    have er : ∀ (F : Nat → Int32) (u : Nat), u ≠ 4 → u ≠ 5 → restV 1 F u = F u := fun F u h1 h2 => by unfold restV; rw [upd_ne _ _ _ h2, upd_ne _ _ _ h1]
    by_cases z4 : u = 4
    · subst z4
      rw [upd_ne _ _ _ (by decide), e4 _ (by omega)]
      have e : restV 1 (upd (restV (nI r) f) 2 12) 4 = mx0 (restV (nI r) f 4 - 3 * 1) := by
        unfold restV
        rw [upd_ne _ _ _ (by decide), upd_at, upd_ne _ _ _ (by decide)]
      rw [e, e4 _ (by omega), show (3 : Int32) * 1 = nI 3 from by decide, mx0_n (by omega) (by decide), show lo - 3 * r - 3 = lo - 3 * (r + 1) by omega]
    · by_cases z5 : u = 5
      · subst z5
        rw [upd_ne _ _ _ (by decide), e5 _ (by omega)]
        have e : restV 1 (upd (restV (nI r) f) 2 12) 5 = mx0 (restV (nI r) f 5 - 3 * 1) := by
          show upd (upd _ 4 _) 5 _ 5 = _
          rw [upd_at, upd_ne _ _ _ (by decide), upd_ne _ _ _ (by decide)]
        rw [e, e5 _ (by omega), show (3 : Int32) * 1 = nI 3 from by decide, mx0_n (by omega) (by decide), show up - 3 * r - 3 = up - 3 * (r + 1) by omega]
      · rw [er _ u z4 z5]
        by_cases z2 : u = 2
        · subst z2; rw [upd_at, upd_at]
        · rw [upd_ne _ _ _ z2, upd_ne _ _ _ z2, en _ u z4 z5, en _ u z4 z5]
theorem upd_upd (f : Nat → Int32) (k : Nat) (a b : Int32) : upd (upd f k a) k b = upd f k b := by
  funext j; by_cases z : j = k
  · subst z; rw [upd_at, upd_at]
  · rw [upd_ne _ _ _ z, upd_ne _ _ _ z, upd_ne _ _ _ z]
theorem fwH_49 {h : Hp} {b L T k : Nat} {cell : Int32} (hk : k < T) : hi (fwH h b L cell T) 49 k = wmV (hi h b) (hi h (b + 1)) (hi h (b + 2)) (hi h (b + 3)) L cell (nI k) := by
  unfold fwH; rw [hi_setw_row, mix_in _ _ (by omega)]; rfl
theorem eq_start {h : Hp} {b m L e mi : Nat} {s : Nat → Int32} (g : HS h b s m L e mi) (hb : b = 17 ∨ b = 31) (hmi : mi ≤ 700) {j T : Nat} {cell : Int32} (hj : j < m) (hin : inC cell) (hT : T ≤ 60) (htk : ¬ takI s m j cell) : ∀ r, r ≤ T + 1 → stC (fwH h b L cell T) b j cell T r = stF s m L j cell T r := by
  have hm := g.2.1.1
  have hL := g.2.1.2.1
  obtain ⟨sk, hC⟩ := g.cw (g.is1 (by omega)) (by omega)
  have hO := hC.co g.wd
  obtain ⟨x, hx, hxe⟩ := nat2 (n := 11) hin (by decide)
  intro r
  induction r with
  | zero => intro _; rfl
  | succ r ih =>
    intro hr
    unfold stC stF
    rw [ih (by omega), fwH_o (y := b) (by omega), fwH_o (y := b + 8 + j) (by omega), show kq (fwH h b L cell T) (b + 8 + j) = kq h (b + 8 + j) from rfl]
    have key : dnV (kq h (b + 8 + j)) (rbN (hi (fwH h b L cell T) 49) (windV (hi h b) cell) (kq h (b + 8 + j)) (T - r) r (restV (nI r) (hi h (b + 8 + j)))) ↔ wellI (stB s m L j cell T r) j := by
      have t1 := TR.rest hO hm hj (g.tr j hj) (by omega) r (by omega)
      have lo : ∀ i, i < 45 → upd s (45 + j) 12 i = s i := fun i hi0 => upd_ne _ _ _ (by omega)
      have e45 : ∀ k, k < 6 → k ≠ j → gmN (upd s (45 + j) 12) m L r (45 + k) = s (45 + k) := fun k hk hkj => by
        rw [gmN_lo _ _ _ _ _ (by omega) (by omega) (by omega) hL, upd_ne _ _ _ (by omega)]
      have t2 := t1.place (v := cell) (by omega) (show x ≤ 12 by omega) hxe
      have t3 : TR (kq h (b + 8 + j)) (upd (restV (nI r) (hi h (b + 8 + j))) 2 cell) (upd (stA s m L j r) (45 + j) cell) j (mi + r) := by
        rw [upd_upd] at t2; exact t2
      have hO2 : CO (upd (stA s m L j r) (45 + j) cell) L (mi + r) sk := ((hO.upd (45 + j) 12 (by omega)).run m r (by omega)).upd (45 + j) cell (by omega)
      have hal : AL (upd (stA s m L j r) (45 + j) cell) m j := AL.put (fun z => htk ((tak_cg e45 m hm).mp z)) hj
      have ce : ∀ i, i < 45 → upd (stA s m L j r) (45 + j) cell i = gmN s m L r i := fun i hi0 => by
        rw [upd_ne _ _ _ (by omega)]; exact gmN_ce hL lo r i hi0
      have z := rb_run (W := hi (fwH h b L cell T) 49) (wi := windV (hi h b) cell) (o := r) (q := kq h (b + 8 + j)) hO2 hm hj hal hin (upd_at _ _ _) (by
        unfold windV windI; rw [ce 4 (by decide), gmN_lo _ _ _ _ _ (by decide) (by decide) (by decide) hL, hC.1.2.2.2.2.1]) (T - r) 0 (restV (nI r) (hi h (b + 8 + j))) (by omega) t3 (fun k' _ hk' => by
        rw [fwH_49 (by omega), wmV_n m hC cell (r + k') (by omega), gmN_add]
        exact (warm_ce L hL (fun c hc => ⟨gmN_ce hL ce k' _ (by omega), gmN_ce hL ce k' _ (by omega), gmN_ce hL ce k' _ (by omega)⟩)).symm)
      rw [Nat.add_zero, Nat.zero_add] at z
      exact z
    by_cases z : wellI (stB s m L j cell T r) j
    · rw [if_pos z, if_pos (key.mpr z)]
    · rw [if_neg z, if_neg (fun y => z (key.mp y))]
/-- coal added -/
theorem add_lo (s : Nat → Int32) (L : Nat) (c f : Int32) (i : Nat) (h1 : i ≠ 20) (h2 : i ≠ 21 + L) (h3 : i ≠ 29 + L) (h4 : i ≠ 37 + L) : addI s L c f i = s i := by
  unfold addI; rw [upd_ne _ _ _ h1, upd_ne _ _ _ h4, upd_ne _ _ _ h3, upd_ne _ _ _ h2]
theorem CO.add {s : Nat → Int32} {L mi sk x a : Nat} (h : CO s L mi sk) (hL : L < 8) (hx : x ≤ 11) (ha : a ≤ 30) : CO (addI s L (nI x) (nI a)) (L + 1) mi sk := by
  obtain ⟨⟨a1, a2, a3, a4, a5, a6⟩, hw, hc⟩ := h
  refine ⟨⟨a1, a2, by rw [add_lo _ _ _ _ _ (by omega) (by omega) (by omega) (by omega)]; exact a3, by rw [add_lo _ _ _ _ _ (by omega) (by omega) (by omega) (by omega)]; exact a4, a5, by omega⟩, by rw [add_lo _ _ _ _ _ (by omega) (by omega) (by omega) (by omega)]; exact hw, fun c hc0 => ?_⟩
  by_cases z : c = L
  · subst z
    refine ⟨x, a, 2, ⟨hx, ha, Nat.le_refl _⟩, ?_, ?_, ?_⟩
    · unfold addI; rw [upd_ne _ _ _ (by omega), upd_ne _ _ _ (by omega), upd_ne _ _ _ (by omega), upd_at]
    · unfold addI; rw [upd_ne _ _ _ (by omega), upd_ne _ _ _ (by omega), upd_at]
    · unfold addI; rw [upd_ne _ _ _ (by omega), upd_at]; rfl
  · rw [add_lo _ _ _ _ _ (by omega) (by omega) (by omega) (by omega), add_lo _ _ _ _ _ (by omega) (by omega) (by omega) (by omega), add_lo _ _ _ _ _ (by omega) (by omega) (by omega) (by omega)]
    exact hc c (by omega)
theorem warm_add {s : Nat → Int32} {L mi sk x a m n : Nat} (h : CO s L mi sk) (hL : L < 8) (hx : x ≤ 11) (ha : a ≤ 30) (hn : n ≤ 900) : warm (gmN (addI s L (nI x) (nI a)) m (L + 1) n) (nI x) (L + 1) = warm (gmN s m L n) (nI x) L + (if n < 2 then 0 else nI (a - sunkN mi sk n)) := by
  have h2 := h.add hL hx ha
  obtain ⟨_, _, _, k4⟩ := coal_n m h.self n (by omega)
  obtain ⟨_, _, _, k5⟩ := coal_n m h2.self n (by omega)
  show warm (gmN (addI s L (nI x) (nI a)) m (L + 1) n) (nI x) L + ctr (gmN (addI s L (nI x) (nI a)) m (L + 1) n) (nI x) L = _
  have al : ∀ i, i ≠ 20 → i ≠ 21 + L → i ≠ 29 + L → i ≠ 37 + L → addI s L (nI x) (nI a) i = s i := add_lo _ _ _ _
  congr 1
  · refine warm_ce L (by omega) (fun c hc => ?_)
    obtain ⟨x', f', r', ⟨x1, x2, x3⟩, e1, e2, e3⟩ := h.2.2 c hc
    obtain ⟨d1, d2, d3⟩ := k4 c hc
    obtain ⟨u1, u2, u3⟩ := k5 c (by omega)
    refine ⟨?_, ?_, ?_⟩
    · rw [u1, d1]; exact al _ (by omega) (by omega) (by omega) (by omega)
    · rw [d2 f' x2 e2, u2 f' x2 ((al _ (by omega) (by omega) (by omega) (by omega)).trans e2)]
    · rw [d3 r' x3 e3, u3 r' x3 ((al _ (by omega) (by omega) (by omega) (by omega)).trans e3)]
  · obtain ⟨u1, u2, u3⟩ := k5 L (by omega)
    have a1 : addI s L (nI x) (nI a) (21 + L) = nI x := by unfold addI; rw [upd_ne _ _ _ (by omega), upd_ne _ _ _ (by omega), upd_ne _ _ _ (by omega), upd_at]
    have a2 : addI s L (nI x) (nI a) (29 + L) = nI a := by unfold addI; rw [upd_ne _ _ _ (by omega), upd_ne _ _ _ (by omega), upd_at]
    have a3 : addI s L (nI x) (nI a) (37 + L) = nI 2 := by unfold addI; rw [upd_ne _ _ _ (by omega), upd_at]; rfl
    unfold ctr
    rw [u1, a1, if_pos rfl]
    unfold fireN
    rw [u2 a ha a2, u3 2 (by omega) a3]
    by_cases z : n < 2
    · rw [if_pos z, if_neg (nI_nle (by omega) (by omega))]
    · rw [if_neg z, if_pos (by rw [show 2 - n = 0 by omega]; decide)]
theorem eq_fuelFor {h : Hp} {b m L e mi : Nat} {s : Nat → Int32} (g : HS h b s m L e mi) (hb : b = 17 ∨ b = 31) (hmi : mi ≤ 700) {j n : Nat} (hj : j < m) (hon : inC (hi h (b + 8 + j) 2)) (hn : n ≤ 60) (hL8 : L < 8) : ∀ r a, a + r = 31 → ffC (fwH h b L (hi h (b + 8 + j) 2) n) b j n r a = ffF s m L j n r a := by
  have hm := g.2.1.1
  have hL := g.2.1.2.1
  obtain ⟨sk, hC⟩ := g.cw (g.is1 (by omega)) (by omega)
  have hO := hC.co g.wd
  have t := g.tr j hj
  obtain ⟨x, hx, hxe⟩ := nat2 (n := 11) hon (by decide)
  have hcell : s (45 + j) = hi h (b + 8 + j) 2 := (t.pl hon).mp rfl
  have hself : upd (hi h (b + 8 + j)) 2 (hi h (b + 8 + j) 2) = hi h (b + 8 + j) := upd_self rfl
  intro r
  induction r with
  | zero => intro a _; rfl
  | succ r ih =>
    intro a ha
    unfold ffC ffF
    rw [ih (a + 1) (by omega), fwH_o (y := b) (by omega), fwH_o (y := b + 8 + j) (by omega), show kq (fwH h b L (hi h (b + 8 + j) 2) n) (b + 8 + j) = kq h (b + 8 + j) from rfl]
    have hfu : ∀ k', k' < n → fuW (fwH h b L (hi h (b + 8 + j) 2) n) b (nI a) k' = warm (gmN s m L k') (hi h (b + 8 + j) 2) L + (if k' < 2 then 0 else nI (a - sunkN mi sk k')) := fun k' hk' => by
      unfold fuW fuA
      rw [fwH_49 hk', fwH_o (by omega), wmV_n m hC _ k' (by omega), sunk_n hC k' (by omega)]
      have := sunkN_le mi sk k'
      rw [mx0_n (by omega) (by omega)]
    have key : dnV (kq h (b + 8 + j)) (rbN (fuW (fwH h b L (hi h (b + 8 + j) 2) n) b (nI a)) (windV (hi h b) (hi h (b + 8 + j) 2)) (kq h (b + 8 + j)) n 0 (hi h (b + 8 + j))) ↔ wellI (ffS s m L j n a) j := by
      unfold ffS
      by_cases z : a = 0
      · subst z
        rw [if_pos rfl]
        have y := rb_run (W := fuW (fwH h b L (hi h (b + 8 + j) 2) n) b (nI 0)) (wi := windV (hi h b) (hi h (b + 8 + j) 2)) (o := 0) (q := kq h (b + 8 + j)) hO hm hj (g.2.2.2.2.2.2.1 j hj) hon hcell (by
          unfold windV windI; rw [hC.1.2.2.2.2.1]) n 0 (hi h (b + 8 + j)) (by omega) (by rw [hself]; exact t) (fun k' _ hk' => by
          rw [Nat.zero_add, hfu k' (by omega), Nat.zero_sub]
          by_cases w : k' < 2
          · rw [if_pos w, Int32.add_zero]
          · rw [if_neg w]; exact Int32.add_zero _)
        rw [Nat.zero_add n] at y
        exact y
      · rw [if_neg z, hcell]
        have hO2 := hO.add hL8 hx (show a ≤ 30 by omega)
        rw [← hxe] at hO2
        have al : ∀ i, 45 ≤ i → addI s L (hi h (b + 8 + j) 2) (nI a) i = s i := fun i hi0 => add_lo _ _ _ _ _ (by omega) (by omega) (by omega) (by omega)
        have t2 : TR (kq h (b + 8 + j)) (hi h (b + 8 + j)) (addI s L (hi h (b + 8 + j) 2) (nI a)) j mi := t.cg (fun _ _ _ _ => rfl) (fun u hu => add_lo _ _ _ _ _ (by omega) (by omega) (by omega) (by omega))
        have y := rb_run (W := fuW (fwH h b L (hi h (b + 8 + j) 2) n) b (nI a)) (wi := windV (hi h b) (hi h (b + 8 + j) 2)) (o := 0) (q := kq h (b + 8 + j)) hO2 hm hj ((g.2.2.2.2.2.2.1 j hj).cg hj (fun u hu => al _ (by omega))) hon ((al _ (by omega)).trans hcell) (by
          unfold windV windI; rw [hC.1.2.2.2.2.1, add_lo _ _ _ _ _ (by omega) (by omega) (by omega) (by omega)]) n 0 (hi h (b + 8 + j)) (by omega) (by rw [hself]; exact t2) (fun k' _ hk' => by
          rw [Nat.zero_add, hfu k' (by omega), hxe]
          exact (warm_add hO hL8 hx (by omega) (by omega)).symm)
        rw [Nat.zero_add n] at y
        exact y
    by_cases z : wellI (ffS s m L j n a) j
    · rw [if_pos z, if_pos (key.mpr z)]
    · rw [if_neg z, if_neg (fun y => z (key.mp y))]
/-- the coals are out -/
theorem mxS_n {cf : Nat → Int32} : ∀ k, (∀ c, c < k → ∃ f : Nat, f ≤ 30 ∧ cf c = nI f) → ∃ M : Nat, M ≤ 30 ∧ mxS cf k = nI M ∧ (∀ t : Nat, M ≤ t ↔ ∀ c, c < k → ∀ f : Nat, f ≤ 30 → cf c = nI f → f ≤ t) := by
  intro k
  induction k with
  | zero => intro _; exact ⟨0, by omega, rfl, fun t => ⟨fun _ c hc => absurd hc (Nat.not_lt_zero _), fun _ => Nat.zero_le _⟩⟩
  | succ k ih =>
    intro h
    obtain ⟨M, h1, h2, h3⟩ := ih (fun c hc => h c (by omega))
    obtain ⟨f, hf, ef⟩ := h k (by omega)
    refine ⟨if M < f then f else M, by split <;> omega, ?_, fun t => ?_⟩
    · unfold mxS
      rw [h2, ef]
      by_cases z : M < f
      · rw [if_pos (nI_lt z (by omega)), if_pos z]
      · rw [if_neg (nI_nlt (by omega) (by omega)), if_neg z]
    · constructor
      · intro hle c hc f' hf' ef'
        by_cases z : c = k
        · subst z
          have : f' = f := (nI_eq (by omega) (by omega)).mp (ef'.symm.trans ef)
          subst this
          split at hle <;> omega
        · exact (h3 t).mp (by split at hle <;> omega) c (by omega) f' hf' ef'
      · intro hall
        have a1 := (h3 t).mpr (fun c hc f' hf' ef' => hall c (by omega) f' hf' ef')
        have a2 := hall k (by omega) f hf ef
        split <;> omega
theorem fireS_n {s : Nat → Int32} : ∀ k, k ≤ 8 → (∀ c, c < k → ∃ f : Nat, f ≤ 30 ∧ s (29 + c) = nI f) → ∃ S : Nat, S ≤ 30 * k ∧ fireS s k = nI S ∧ (S = 0 ↔ ∀ c, c < k → s (29 + c) = 0) := by
  intro k
  induction k with
  | zero => intro _ _; exact ⟨0, by omega, rfl, ⟨fun _ c hc => absurd hc (Nat.not_lt_zero _), fun _ => rfl⟩⟩
  | succ k ih =>
    intro hk h
    obtain ⟨S, h1, h2, h3⟩ := ih (by omega) (fun c hc => h c (by omega))
    obtain ⟨f, hf, ef⟩ := h k (by omega)
    refine ⟨S + f, by omega, by unfold fireS; rw [h2, ef, nI_add], ?_⟩
    constructor
    · intro z c hc
      by_cases y : c = k
      · subst y; rw [ef, show f = 0 by omega]; rfl
      · exact h3.mp (by omega) c (by omega)
    · intro z
      have a1 := h3.mpr (fun c hc => z c (by omega))
      have a2 := z k (by omega)
      rw [ef] at a2
      have : f = 0 := (nI_eq (a := f) (b := 0) (by omega) (by decide)).mp a2
      omega
theorem fuF_n {s : Nat → Int32} {m L N : Nat} (h : ∀ k, k ≤ 1000 → (fireS (gmN s m L k) L = 0 ↔ N ≤ k)) : ∀ r n, n + r ≤ 900 → n ≤ N → fuF s m L r n = if N < n + r then nI N else -1000000 := by
  intro r
  induction r with
  | zero => intro n _ hn; rw [if_neg (by omega)]; rfl
  | succ r ih =>
    intro n hr hn
    unfold fuF
    by_cases z : n = N
    · subst z; rw [if_pos ((h n (by omega)).mpr (Nat.le_refl _)), if_pos (by omega)]
    · rw [if_neg (fun y => by have := (h n (by omega)).mp y; omega), ih (n + 1) (by omega) (by omega), show n + 1 + r = n + (r + 1) by omega]
theorem eq_fuel {h : Hp} {b m L e mi : Nat} {s : Nat → Int32} (g : HS h b s m L e mi) (h0 : s 0 = 1) (hmi : mi ≤ 700) : (if (200 : Int32) < mfV (hi h b) (mxS (hi h (b + 2)) L) then -1000000 else mfV (hi h b) (mxS (hi h (b + 2)) L)) = fuF s m L 201 0 := by
  have hL := g.2.1.2.1
  obtain ⟨sk, hC⟩ := g.cw h0 (by omega)
  obtain ⟨⟨a1, a2, a3, a4, a5, a6, a7, a8, a9⟩, hc⟩ := hC
  have hC : CW (hi h b) (hi h (b + 1)) (hi h (b + 2)) (hi h (b + 3)) s L mi sk := ⟨⟨a1, a2, a3, a4, a5, a6, a7, a8, a9⟩, hc⟩
  have hcf : ∀ c, c < L → ∃ f : Nat, f ≤ 30 ∧ hi h (b + 2) c = nI f := fun c hc0 => by
    obtain ⟨x, f, r, ⟨x1, x2, x3⟩, _, ⟨z1, z2⟩, _⟩ := hc c hc0; exact ⟨f, x2, z1⟩
  obtain ⟨M, hM1, hM2, hM3⟩ := mxS_n L hcf
  have hdm : mi / sk * sk ≤ mi := Nat.div_mul_le_self mi sk
  have hdl : mi < (mi / sk + 1) * sk := by
    have := Nat.lt_div_mul_add (a := mi) (b := sk) (by omega)
    rw [Nat.add_mul, Nat.one_mul]; exact this
  have hbig : (mi / sk + M) * sk ≤ 1000 + 30 * 30 := by
    rw [Nat.add_mul]
    have : M * sk ≤ 30 * 30 := Nat.mul_le_mul hM1 a2
    omega
  have hN : ∃ N : Nat, mfV (hi h b) (mxS (hi h (b + 2)) L) = nI N ∧ N ≤ 2000 ∧ ∀ k : Nat, (M ≤ sunkN mi sk k ↔ N ≤ k) := by
    unfold mfV
    rw [hM2, a3, a6]
    by_cases z : M = 0
    · subst z
      exact ⟨0, if_pos (Or.inl rfl), by omega, fun k => ⟨fun _ => Nat.zero_le _, fun _ => Nat.zero_le _⟩⟩
    · have hge : (mi / sk + 1) * sk ≤ (mi / sk + M) * sk := Nat.mul_le_mul_right _ (by omega)
      refine ⟨(mi / sk + M) * sk - mi, ?_, by omega, fun k => ?_⟩
      · rw [if_neg (fun y => y.elim (nI_ne0 (by omega) (by omega)) (nI_nle (by omega) (by omega))), pk_div (by omega) (by omega) (by omega), nI_add, pk_mul, pk_sub (by omega)]
      · have hmono : mi / sk ≤ (mi + k) / sk := Nat.div_le_div_right (by omega)
        have e : mi / sk + M ≤ (mi + k) / sk ↔ (mi / sk + M) * sk ≤ mi + k := Nat.le_div_iff_mul_le (by omega)
        unfold sunkN
        constructor
        · intro y; have := e.mp (by omega); omega
        · intro y; have := e.mpr (by omega); omega
  obtain ⟨N, hN1, hN2, hN3⟩ := hN
  have hz : ∀ k, k ≤ 1000 → (fireS (gmN s m L k) L = 0 ↔ N ≤ k) := fun k hk => by
    obtain ⟨_, _, _, k4⟩ := coal_n m hC k hk
    obtain ⟨S, s1, s2, s3⟩ := fireS_n (s := gmN s m L k) L hL (fun c hc0 => by
      obtain ⟨x, f, r, ⟨x1, x2, x3⟩, _, ⟨z1, z2⟩, _⟩ := hc c hc0
      exact ⟨f - sunkN mi sk k, by omega, (k4 c hc0).2.1 f x2 z2⟩)
    rw [s2, ← hN3 k, hM3]
    constructor
    · intro y c hc0 f hf ef
      have hS : S = 0 := (nI_eq (a := S) (b := 0) (by omega) (by decide)).mp y
      obtain ⟨x, f', r, ⟨x1, x2, x3⟩, _, ⟨z1, z2⟩, _⟩ := hc c hc0
      have hff : f = f' := (nI_eq (by omega) (by omega)).mp (ef.symm.trans z1)
      subst hff
      have w := s3.mp hS c hc0
      rw [(k4 c hc0).2.1 f x2 z2] at w
      have : f - sunkN mi sk k = 0 := (nI_eq (a := f - sunkN mi sk k) (b := 0) (by omega) (by decide)).mp w
      omega
    · intro y
      have hS : S = 0 := s3.mpr (fun c hc0 => by
        obtain ⟨x, f, r, ⟨x1, x2, x3⟩, _, ⟨z1, z2⟩, _⟩ := hc c hc0
        rw [(k4 c hc0).2.1 f x2 z2, show f - sunkN mi sk k = 0 by have := y c hc0 f x2 z1; omega]; rfl)
      rw [hS]; rfl
  rw [hN1, fuF_n hz 201 0 (by omega) (Nat.zero_le _)]
  by_cases z : N < 0 + 201
  · rw [if_pos z, if_neg (show ¬ (200 : Int32) < nI N from nI_nlt (a := 200) (b := N) (by omega) (by omega))]
  · rw [if_neg z, if_pos (show (200 : Int32) < nI N from nI_lt (a := 200) (b := N) (by omega) (by omega))]
