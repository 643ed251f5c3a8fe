/-! pairs: what is foretold (by hand) -/
theorem rng1 {v : Int32} {w k : Nat} (hv : v = nI w) (h1 : 1 ≤ w) (hw : w ≤ k) (hk : k < 1000000) : 1 ≤ v ∧ v ≤ nI k := by rw [hv]; exact ⟨nI_le h1 (by omega), nI_le hw (by omega)⟩
section Sn
variable {h : Hp} {b c : Nat}
theorem SimB.t16 (S : SimB h b c) : T16 h := S.2.2.2.2.2.2.2.2.2.1
theorem SimB.ktc (S : SimB h b c) : KT h c := S.2.2.2.2.2.2.2.2.1
theorem SimAt.onT {q : Nat} {f : Nat → Int32} (S : SimAt h b c) (hq : q < 6) : SimAt (tH h q f) b c ∧ hi (tH h q f) 51 = hi h 51 := by
  have hc := S.1.c
  have e : ∀ x, x ≠ 16 → hi (tH h q f) x = hi h x := fun x hx => tH_o hx
  have ek : hr (tH h q f) 16 1 = some (10 + q) := tH_k
  have e0 : ∀ x y, ¬ (x = 16 ∧ y = 1) → hr (tH h q f) x y = hr h x y := fun x y hx => by
    show hr (setr h 16 1 (some (10 + q))) x y = _
    rw [hr_setr, if_neg hx]
  refine ⟨S.junk rfl (fun x y hx => e0 x y (by omega)) (fun x h0 h5 h16 _ _ _ _ _ _ _ _ _ => e x h16) (fun j _ => by rw [e 0 (by decide)]) (fun j _ => by rw [e 5 (by decide)]) (fun j _ => by rw [e 50 (by decide)]) ?_ (S.1.ktc.mv (fun i hi0 => e0 _ _ (by omega))) (fun z hz => by rw [e z (by omega)]), e 51 (by decide)⟩
  have eq : kq (tH h q f) 16 = q := by unfold kq; rw [ek]; show 10 + q - 10 = q; omega
  unfold T16
  rw [eq]
  exact ⟨ek, hq⟩
theorem SimAt.w {x : Nat} {W : Nat → Int32} (S : SimAt h b c) (hx : x = 48 ∨ x = 49 ∨ x = 59 ∨ x = 60 ∨ x = 61 ∨ x = 62 ∨ x = 63) : SimAt (setw h x W) b c ∧ hi (setw h x W) 51 = hi h 51 := by
  have e : ∀ y, y ≠ x → hi (setw h x W) y = hi h y := fun y hy => hi_setw_ne _ _ _ _ hy
  exact ⟨S.junk rfl (fun _ _ _ => rfl) (fun y _ _ _ _ _ _ _ _ _ _ _ _ => e y (by omega)) (fun j _ => by rw [e 0 (by omega)]) (fun j _ => by rw [e 5 (by omega)]) (fun j _ => by rw [e 50 (by omega)]) S.1.t16 S.1.ktc (fun z hz => by rw [e z (by omega)]), e 51 (by omega)⟩
theorem SimAt.b15 {v : Int32} (S : SimAt h b c) : SimAt (seti h 0 15 v) b c ∧ hi (seti h 0 15 v) 51 = hi h 51 := by
  have e : ∀ y, y ≠ 0 → hi (seti h 0 15 v) y = hi h y := fun y hy => hi_seti_ne _ _ _ _ _ hy
  exact ⟨S.junk rfl (fun _ _ _ => rfl) (fun y h0 _ _ _ _ _ _ _ _ _ _ _ => e y h0) (fun j hj => by rw [hi_seti, if_neg (by omega)]) (fun j _ => by rw [e 5 (by omega)]) (fun j _ => by rw [e 50 (by omega)]) S.1.t16 S.1.ktc (fun z hz => by rw [e z (by omega)]), e 51 (by omega)⟩
theorem SimAt.onK {x y : Nat → Int32} (S : SimAt h b c) : SimAt (jk h x y) b c := ((S.w (x := 61) (by decide)).1.w (x := 60) (by decide)).1
theorem SimAt.onV {x y CB g : Nat → Int32} (S : SimAt h b c) : SimAt (jv h x y CB g) b c := ((S.w (x := 62) (by decide)).1.onK.w (x := 63) (by decide)).1
theorem HS.gon {m L e mi : Nat} (g : HS h b (hi h 51) m L e mi) (j : Nat) (hj : j < m) : hi h (b + 8 + j) 2 = 13 ↔ goneI (hi h 51) j := (g.tr j hj).gone
theorem P_ahead {t u w : Int32} (S : SimAt h b c) : Pair 110 209 [vI t, vI u, vI w] h := by
  obtain ⟨m, L, e, mi, y2, g⟩ := S.y
  have hm := g.2.1.1
  have bad : (¬ inR t m ∨ ¬ (0 ≤ u ∧ u ≤ 60) ∨ ¬ (0 ≤ w ∧ w ≤ 3)) → ∀ j, j < m → t = nI j → (0 ≤ u ∧ u ≤ 60) → (0 ≤ w ∧ w ≤ 3) → False := fun y j hj ht hu hw => y.elim (fun z => nin z (by omega) hj ht) (fun z => z.elim (fun z => z hu) (fun z => z hw))
  refine C_ahead (g.gi S.1) S.1.b S.1.t16 g.bz (fun y => ⟨_, rfl, ?_⟩) (fun j hj ht hu hw hg => ⟨_, rfl, ?_⟩) (fun j hj ht n hn hu w' hw' hw hg => ⟨_, rfl, ?_⟩)
  · exact M_ahead S.1.1 S.1.2.2.1 g.cnt g.skm (fun _ => ⟨rfl, S.s⟩) (fun j hj ht k hk hn hw _ => (bad y j hj ht (rng hn hk (by decide)) hw).elim) (fun j hj ht k hk hn hw _ _ _ => (bad y j hj ht (rng hn hk (by decide)) hw).elim)
  · refine M_ahead S.1.1 S.1.2.2.1 g.cnt g.skm (fun y => (bad y j hj ht hu hw).elim) (fun _ _ _ _ _ _ _ _ => ⟨rfl, S.s⟩) (fun j2 hj2 ht2 k hk hn hw2 hg2 _ _ => (hg2 ?_).elim)
    rw [nI_inj (ht2.symm.trans ht) (by omega) (by omega)]; exact (g.gon j hj).mp hg
  · have kt := (S.1.2.2.2.2.2.2.2.1 j (by omega)).2
    obtain ⟨S1, e1⟩ := S.onT (f := trN (hi h b) (hi h (b + 1)) (hi h (b + 2)) (hi h (b + 3)) L (kq h (b + 8 + j)) (becV (hi h 16) (hi h (b + 8 + j))) n) kt
    rw [eq_ahead g (by omega) hj (by omega) hw']
    generalize tH h _ _ = h1 at S1 e1 ⊢
    have g1 : HS h b (hi h1 51) m L e mi := by rw [e1]; exact g
    refine M_ahead S1.1.1 S1.1.2.2.1 g1.cnt g1.skm (fun y => (bad y j hj ht (rng hu hn (by decide)) (rng hw hw' (by decide))).elim) (fun j2 hj2 ht2 k hk hn hw2 hg2 => (hg ?_).elim) (fun j2 hj2 ht2 k hk hn2 hw2 hg2 x y => ⟨?_, S1.onK.s⟩)
    · rw [nI_inj (ht2.symm.trans ht) (by omega) (by omega), e1] at hg2; exact (g.gon j hj).mpr hg2
    · rw [nI_inj (ht2.symm.trans ht) (by omega) (by omega), nI_inj (hn2.symm.trans hu) (by omega) (by omega), hw, e1]
theorem HS.s0 {m L e mi : Nat} (g : HS h b (hi h 51) m L e mi) (S : SimAt h b c) (z : ¬ hi h 0 7 = 0) : hi h 51 0 = 1 := Classical.byContradiction (fun w => z ((st01 S g).mpr w))
theorem P_heat {t : Int32} (S : SimAt h b c) : Pair 107 205 [vI t] h := by
  obtain ⟨m, L, e, mi, y2, g⟩ := S.y
  have hm := g.2.1.1
  have st := st01 S g
  refine C_heat (g.gi S.1) S.1.b S.1.t16 g.bz (fun z => ⟨_, rfl, ?_⟩) (fun z y => ⟨_, rfl, ?_⟩) (fun z y hl => ⟨_, rfl, ?_⟩) (fun z y i hi0 hl => ⟨_, rfl, ?_⟩)
  · exact M_heat S.1.1 S.1.2.2.1 g.cnt (fun _ => ⟨rfl, S.s⟩) (fun w _ => (st.mp z w).elim) (fun w _ => (st.mp z w).elim)
  · exact M_heat S.1.1 S.1.2.2.1 g.cnt (fun w => (z (st.mpr w)).elim) (fun _ _ => ⟨rfl, S.s⟩) (fun _ w => (y w).elim)
  · rw [eq_heat0 g (g.s0 S z) (by omega) (by omega) y hl]
    exact M_heat S.1.1 S.1.2.2.1 g.cnt (fun w => (z (st.mpr w)).elim) (fun _ w => (w y).elim) (fun _ _ => ⟨rfl, S.s⟩)
  · have kt := (S.1.2.2.2.2.2.2.2.1 i (by omega)).2
    obtain ⟨S1, e1⟩ := S.onT (f := trN (hi h b) (hi h (b + 1)) (hi h (b + 2)) (hi h (b + 3)) L (kq h (b + 8 + i)) (becV (hi h 16) (hi h (b + 8 + i))) 0) kt
    rw [eq_heat1 g (g.s0 S z) (by omega) (by omega) y hi0 hl]
    generalize tH h _ _ = h1 at S1 e1 ⊢
    have g1 : HS h b (hi h1 51) m L e mi := by rw [e1]; exact g
    refine M_heat S1.1.1 S1.1.2.2.1 g1.cnt (fun w => (z (st.mpr (e1 ▸ w))).elim) (fun _ w => (w y).elim) (fun _ _ => ⟨?_, S1.s⟩)
    rw [e1]; rfl
theorem P_heatAhead {t u : Int32} (S : SimAt h b c) : Pair 111 210 [vI t, vI u] h := by
  obtain ⟨m, L, e, mi, y2, g⟩ := S.y
  have hm := g.2.1.1
  have st := st01 S g
  have bad : (¬ (0 ≤ t ∧ t ≤ 11) ∨ ¬ (0 ≤ u ∧ u ≤ 60)) → (0 ≤ t ∧ t ≤ 11) → (0 ≤ u ∧ u ≤ 60) → False := fun y p q => y.elim (fun z => z p) (fun z => z q)
  refine C_heatAhead (g.gi S.1) S.1.b S.1.t16 g.bz (fun z => ⟨_, rfl, ?_⟩) (fun z y => ⟨_, rfl, ?_⟩) (fun z y n hn hu hl => ⟨_, rfl, ?_⟩) (fun z y n hn hu i hi0 hl => ⟨_, rfl, ?_⟩)
  · exact M_heatAhead S.1.1 S.1.2.2.1 g.cnt g.sk (fun _ => ⟨rfl, S.s⟩) (fun w _ => (st.mp z w).elim) (fun w _ _ _ _ _ _ => (st.mp z w).elim)
  · exact M_heatAhead S.1.1 S.1.2.2.1 g.cnt g.sk (fun w => (z (st.mpr w)).elim) (fun _ _ => ⟨rfl, S.s⟩) (fun _ w k hk hn _ _ => (bad y w (rng hn hk (by decide))).elim)
  · rw [eq_heat0 g (g.s0 S z) (by omega) (by omega) y hl]
    refine M_heatAhead S.1.1 S.1.2.2.1 g.cnt g.sk (fun w => (z (st.mpr w)).elim) (fun _ w => (bad w y (rng hu hn (by decide))).elim) (fun _ _ k hk hn2 _ _ => ⟨?_, S.onK.s⟩)
    rw [nI_inj (hn2.symm.trans hu) (by omega) (by omega)]
  · have kt := (S.1.2.2.2.2.2.2.2.1 i (by omega)).2
    obtain ⟨S1, e1⟩ := S.onT (f := trN (hi h b) (hi h (b + 1)) (hi h (b + 2)) (hi h (b + 3)) L (kq h (b + 8 + i)) (becV (hi h 16) (hi h (b + 8 + i))) n) kt
    rw [eq_heat1 g (g.s0 S z) (by omega) (by omega) y hi0 hl]
    generalize tH h _ _ = h1 at S1 e1 ⊢
    have g1 : HS h b (hi h1 51) m L e mi := by rw [e1]; exact g
    refine M_heatAhead S1.1.1 S1.1.2.2.1 g1.cnt g1.sk (fun w => (z (st.mpr (e1 ▸ w))).elim) (fun _ w => (bad w y (rng hu hn (by decide))).elim) (fun _ _ k hk hn2 _ _ => ⟨?_, S1.onK.s⟩)
    rw [nI_inj (hn2.symm.trans hu) (by omega) (by omega), e1]
theorem P_ready {t : Int32} (S : SimAt h b c) : Pair 114 212 [vI t] h := by
  obtain ⟨m, L, e, mi, y2, g⟩ := S.y
  have hm := g.2.1.1
  refine C_ready (g.gi S.1) S.1.b S.1.t16 g.bz (fun y => ⟨_, rfl, ?_⟩) (fun j hj ht hg => ⟨_, rfl, ?_⟩) (fun j hj ht hg f3 => ⟨_, rfl, ?_⟩)
  · exact M_ready S.1.1 S.1.2.2.1 g.cnt g.skm (fun _ => ⟨rfl, S.s⟩) (fun j hj ht _ => (nin y (by omega) hj ht).elim) (fun j hj ht _ _ _ => (nin y (by omega) hj ht).elim)
  · refine M_ready S.1.1 S.1.2.2.1 g.cnt g.skm (fun y => (nin y (by omega) hj ht).elim) (fun _ _ _ _ => ⟨rfl, S.s⟩) (fun j2 hj2 ht2 hg2 _ _ => (hg2 ?_).elim)
    rw [nI_inj (ht2.symm.trans ht) (by omega) (by omega)]; exact (g.gon j hj).mp hg
  · obtain ⟨S1, e1⟩ := S.onT (f := f3) (S.1.2.2.2.2.2.2.2.1 j (by omega)).2
    rw [eq_ready g (by omega) hj hg]
    generalize tH h _ _ = h1 at S1 e1 ⊢
    have g1 : HS h b (hi h1 51) m L e mi := by rw [e1]; exact g
    refine M_ready S1.1.1 S1.1.2.2.1 g1.cnt g1.skm (fun y => (nin y (by omega) hj ht).elim) (fun j2 hj2 ht2 hg2 => (hg ?_).elim) (fun j2 hj2 ht2 hg2 x y => ⟨?_, S1.onK.s⟩)
    · rw [nI_inj (ht2.symm.trans ht) (by omega) (by omega), e1] at hg2; exact (g.gon j hj).mpr hg2
    · rw [nI_inj (ht2.symm.trans ht) (by omega) (by omega), e1]
theorem P_where {t : Int32} (S : SimAt h b c) : Pair 115 213 [vI t] h := by
  obtain ⟨m, L, e, mi, y2, g⟩ := S.y
  have hm := g.2.1.1
  refine C_where (g.gi S.1) S.1.b S.1.t16 g.bz (fun y => ⟨_, rfl, ?_⟩) (fun j hj ht hg => ⟨_, rfl, ?_⟩) (fun j hj ht hg q f3 hq => ⟨_, rfl, ?_⟩)
  · exact M_where S.1.1 S.1.2.2.1 g.cnt g.skm (fun _ => ⟨rfl, S.s⟩) (fun j hj ht _ => (nin y (by omega) hj ht).elim) (fun j hj ht _ _ _ => (nin y (by omega) hj ht).elim)
  · refine M_where S.1.1 S.1.2.2.1 g.cnt g.skm (fun y => (nin y (by omega) hj ht).elim) (fun _ _ _ _ => ⟨rfl, S.s⟩) (fun j2 hj2 ht2 hg2 _ _ => (hg2 ?_).elim)
    rw [nI_inj (ht2.symm.trans ht) (by omega) (by omega)]; exact (g.gon j hj).mp hg
  · obtain ⟨S1, e1⟩ := S.onT (f := f3) hq
    rw [(eq_where g (by omega) hj 12 (Nat.le_refl _)).1]
    generalize tH h _ _ = h1 at S1 e1 ⊢
    have g1 : HS h b (hi h1 51) m L e mi := by rw [e1]; exact g
    refine M_where S1.1.1 S1.1.2.2.1 g1.cnt g1.skm (fun y => (nin y (by omega) hj ht).elim) (fun j2 hj2 ht2 hg2 => (hg ?_).elim) (fun j2 hj2 ht2 hg2 x y => ⟨?_, S1.onK.s⟩)
    · rw [nI_inj (ht2.symm.trans ht) (by omega) (by omega), e1] at hg2; exact (g.gon j hj).mpr hg2
    · rw [nI_inj (ht2.symm.trans ht) (by omega) (by omega), e1]
theorem P_inTime {t u : Int32} (S : SimAt h b c) : Pair 116 214 [vI t, vI u] h := by
  obtain ⟨m, L, e, mi, y2, g⟩ := S.y
  have hm := g.2.1.1
  have bad : (¬ inR t m ∨ ¬ (0 ≤ u ∧ u ≤ 60)) → ∀ j, j < m → t = nI j → (0 ≤ u ∧ u ≤ 60) → False := fun y j hj ht hu => y.elim (fun z => nin z (by omega) hj ht) (fun z => z hu)
  refine C_inTime (g.gi S.1) S.1.b S.1.t16 g.bz (fun y => ⟨_, rfl, ?_⟩) (fun j hj ht hu hg => ⟨_, rfl, ?_⟩) (fun j hj ht w hw hu hg q f3 hq => ⟨_, rfl, ?_⟩)
  · exact M_inTime S.1.1 S.1.2.2.1 g.cnt g.skm (fun _ => ⟨rfl, S.s⟩) (fun j hj ht hu _ => (bad y j hj ht hu).elim) (fun j hj ht hu _ _ _ => (bad y j hj ht hu).elim)
  · refine M_inTime S.1.1 S.1.2.2.1 g.cnt g.skm (fun y => (bad y j hj ht hu).elim) (fun _ _ _ _ _ => ⟨rfl, S.s⟩) (fun j2 hj2 ht2 _ hg2 _ _ => (hg2 ?_).elim)
    rw [nI_inj (ht2.symm.trans ht) (by omega) (by omega)]; exact (g.gon j hj).mp hg
  · obtain ⟨S1, e1⟩ := S.onT (f := f3) hq
    rw [eq_inTime g (by omega) hj hw 12 (Nat.le_refl _)]
    generalize tH h _ _ = h1 at S1 e1 ⊢
    have g1 : HS h b (hi h1 51) m L e mi := by rw [e1]; exact g
    refine M_inTime S1.1.1 S1.1.2.2.1 g1.cnt g1.skm (fun y => (bad y j hj ht (rng hu hw (by decide))).elim) (fun j2 hj2 ht2 _ hg2 => (hg ?_).elim) (fun j2 hj2 ht2 _ hg2 x y => ⟨?_, S1.onK.s⟩)
    · rw [nI_inj (ht2.symm.trans ht) (by omega) (by omega), e1] at hg2; exact (g.gon j hj).mpr hg2
    · rw [nI_inj (ht2.symm.trans ht) (by omega) (by omega), e1, hu]
theorem P_flips {t u w : Int32} (S : SimAt h b c) : Pair 118 217 [vI t, vI u, vI w] h := by
  obtain ⟨m, L, e, mi, y2, g⟩ := S.y
  have hm := g.2.1.1
  have bad : (¬ inR t m ∨ ¬ (1 ≤ u ∧ u ≤ 12) ∨ ¬ (0 ≤ w ∧ w ≤ 1)) → ∀ j, j < m → t = nI j → (1 ≤ u ∧ u ≤ 12) → (0 ≤ w ∧ w ≤ 1) → False := fun y j hj ht hu hw => y.elim (fun z => nin z (by omega) hj ht) (fun z => z.elim (fun z => z hu) (fun z => z hw))
  refine C_flips (g.gi S.1) S.1.b S.1.t16 g.bz (fun y => ⟨_, rfl, ?_⟩) (fun j hj ht hu hw hg => ⟨_, rfl, ?_⟩) (fun j hj ht n n1 n2 hu hw hg f3 => ⟨_, rfl, ?_⟩)
  · exact M_flips S.1.1 S.1.2.2.1 g.cnt g.skm (fun _ => ⟨rfl, S.s⟩) (fun j hj ht k k1 k2 hn hw _ => (bad y j hj ht (rng1 hn k1 k2 (by decide)) hw).elim) (fun j hj ht k k1 k2 hn hw _ _ _ => (bad y j hj ht (rng1 hn k1 k2 (by decide)) hw).elim)
  · refine M_flips S.1.1 S.1.2.2.1 g.cnt g.skm (fun y => (bad y j hj ht hu hw).elim) (fun _ _ _ _ _ _ _ _ _ => ⟨rfl, S.s⟩) (fun j2 hj2 ht2 k k1 k2 hn hw2 hg2 _ _ => (hg ?_).elim)
    rw [nI_inj (ht2.symm.trans ht) (by omega) (by omega)] at hg2; exact ((g.tr j hj).on).mpr hg2
  · obtain ⟨S0, e0⟩ := S.w (x := 49) (W := mix (fwF h b L (hi h (b + 8 + j) 2)) (hi h 49) 0 n) (by decide)
    obtain ⟨S2, e2⟩ := S0.b15 (v := oN (cfO h b L j n))
    obtain ⟨S1, e1⟩ := S2.onT (f := f3) (S.1.2.2.2.2.2.2.2.1 j (by omega)).2
    replace e1 := e1.trans (e2.trans e0)
    rw [eq_flips g S.1.b (by omega) hj hg n2 hw]
    show Spec 40 217 _ (tH (seti (setw h 49 (mix (fwF h b L (hi h (b + 8 + j) 2)) (hi h 49) 0 n)) 0 15 (oN (cfO h b L j n))) (kq h (b + 8 + j)) f3) _
    generalize tH _ _ _ = h1 at S1 e1 ⊢
    have g1 : HS h b (hi h1 51) m L e mi := by rw [e1]; exact g
    refine M_flips S1.1.1 S1.1.2.2.1 g1.cnt g1.skm (fun y => (bad y j hj ht (rng1 hu n1 n2 (by decide)) hw).elim) (fun j2 hj2 ht2 k k1 k2 hn hw2 hg2 => (hg2 ?_).elim) (fun j2 hj2 ht2 k k1 k2 hn hw2 hg2 x y => ⟨?_, S1.onK.s⟩)
    · rw [nI_inj (ht2.symm.trans ht) (by omega) (by omega), e1]; exact ((g.tr j hj).on).mp hg
    · rw [nI_inj (ht2.symm.trans ht) (by omega) (by omega), nI_inj (hn.symm.trans hu) (by omega) (by omega), e1]
end Sn
