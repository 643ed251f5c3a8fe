/-! pairs: start, fuel, serving; the pieces moved one by one (by hand) -/
section So
variable {h h' : Hp} {b c : Nat}
theorem SimB.cg (S : SimB h b c) (h1 : hn h' = hn h) (h2 : hr h' = hr h) (h3 : ∀ q, q < 6 → hi h' (10 + q) = hi h (10 + q)) (h4 : ST h h') : SimB h' b c := by
  obtain ⟨s1, s2, s3, s4, s5, s6, s7, s8, s9, s10⟩ := S
  have ek : ∀ o, kq h' o = kq h o := fun o => by unfold kq; rw [h2]
  refine ⟨h1.trans s1, s2.of (fun x y _ _ => by rw [h2]), fun q hq => by rw [h2]; exact s3 q hq, fun q hq => by rw [h3 q hq]; exact s4 q hq, by rw [h2]; exact s5, by rw [h2]; exact s6, s7, s8.mv (fun i _ => by rw [h2]), s9.mv (fun i _ => by rw [h2]), ?_⟩
  refine ⟨?_, s10.2.st h4⟩
  unfold T16; rw [ek, h2]; exact s10.1
theorem SimR.cg (S : SimR h) (h2 : hi h' 2 = hi h 2) (h3 : hi h' 3 = hi h 3) (h4 : hi h' 4 = hi h 4) (h5 : hi h' 55 = hi h 55) (h6 : hi h' 56 = hi h 56) (h7 : hi h' 57 = hi h 57) : SimR h' := by
  unfold SimR; rw [h2, h3, h4, h5, h6, h7]; exact S
theorem SimT.cg (S : SimT h) (h5 : hi h' 5 1 = hi h 5 1) (h6 : hi h' 6 = hi h 6) (h7 : hi h' 58 = hi h 58) (h8 : hi h' 50 10 = hi h 50 10) (h9 : hi h' 50 16 = hi h 50 16) (h10 : hi h' 5 5 = hi h 5 5) : SimT h' := by
  unfold SimT; rw [h5, h6, h7, h8, h9, h10]; exact S
theorem SimP.cg (S : SimP h) (h1 : hi h' 7 1 = hi h 7 1) (h2 : hi h' 8 = hi h 8) (h3 : hi h' 64 = hi h 64) (h4 : hi h' 50 23 = hi h 50 23) : SimP h' := by
  unfold SimP; rw [h1, h2, h3, h4]; exact S
theorem SimY.cg (S : SimY h b) (h0 : hi h' 0 7 = hi h 0 7) (h1 : hi h' 51 = hi h 51) (h2 : ∀ x, b ≤ x → x < b + 14 → hi h' x = hi h x) (h3 : hr h' = hr h) : SimY h' b := by
  obtain ⟨y1, m, L, e, mi, y2, y3⟩ := S
  refine ⟨by rw [h0, h1]; exact y1, m, L, e, mi, y2, y3.mv h2 (fun i _ => by rw [h3]) (fun i _ => by rw [h1])⟩
theorem SimU.cg (S : SimU h) (h0 : hi h' 0 9 = hi h 0 9) (h1 : hi h' 0 10 = hi h 0 10) (h2 : hi h' 50 4 = hi h 50 4) (h3 : hi h' 45 = hi h 45) (h4 : hi h' 54 = hi h 54) (h5 : hi h' 51 = hi h 51) : SimU h' := by
  unfold SimU; rw [h0, h1, h2, h3, h4, h5]; exact S
theorem SimI.cg (S : SimI h) (h3 : hi h' 46 = hi h 46) (h4 : hi h' 47 = hi h 47) (h5 : hi h' 51 0 = hi h 51 0) (h6 : hi h' 52 = hi h 52) (h7 : hi h' 53 = hi h 53) : SimI h' := by
  unfold SimI; rw [h3, h4, h5, h6, h7]; exact S
/-- the status alone -/
theorem SimAt.stat (S : SimAt h b c) (h1 : hn h' = hn h) (h2 : hr h' = hr h) (h3 : ∀ x, x ≠ 0 → x ≠ 50 → hi h' x = hi h x) (h4 : ∀ j, j ≠ 16 → hi h' 0 j = hi h 0 j) (h5 : ∀ j, j ≠ 8 → hi h' 50 j = hi h 50 j) (h6 : hi h' 0 16 = hi h' 50 8) : SimAt h' b c := by
  have hb := S.1.b
  obtain ⟨sB, sR, _, sT, sP, sY, sU, sI⟩ := S
  exact ⟨sB.cg h1 h2 (fun q hq => h3 _ (by omega) (by omega)) (fun x hx => by rw [h3 x (by omega) (by omega)]), sR.cg (h3 _ (by decide) (by decide)) (h3 _ (by decide) (by decide)) (h3 _ (by decide) (by decide)) (h3 _ (by decide) (by decide)) (h3 _ (by decide) (by decide)) (h3 _ (by decide) (by decide)), h6,
    sT.cg (by rw [h3 5 (by decide) (by decide)]) (h3 _ (by decide) (by decide)) (h3 _ (by decide) (by decide)) (h5 _ (by decide)) (h5 _ (by decide)) (by rw [h3 5 (by decide) (by decide)]), sP.cg (by rw [h3 7 (by decide) (by decide)]) (h3 _ (by decide) (by decide)) (h3 _ (by decide) (by decide)) (h5 _ (by decide)),
    sY.cg (h4 _ (by decide)) (h3 _ (by decide) (by decide)) (fun x x1 x2 => h3 _ (by omega) (by omega)) h2, sU.cg (h4 _ (by decide)) (h4 _ (by decide)) (h5 _ (by decide)) (h3 _ (by decide) (by decide)) (h3 _ (by decide) (by decide)) (h3 _ (by decide) (by decide)), sI.cg (h3 _ (by decide) (by decide)) (h3 _ (by decide) (by decide)) (by rw [h3 51 (by decide) (by decide)]) (h3 _ (by decide) (by decide)) (h3 _ (by decide) (by decide))⟩
theorem SimAt.st2 {v : Int32} (S : SimAt h b c) : SimAt (seti (seti h 0 16 v) 50 8 v) b c := by
  refine S.stat rfl rfl (fun x x0 x1 => by rw [hi_seti_ne _ _ _ _ _ x1, hi_seti_ne _ _ _ _ _ x0]) (fun j hj => ?_) (fun j hj => ?_) ?_
  · rw [hi_seti_ne _ _ _ _ _ (by decide), hi_seti, if_neg (by omega)]
  · rw [hi_seti, if_neg (by omega), hi_seti_ne _ _ _ _ _ (by decide)]
  · rw [hi_seti_ne _ _ _ _ _ (by decide), hi_seti, if_pos ⟨rfl, rfl⟩, hi_seti, if_pos ⟨rfl, rfl⟩]
theorem P_start {t u w : Int32} (S : SimAt h b c) : Pair 123 218 [vI t, vI u, vI w] h := by
  obtain ⟨m, L, e, mi, y2, g⟩ := S.y
  have hm := g.2.1.1
  have bad : (¬ inR t m ∨ ¬ (0 ≤ u ∧ u ≤ 11) ∨ ¬ (1 ≤ w ∧ w ≤ 60)) → ∀ j, j < m → t = nI j → (0 ≤ u ∧ u ≤ 11) → (1 ≤ w ∧ w ≤ 60) → False := fun y j hj ht hu hw => y.elim (fun z => nin z (by omega) hj ht) (fun z => z.elim (fun z => z hu) (fun z => z hw))
  have u12 : (0 ≤ u ∧ u ≤ 11) → (0 ≤ u ∧ u ≤ 12) := fun y => ⟨y.1, Int32.le_trans y.2 (by decide)⟩
  have cs : ∀ j, j < m → (0 ≤ u ∧ u ≤ 11) → ((hi h (b + 8 + j) 2 = 13 ∨ ¬ opC (plF h b) m j u) ↔ (goneI (hi h 51) j ∨ takI (hi h 51) m j u)) := fun j hj hu => by
    rw [g.gon j hj, open_iff g hj (u12 hu), Classical.not_not]
  refine C_start (g.gi S.1) S.1.b S.1.t16 g.bz (fun y => ⟨_, rfl, ?_⟩) (fun j hj ht hu hw hg => ⟨_, rfl, ?_⟩) (fun j hj ht hu n n1 n2 hw hg ho q f3 hq => ⟨_, rfl, ?_⟩)
  · exact M_start S.1.1 S.1.2.2.1 g.cnt g.skm (fun _ => ⟨rfl, S.s⟩) (fun j hj ht hu k k1 k2 hn _ => (bad y j hj ht hu (rng1 hn k1 k2 (by decide))).elim) (fun j hj ht hu k k1 k2 hn _ _ _ _ => (bad y j hj ht hu (rng1 hn k1 k2 (by decide))).elim)
  · refine M_start S.1.1 S.1.2.2.1 g.cnt g.skm (fun y => (bad y j hj ht hu hw).elim) (fun _ _ _ _ _ _ _ _ _ => ⟨rfl, S.s⟩) (fun j2 hj2 ht2 _ k k1 k2 hn hg2 ht3 _ _ => ?_)
    rw [nI_inj (ht2.symm.trans ht) (by omega) (by omega)] at hg2 ht3
    exact (((cs j hj hu).mp hg).elim (fun z => hg2 z) (fun z => ht3 z)).elim
  · obtain ⟨S2, e2⟩ := S.w (x := 49) (W := mix (fwF h b L u) (hi h 49) 0 n) (by decide)
    obtain ⟨S1, e1⟩ := S2.onT (f := f3) hq
    replace e1 := e1.trans e2
    have tk := (open_iff g hj (u12 hu)).mp ho
    rw [eq_start g S.1.b (by omega) hj hu n2 tk _ (Nat.le_refl _)]
    show Spec 40 218 _ (tH (setw h 49 (mix (fwF h b L u) (hi h 49) 0 n)) q f3) _
    generalize tH _ _ _ = h1 at S1 e1 ⊢
    have g1 : HS h b (hi h1 51) m L e mi := by rw [e1]; exact g
    refine M_start S1.1.1 S1.1.2.2.1 g1.cnt g1.skm (fun y => (bad y j hj ht hu (rng1 hw n1 n2 (by decide))).elim) (fun j2 hj2 ht2 _ k k1 k2 hn hg2 => ?_) (fun j2 hj2 ht2 _ k k1 k2 hn hg2 _ x y => ⟨?_, S1.onK.s⟩)
    · rw [nI_inj (ht2.symm.trans ht) (by omega) (by omega), e1] at hg2
      exact (hg2.elim (fun z => hg ((g.gon j hj).mpr z)) (fun z => tk z)).elim
    · rw [nI_inj (ht2.symm.trans ht) (by omega) (by omega), nI_inj (hn.symm.trans hw) (by omega) (by omega), e1]
theorem P_fuelFor {t w : Int32} (S : SimAt h b c) : Pair 125 219 [vI t, vI w] h := by
  obtain ⟨m, L, e, mi, y2, g⟩ := S.y
  have hm := g.2.1.1
  have bad : (¬ inR t m ∨ ¬ (1 ≤ w ∧ w ≤ 60)) → ∀ j, j < m → t = nI j → ∀ n, 1 ≤ n → n ≤ 60 → w = nI n → False := fun y j hj ht n n1 n2 hw => y.elim (fun z => nin z (by omega) hj ht) (fun z => z (rng1 hw n1 n2 (by decide)))
  refine C_fuelFor (g.gi S.1) S.1.b S.1.t16 g.bz (fun y => ⟨_, rfl, ?_⟩) (fun j hj ht n n1 n2 hw hg => ⟨_, rfl, ?_⟩) (fun j hj ht n n1 n2 hw hg h8 => ⟨_, rfl, ?_⟩) (fun j hj ht n n1 n2 hw hg h8 q f3 hq => ⟨_, rfl, ?_⟩)
  · exact M_fuelFor S.1.1 S.1.2.2.1 g.cnt g.skm (fun _ => ⟨rfl, S.s⟩) (fun j hj ht k k1 k2 hn _ => (bad y j hj ht k k1 k2 hn).elim) (fun j hj ht k k1 k2 hn _ _ => (bad y j hj ht k k1 k2 hn).elim) (fun j hj ht k k1 k2 hn _ _ _ _ => (bad y j hj ht k k1 k2 hn).elim)
  · refine M_fuelFor S.1.1 S.1.2.2.1 g.cnt g.skm (fun y => (bad y j hj ht n n1 n2 hw).elim) (fun _ _ _ _ _ _ _ _ => ⟨rfl, S.s⟩) (fun j2 hj2 ht2 k k1 k2 hn hg2 _ => (hg ?_).elim) (fun j2 hj2 ht2 k k1 k2 hn hg2 _ _ _ => (hg ?_).elim)
    all_goals rw [nI_inj (ht2.symm.trans ht) (by omega) (by omega)] at hg2; exact ((g.tr j hj).on).mpr hg2
  · refine M_fuelFor S.1.1 S.1.2.2.1 g.cnt g.skm (fun y => (bad y j hj ht n n1 n2 hw).elim) (fun j2 hj2 ht2 k k1 k2 hn hg2 => (hg2 ?_).elim) (fun _ _ _ _ _ _ _ _ _ => ⟨rfl, S.s⟩) (fun _ _ _ _ _ _ _ _ z _ _ => by omega)
    rw [nI_inj (ht2.symm.trans ht) (by omega) (by omega)]; exact ((g.tr j hj).on).mp hg
  · obtain ⟨S2, e2⟩ := S.w (x := 49) (W := mix (fwF h b L (hi h (b + 8 + j) 2)) (hi h 49) 0 n) (by decide)
    obtain ⟨S1, e1⟩ := S2.onT (f := f3) hq
    replace e1 := e1.trans e2
    rw [eq_fuelFor g S.1.b (by omega) hj hg n2 h8 31 0 rfl]
    show Spec 40 219 _ (tH (setw h 49 (mix (fwF h b L (hi h (b + 8 + j) 2)) (hi h 49) 0 n)) q f3) _
    generalize tH _ _ _ = h1 at S1 e1 ⊢
    have g1 : HS h b (hi h1 51) m L e mi := by rw [e1]; exact g
    refine M_fuelFor S1.1.1 S1.1.2.2.1 g1.cnt g1.skm (fun y => (bad y j hj ht n n1 n2 hw).elim) (fun j2 hj2 ht2 k k1 k2 hn hg2 => (hg2 ?_).elim) (fun _ _ _ _ _ _ _ _ z => by omega) (fun j2 hj2 ht2 k k1 k2 hn hg2 _ x y => ⟨?_, S1.onK.s⟩)
    · rw [nI_inj (ht2.symm.trans ht) (by omega) (by omega), e1]; exact ((g.tr j hj).on).mp hg
    · rw [nI_inj (ht2.symm.trans ht) (by omega) (by omega), nI_inj (hn.symm.trans hw) (by omega) (by omega), e1]
theorem P_fuel (S : SimAt h b c) : Pair 134 229 [] h := by
  obtain ⟨m, L, e, mi, y2, g⟩ := S.y
  have st := st01 S g
  refine C_fuel (g.gi S.1) S.1.b (fun z => ⟨_, rfl, ?_⟩) (fun z => ⟨_, rfl, ?_⟩)
  · exact M_fuel S.1.1 S.1.2.2.1 g.cnt g.sk (fun _ => ⟨rfl, S.s⟩) (fun w _ _ => (st.mp z w).elim)
  · rw [eq_fuel g (g.s0 S z) (by omega)]
    exact M_fuel S.1.1 S.1.2.2.1 g.cnt g.sk (fun w => (z (st.mpr w)).elim) (fun _ _ _ => ⟨rfl, S.onK.s⟩)
theorem ea_iff {ea : Int32} {e : Nat} (he : e ≤ 4) : (-1 ≤ ea ∧ ea ≤ nI e - 1) ↔ (ea = -1 ∨ inR ea e) := by
  have h1 : (nI e - 1).toInt = (e : Int) - 1 := by rcases (show e = 0 ∨ e = 1 ∨ e = 2 ∨ e = 3 ∨ e = 4 by omega) with rfl | rfl | rfl | rfl | rfl <;> decide
  have h2 : (-1 : Int32).toInt = -1 := by decide
  have h3 : (0 : Int32).toInt = 0 := by decide
  unfold inR
  rw [Int32.le_iff_toInt_le, Int32.le_iff_toInt_le, Int32.le_iff_toInt_le, h1, h2, h3, ← Int32.toInt_inj, h2]
  omega
theorem P_servable {u x : Int32} (S : SimAt h b c) : Pair 127 222 [vI u, vI x] h := by
  obtain ⟨m, L, e, mi, y2, g⟩ := S.y
  have hm := g.2.1.1
  have he := g.2.1.2.2
  have st := st01 S g
  have ei := ea_iff (ea := x) he
  refine C_servable (g.gi S.1) S.1.b S.1.t16 g.bz (fun z => ⟨_, rfl, ?_⟩) (fun z y => ⟨_, rfl, ?_⟩) (fun z n hn hu hx q f3 hq => ⟨_, rfl, ?_⟩) (fun z n hn hu v hv hx q f3 hq => ⟨_, rfl, ?_⟩)
  · exact M_servable S.1.1 S.1.2.2.1 g.cnt g.sk (fun _ => ⟨rfl, S.s⟩) (fun w _ => (st.mp z w).elim) (fun w _ _ _ _ _ _ _ _ _ _ => (st.mp z w).elim) (fun w _ _ _ _ _ _ _ _ _ _ _ => (st.mp z w).elim)
  · refine M_servable S.1.1 S.1.2.2.1 g.cnt g.sk (fun w => (z (st.mpr w)).elim) (fun _ _ => ⟨rfl, S.s⟩) (fun _ k hk hn _ hr _ _ _ _ _ => ?_) (fun _ k hk hn v hv hx _ _ _ _ _ => ?_)
    · exact (y.elim (fun w => w (rng hn hk (by decide))) (fun w => (ei.mp hr).elim w.1 w.2)).elim
    · exact (y.elim (fun w => w (rng hn hk (by decide))) (fun w => w.2 (inr2 (by omega) ⟨v, hv, hx⟩))).elim
  · obtain ⟨S1, e1⟩ := S.onT (f := f3) hq
    have ev : ∀ CB : Nat → Int32, (∀ t, t < m → CB t = cbF (gmN (hi h 51) m L n) t) → _ := fun CB hC => eq_most g (by omega) hn hC
    generalize tH _ _ _ = h1 at S1 e1 ⊢
    have g1 : HS h b (hi h1 51) m L e mi := by rw [e1]; exact g
    refine M_servable S1.1.1 S1.1.2.2.1 g1.cnt g1.sk (fun w => (z (st.mpr (e1 ▸ w))).elim) (fun _ w => (w.elim (fun w => w (rng hu hn (by decide))) (fun w => w (ei.mpr (Or.inl hx)))).elim) (fun _ k hk hn2 _ _ CB hC _ _ _ => ⟨?_, S1.onV.s⟩) (fun _ k hk hn2 v hv hx2 _ _ _ _ _ => ?_)
    · rw [nI_inj (hn2.symm.trans hu) (by omega) (by omega), e1] at hC ⊢
      rw [ev CB hC]
    · rw [hx] at hx2
      have zz : (0 : Int32) ≤ nI v := nI_pos' (by omega)
      rw [← hx2] at zz
      exact absurd zz (by decide)
  · obtain ⟨S1, e1⟩ := S.onT (f := f3) hq
    have ev : ∀ CB : Nat → Int32, (∀ t, t < m → CB t = cbF (gmN (hi h 51) m L n) t) → _ := fun CB hC => eq_gets g (by omega) hn hC hv
    generalize tH _ _ _ = h1 at S1 e1 ⊢
    have g1 : HS h b (hi h1 51) m L e mi := by rw [e1]; exact g
    refine M_servable S1.1.1 S1.1.2.2.1 g1.cnt g1.sk (fun w => (z (st.mpr (e1 ▸ w))).elim) (fun _ w => (w.elim (fun w => w (rng hu hn (by decide))) (fun w => w (ei.mpr (Or.inr (inr2 (by omega) ⟨v, hv, hx⟩))))).elim) (fun _ k hk hn2 hx2 _ CB hC _ _ _ => ?_) (fun _ k hk hn2 v2 hv2 hx2 CB hC _ _ _ => ⟨?_, S1.onV.s⟩)
    · rw [hx] at hx2
      exact absurd hx2 (Int32.not_lt.mpr (nI_pos' (by omega)))
    · rw [nI_inj (hn2.symm.trans hu) (by omega) (by omega), e1] at hC
      rw [nI_inj (hn2.symm.trans hu) (by omega) (by omega), e1, nI_inj (hx2.symm.trans hx) (by omega) (by omega), ev CB hC]
theorem SimAt.spare (S : SimAt h b c) (h1 : hn h' = hn h) (h2 : ∀ x y, ¬ (c + 8 ≤ x ∧ x < c + 14 ∧ y = 1) → hr h' x y = hr h x y) (h3 : ∀ x, x ≠ 48 → ¬ (c ≤ x ∧ x < c + 14) → hi h' x = hi h x) (h4 : KT h' c) (h5 : ∀ i, i < 6 → hi h' (c + 8 + i) 0 = hi h (c + 8 + i) 0) : SimAt h' b c ∧ hi h' 51 = hi h 51 := by
  have hc := S.1.c
  have hst : ST h h' := fun x hx => by
    by_cases w : c + 8 ≤ x ∧ x < c + 14
    · have z := h5 (x - (c + 8)) (by omega)
      rw [show c + 8 + (x - (c + 8)) = x by omega] at z; exact z
    · rw [h3 x (by omega) (by omega)]
  refine ⟨S.junk h1 (fun x y hx => h2 x y (by omega)) (fun x _ _ _ x1 _ _ _ _ _ _ _ x2 => h3 x x1 x2) (fun j _ => by rw [h3 0 (by decide) (by omega)]) (fun j _ => by rw [h3 5 (by decide) (by omega)]) (fun j _ => by rw [h3 50 (by decide) (by omega)]) ?_ h4 hst, h3 51 (by decide) (by omega)⟩
  have e : hr h' 16 1 = hr h 16 1 := h2 _ _ (by omega)
  have ek : kq h' 16 = kq h 16 := by unfold kq; rw [e]
  unfold T16; rw [ek, e]; exact S.1.t16
theorem tw_hs {s : Nat → Int32} {m L e mi : Nat} (g : HS h b s m L e mi) (S : SimB h b c) : HS (twH h b c) c s m L e mi := by
  refine IM.hs S.c (by decide) (g.im S.2.2.2.2.2.2.2.1 (fun r hr => ?_))
  show hi (imA h b 48 0 84) 48 (0 + r) = _
  unfold imA
  rw [hi_setw_row, mix_in _ _ (by omega), Nat.zero_add r]
  rfl
theorem fpO_k {m L : Nat} {o : Option Nat} (hm : m ≤ 6) (ho : ∀ i, o = some i → i < 6) : hn (psH (fpO h c o) c m L) = hn h ∧ hr (psH (fpO h c o) c m L) = hr h ∧ ∀ x, ¬ (c ≤ x ∧ x < c + 14) → hi (psH (fpO h c o) c m L) x = hi h x := by
  cases o with
  | none => exact ⟨rfl, rfl, fun x hx => psH_o hm hx⟩
  | some i =>
    have := ho i rfl
    refine ⟨rfl, rfl, fun x hx => ?_⟩
    rw [psH_o hm hx]
    exact fpH_o (by omega)
theorem hcH_k {m L : Nat} (hm : m ≤ 6) : ∀ k, hn (hcH h c m L k) = hn h ∧ hr (hcH h c m L k) = hr h ∧ ∀ x, ¬ (c ≤ x ∧ x < c + 14) → hi (hcH h c m L k) x = hi h x := by
  intro k
  induction k with
  | zero => exact ⟨rfl, rfl, fun _ _ => rfl⟩
  | succ k ih =>
    obtain ⟨a1, a2, a3⟩ := fpO_k (h := hcH h c m L k) (c := c) (L := L) hm (fun i hi0 => by have := hcF_lt (h := hcH h c m L k) (c := c) (m := m) hi0; omega)
    exact ⟨a1.trans ih.1, a2.trans ih.2.1, fun x hx => (a3 x hx).trans (ih.2.2 x hx)⟩
theorem jcH_k {g : Nat → Int32} {m L at0 : Nat} (hm : m ≤ 6) : ∀ k, hn (jcH h g c m L at0 k) = hn h ∧ hr (jcH h g c m L at0 k) = hr h ∧ ∀ x, ¬ (c ≤ x ∧ x < c + 14) → hi (jcH h g c m L at0 k) x = hi h x := by
  intro k
  induction k with
  | zero => exact ⟨rfl, rfl, fun _ _ => rfl⟩
  | succ k ih =>
    obtain ⟨a1, a2, a3⟩ := fpO_k (h := jcH h g c m L at0 k) (c := c) (L := L) (o := jcO m (g (at0 + k))) hm (fun i hi0 => by have := jcO_lt hm hi0; omega)
    exact ⟨a1.trans ih.1, a2.trans ih.2.1, fun x hx => (a3 x hx).trans (ih.2.2 x hx)⟩
theorem roast_0 (q : Nat) (x y : Int32) (f : Nat → Int32) : roastV q x y f 0 = f 0 := by
  have e1 : ∀ g : Nat → Int32, ro1 q x y g 0 = g 0 := fun g => rfl
  have e2 : ∀ g : Nat → Int32, ro2 g 0 = g 0 := fun g => rfl
  have e3 : ∀ g : Nat → Int32, ro3 q g 0 = g 0 := fun g => rfl
  have e4 : ∀ g : Nat → Int32, ro4 q g 0 = g 0 := fun g => rfl
  unfold roastV
  rw [e4, e3, e2, e1]
theorem rs_0 (y cc cf cr : Nat → Int32) (L q : Nat) (n : Int32) (f : Nat → Int32) : rsV y cc cf cr L q n f 0 = f 0 := by
  unfold rsV
  split
  · exact roast_0 _ _ _ _
  · split
    · rfl
    · rfl
theorem ps_0 {m L i : Nat} (hc : c = 17 ∨ c = 31) (hi0 : i < 6) : hi (psH h c m L) (c + 8 + i) 0 = hi h (c + 8 + i) 0 := by
  unfold psH psA
  rw [hi_seti_ne _ _ _ _ _ (by omega), hi_setw_ne _ _ _ _ (by omega), hi_setw_ne _ _ _ _ (by omega), thW_hi]
  split
  · rw [show c + 8 + i - (c + 8) = i by omega]; exact rs_0 _ _ _ _ _ _ _ _
  · rfl
theorem fp_0 {i : Nat} {o : Option Nat} : hi (fpO h c o) (c + 8 + i) 0 = hi h (c + 8 + i) 0 := by
  cases o with
  | none => rfl
  | some j =>
    show hi (fpH h c j) (c + 8 + i) 0 = _
    by_cases w : i = j
    · rw [w]; unfold fpH; rw [hi_setw_row]; rfl
    · rw [fpH_o (by omega)]
theorem ld_0 {a j i : Nat} (hb : b = 17 ∨ b = 31) (hi0 : i < 6) : hi (ldH h b a j 6) (b + 8 + i) 0 = hi h (b + 8 + i) 0 := by
  unfold ldH
  rw [thR_in _ _ _ _ _ _ hi0]
  rfl
theorem tw_0 {i : Nat} (hb : b = 17 ∨ b = 31) (hc : c = 17 ∨ c = 31) (hi0 : i < 6) : hi (twH h b c) (c + 8 + i) 0 = hi h (c + 8 + i) 0 := by
  unfold twH
  rw [ld_0 hc hi0, imA_o (by omega)]
theorem hc_0 {m L : Nat} (hc : c = 17 ∨ c = 31) (hm : m ≤ 6) : ∀ k i, i < 6 → hi (hcH h c m L k) (c + 8 + i) 0 = hi h (c + 8 + i) 0 := by
  intro k
  induction k with
  | zero => intro i _; rfl
  | succ k ih => intro i hi0; unfold hcH; rw [ps_0 hc hi0, fp_0]; exact ih i hi0
theorem jc_0 {g : Nat → Int32} {m L at0 : Nat} (hc : c = 17 ∨ c = 31) (hm : m ≤ 6) : ∀ k i, i < 6 → hi (jcH h g c m L at0 k) (c + 8 + i) 0 = hi h (c + 8 + i) 0 := by
  intro k
  induction k with
  | zero => intro i _; rfl
  | succ k ih => intro i hi0; unfold jcH; rw [ps_0 hc hi0, fp_0]; exact ih i hi0
theorem SimAt.tw {m L e : Nat} (S : SimAt h b c) (hm : m ≤ 6) (gs : GS h' c m L e) (h1 : hn h' = hn (twH h b c)) (h2 : hr h' = hr (twH h b c)) (h3 : ∀ x, ¬ (c ≤ x ∧ x < c + 14) → hi h' x = hi (twH h b c) x) (h4 : ∀ i, i < 6 → hi h' (c + 8 + i) 0 = hi (twH h b c) (c + 8 + i) 0) : SimAt h' b c ∧ hi h' 51 = hi h 51 := by
  refine S.spare (h1.trans rfl) (fun x y hx => ?_) (fun x hx hx2 => ?_) gs.2.2.2.2.2 (fun i hi0 => (h4 i hi0).trans (tw_0 S.1.b S.1.c hi0))
  · rw [h2]; exact ldH_hr (by omega)
  · rw [h3 x hx2]; exact twH_o hx (by omega)
theorem P_hand {u w : Int32} (S : SimAt h b c) : Pair 130 225 [vI u, vI w] h := by
  obtain ⟨m, L, e, mi, y2, g⟩ := S.y
  have hm := g.2.1.1
  have st := st01 S g
  have bad : (¬ (1 ≤ u ∧ u ≤ 60) ∨ ¬ (0 ≤ w ∧ w ≤ 2)) → (1 ≤ u ∧ u ≤ 60) → (0 ≤ w ∧ w ≤ 2) → False := fun y p q => y.elim (fun z => z p) (fun z => z q)
  refine C_hand (g.gi S.1) S.1.b S.1.c S.1.2.2.2.2.2.1 (fun z => ⟨_, rfl, ?_⟩) (fun z y => ⟨_, rfl, ?_⟩) (fun z n n1 n2 hu w' hw' hw => ⟨_, rfl, ?_⟩)
  · exact M_hand S.1.1 S.1.2.2.1 g.cnt g.sk (fun _ => ⟨rfl, S.s⟩) (fun w _ => (st.mp z w).elim) (fun w _ _ _ _ _ _ _ => (st.mp z w).elim)
  · exact M_hand S.1.1 S.1.2.2.1 g.cnt g.sk (fun w => (z (st.mpr w)).elim) (fun _ _ => ⟨rfl, S.s⟩) (fun _ k k1 k2 hn hw _ _ => (bad y (rng1 hn k1 k2 (by decide)) hw).elim)
  · have tw := tw_hs g S.1
    obtain ⟨a1, a2, a3⟩ := hcH_k (h := twH h b c) (c := c) (L := L) hm n
    obtain ⟨S1, e1⟩ := S.tw hm (hcH_gs (twH_gs (g.gi S.1) S.1.b S.1.c S.1.2.2.2.2.2.1) S.1.c n) a1 a2 a3 (hc_0 S.1.c hm n)
    rw [eq_hand tw S.1.c (g.s0 S z) (by omega) hw']
    generalize hcH _ _ _ _ _ = h1 at S1 e1 ⊢
    have g1 : HS h b (hi h1 51) m L e mi := by rw [e1]; exact g
    refine M_hand S1.1.1 S1.1.2.2.1 g1.cnt g1.sk (fun w => (z (st.mpr (e1 ▸ w))).elim) (fun _ y => (bad y (rng1 hu n1 n2 (by decide)) (rng hw hw' (by decide))).elim) (fun _ k k1 k2 hn hw2 x y => ⟨?_, S1.onK.s⟩)
    rw [nI_inj (hn.symm.trans hu) (by omega) (by omega), e1, hw]
theorem rg_iff {i n : Int32} {z : Nat} (hz : z ≤ 40) : (0 ≤ i ∧ 0 ≤ n ∧ n ≤ nI z ∧ i ≤ nI z - n) ↔ (0 ≤ i ∧ 0 ≤ n ∧ i.toInt + n.toInt ≤ (nI z).toInt) := by
  have ez : (nI z).toInt = z := nI_toInt (by omega)
  have e0 : (0 : Int32).toInt = 0 := by decide
  have es : 0 ≤ n.toInt → n.toInt ≤ z → (nI z - n).toInt = z - n.toInt := fun h1 h2 => by
    rw [Int32.toInt_sub, ez]
    exact Int.bmod_eq_of_le (by omega) (by omega)
  rw [Int32.le_iff_toInt_le, Int32.le_iff_toInt_le, Int32.le_iff_toInt_le, Int32.le_iff_toInt_le, ez, e0]
  constructor
  · rintro ⟨h1, h2, h3, h4⟩
    rw [es h2 h3] at h4
    exact ⟨h1, h2, by omega⟩
  · rintro ⟨h1, h2, h3⟩
    exact ⟨h1, h2, by omega, by rw [es h2 (by omega)]; omega⟩
end So
