/-! pairs: judged; the rows (by hand) -/
section Sp
variable {h h' : Hp} {b c : Nat}
theorem SimAt.st3 {v : Int32} {x y : Nat → Int32} (S : SimAt h b c) : SimAt (seti (jk (seti h 0 16 v) x y) 50 8 v) b c := by
  have e : ∀ z, z ≠ 0 → z ≠ 50 → hi (seti (jk (seti h 0 16 v) x y) 50 8 v) z = hi (jk h x y) z := fun z z0 z1 => by
    rw [hi_seti_ne _ _ _ _ _ z1]
    show hi (setw (setw (seti h 0 16 v) 61 y) 60 x) z = hi (setw (setw h 61 y) 60 x) z
    by_cases w : z = 60
    · rw [w, hi_setw_row, hi_setw_row]
    · rw [hi_setw_ne _ _ _ _ w, hi_setw_ne _ _ _ _ w]
      by_cases w2 : z = 61
      · rw [w2, hi_setw_row, hi_setw_row]
      · rw [hi_setw_ne _ _ _ _ w2, hi_setw_ne _ _ _ _ w2, hi_seti_ne _ _ _ _ _ z0]
  have e0 : hi (seti (jk (seti h 0 16 v) x y) 50 8 v) 0 = upd (hi h 0) 16 v := by
    rw [hi_seti_ne _ _ _ _ _ (by decide), hi_setw_ne _ _ _ _ (by decide), hi_setw_ne _ _ _ _ (by decide), hi_seti_row]
  have e5 : hi (seti (jk (seti h 0 16 v) x y) 50 8 v) 50 = upd (hi h 50) 8 v := by
    rw [hi_seti_row, hi_setw_ne _ _ _ _ (by decide), hi_setw_ne _ _ _ _ (by decide), hi_seti_ne _ _ _ _ _ (by decide)]
  refine (S.onK (x := x) (y := y)).stat rfl rfl e (fun j hj => ?_) (fun j hj => ?_) ?_
  · rw [e0, upd_ne _ _ _ hj, hi_setw_ne _ _ _ _ (by decide), hi_setw_ne _ _ _ _ (by decide)]
  · rw [e5, upd_ne _ _ _ hj, hi_setw_ne _ _ _ _ (by decide), hi_setw_ne _ _ _ _ (by decide)]
  · rw [e0, e5, upd_at, upd_at]
theorem SimR.emp (S : SimR h) {j : Nat} (hj : j < 8) : hi h 3 j = -1 ↔ hi h 55 j = -1000000 := by
  obtain ⟨z, _, _, _, hz⟩ := S j hj
  rcases hz with ⟨z1, z2⟩ | ⟨⟨l, hl, l1, l2⟩, _⟩
  · exact ⟨fun _ => z2, fun _ => z1⟩
  · refine ⟨fun y => ?_, fun y => (nI_none (k := l) (by omega) (l2.symm.trans y)).elim⟩
    rw [l1] at y; rcases (show l = 0 ∨ l = 1 ∨ l = 2 by omega) with rfl | rfl | rfl <;> exact absurd y (by decide)
theorem SimR.rg (S : SimR h) {j : Nat} {i n : Int32} (hj : j < 8) : (0 ≤ i ∧ 0 ≤ n ∧ n ≤ hi h 4 j ∧ i ≤ hi h 4 j - n) ↔ (0 ≤ i ∧ 0 ≤ n ∧ i.toInt + n.toInt ≤ (hi h 56 j).toInt) := by
  obtain ⟨z, hz, z1, z2, _⟩ := S j hj
  rw [z1, z2]; exact rg_iff hz
theorem SimR.sz (S : SimR h) : ∀ j, j < 8 → ∃ z : Nat, z ≤ 40 ∧ hi h 56 j = nI z := fun j hj => by obtain ⟨z, hz, _, z2, _⟩ := S j hj; exact ⟨z, hz, z2⟩
theorem SimR.szc (S : SimR h) : ∀ j, j < 8 → ¬ hi h 3 j = -1 → ∃ z : Nat, z ≤ 40 ∧ hi h 4 j = nI z := fun j hj _ => by obtain ⟨z, hz, z1, _⟩ := S j hj; exact ⟨z, hz, z1⟩
theorem SimR.same (S : SimR h) {j p n : Nat} (hj : j < 8) (he : ¬ hi h 3 j = -1) (hr : (nI p).toInt + (nI n).toInt ≤ (hi h 56 j).toInt) (hp : p + n ≤ 40) : ∀ k, k < n → hi h 2 (40 * j + p + k) = hi h 57 (40 * j + p + k) := by
  obtain ⟨z, hz, _, z2, y⟩ := S j hj
  rcases y with ⟨y1, _⟩ | ⟨_, y⟩
  · exact (he y1).elim
  · intro k hk
    rw [z2, nI_toInt (by omega), nI_toInt (by omega), nI_toInt (by omega)] at hr
    have := y (p + k) (by omega)
    rw [← Nat.add_assoc] at this
    exact this
theorem P_judged {r i u : Int32} (S : SimAt h b c) : Pair 131 227 [vI r, vI i, vI u] h := by
  obtain ⟨m, L, e, mi, y2, g⟩ := S.y
  have hm := g.2.1.1
  have st := st01 S g
  have R := S.2.1
  have bad : (¬ (0 ≤ r ∧ r ≤ 7) ∨ ¬ (0 ≤ u ∧ u ≤ 40)) → ∀ j, j < 8 → r = nI j → ∀ n : Nat, n ≤ 40 → u = nI n → False := fun y j hj hr n hn hu => y.elim (fun z => z (rng (k := 7) hr (by omega) (by decide))) (fun z => z (rng hu hn (by decide)))
  refine C_judged (g.gi S.1) S.1.b S.1.c S.1.2.2.2.2.2.1 R.szc (fun z => ⟨_, rfl, ?_⟩) (fun z y => ⟨_, rfl, ?_⟩) (fun z j hj hr n hn hu he => ⟨_, rfl, ?_⟩) (fun z j hj hr n hn hu he hg => ⟨_, rfl, ?_⟩) (fun z j hj hr n hn hu he p hp hi0 hg ha => ⟨_, rfl, ?_⟩) (fun z j hj hr n hn hu he p hp hi0 hg ha => ⟨_, rfl, ?_⟩)
  · exact M_judged S.1.1 S.1.2.2.1 g.cnt g.sk R.sz (fun _ => ⟨rfl, S.s⟩) (fun w _ => (st.mp z w).elim) (fun w _ _ _ _ _ _ _ => (st.mp z w).elim) (fun w _ _ _ _ _ _ _ _ => (st.mp z w).elim) (fun w _ _ _ _ _ _ _ _ _ _ _ _ => (st.mp z w).elim) (fun w _ _ _ _ _ _ _ _ _ _ _ _ _ _ => (st.mp z w).elim)
  · exact M_judged S.1.1 S.1.2.2.1 g.cnt g.sk R.sz (fun w => (z (st.mpr w)).elim) (fun _ _ => ⟨rfl, S.s⟩) (fun _ j hj hr n hn hu _ => (bad y j hj hr n hn hu).elim) (fun _ j hj hr n hn hu _ _ => (bad y j hj hr n hn hu).elim) (fun _ j hj hr n hn hu _ _ _ _ _ _ => (bad y j hj hr n hn hu).elim) (fun _ j hj hr n hn hu _ _ _ _ _ _ _ _ => (bad y j hj hr n hn hu).elim)
  · have ej : ∀ j2, j2 < 8 → r = nI j2 → j2 = j := fun j2 hj2 h2 => nI_inj (h2.symm.trans hr) (by omega) (by omega)
    have ee : ∀ x, x ≠ 0 → hi (seti h 0 16 1) x = hi h x := fun x hx => hi_seti_ne _ _ _ _ _ hx
    have e51 := ee 51 (by decide)
    have e55 := ee 55 (by decide)
    have e56 := ee 56 (by decide)
    have g1 : HS h b (hi (seti h 0 16 1) 51) m L e mi := by rw [e51]; exact g
    have xE : ∀ j2, j2 < 8 → r = nI j2 → ¬ hi (seti h 0 16 1) 55 j2 = -1000000 → False := fun j2 hj2 h2 w => by rw [e55, ej j2 hj2 h2] at w; exact w ((R.emp hj).mp he)
    exact M_judged (h := seti h 0 16 1) S.1.1 S.1.2.2.1 g1.cnt g1.sk (by rw [e56]; exact R.sz) (fun w => (z (st.mpr (by rw [e51] at w; exact w))).elim) (fun _ y => (bad y j hj hr n hn hu).elim) (fun _ _ _ _ _ _ _ _ => ⟨rfl, S.st2.s⟩) (fun _ j2 hj2 h2 _ _ _ w _ => (xE j2 hj2 h2 w).elim) (fun _ j2 hj2 h2 _ _ _ w _ _ _ _ _ => (xE j2 hj2 h2 w).elim) (fun _ j2 hj2 h2 _ _ _ w _ _ _ _ _ _ _ => (xE j2 hj2 h2 w).elim)
  · have ej : ∀ j2, j2 < 8 → r = nI j2 → j2 = j := fun j2 hj2 h2 => nI_inj (h2.symm.trans hr) (by omega) (by omega)
    have en : ∀ n2 : Nat, n2 ≤ 40 → u = nI n2 → n2 = n := fun n2 hn2 h2 => nI_inj (h2.symm.trans hu) (by omega) (by omega)
    have ee : ∀ x, x ≠ 0 → hi (seti h 0 16 2) x = hi h x := fun x hx => hi_seti_ne _ _ _ _ _ hx
    have e51 := ee 51 (by decide)
    have e55 := ee 55 (by decide)
    have e56 := ee 56 (by decide)
    have g1 : HS h b (hi (seti h 0 16 2) 51) m L e mi := by rw [e51]; exact g
    have xR : ∀ j2, j2 < 8 → r = nI j2 → ∀ n2 : Nat, n2 ≤ 40 → u = nI n2 → (0 ≤ i ∧ (0 : Int32) ≤ nI n2 ∧ i.toInt + (nI n2).toInt ≤ (hi (seti h 0 16 2) 56 j2).toInt) → False := fun j2 hj2 h2 n2 hn2 hu2 w => by rw [e56, ej j2 hj2 h2, en n2 hn2 hu2] at w; exact hg ((R.rg hj).mpr w)
    exact M_judged (h := seti h 0 16 2) S.1.1 S.1.2.2.1 g1.cnt g1.sk (by rw [e56]; exact R.sz) (fun w => (z (st.mpr (by rw [e51] at w; exact w))).elim) (fun _ y => (bad y j hj hr n hn hu).elim) (fun _ j2 hj2 h2 _ _ _ w => by rw [e55, ej j2 hj2 h2] at w; exact (he ((R.emp hj).mpr w)).elim) (fun _ _ _ _ _ _ _ _ _ => ⟨rfl, S.st2.s⟩) (fun _ j2 hj2 h2 n2 hn2 hu2 _ _ _ _ w _ => (xR j2 hj2 h2 n2 hn2 hu2 w).elim) (fun _ j2 hj2 h2 n2 hn2 hu2 _ _ _ _ w _ _ _ => (xR j2 hj2 h2 n2 hn2 hu2 w).elim)
  · have ej : ∀ j2, j2 < 8 → r = nI j2 → j2 = j := fun j2 hj2 h2 => nI_inj (h2.symm.trans hr) (by omega) (by omega)
    have en : ∀ n2 : Nat, n2 ≤ 40 → u = nI n2 → n2 = n := fun n2 hn2 h2 => nI_inj (h2.symm.trans hu) (by omega) (by omega)
    have hg2 := (R.rg hj).mp hg
    have ta := tlL_eq (at0 := 40 * j + p) (g57 := hi h 57) g n (R.same hj he (by rw [← hi0]; exact hg2.2.2) hp)
    exact M_judged S.1.1 S.1.2.2.1 g.cnt g.sk R.sz (fun w => (z (st.mpr w)).elim) (fun _ y => (bad y j hj hr n hn hu).elim) (fun _ j2 hj2 h2 _ _ _ w => by rw [ej j2 hj2 h2] at w; exact (he ((R.emp hj).mpr w)).elim) (fun _ j2 hj2 h2 n2 hn2 hu2 _ w => by rw [ej j2 hj2 h2, en n2 hn2 hu2] at w; exact (w hg2).elim) (fun _ _ _ _ _ _ _ _ _ _ _ _ _ => ⟨rfl, S.s⟩) (fun _ j2 hj2 h2 n2 hn2 hu2 _ p2 hp2 hi2 _ w _ _ => by rw [ej j2 hj2 h2, en n2 hn2 hu2, nI_inj (hi2.symm.trans hi0) (by omega) (by omega)] at w; exact (ha (ta.trans w)).elim)
  · have ej : ∀ j2, j2 < 8 → r = nI j2 → j2 = j := fun j2 hj2 h2 => nI_inj (h2.symm.trans hr) (by omega) (by omega)
    have en : ∀ n2 : Nat, n2 ≤ 40 → u = nI n2 → n2 = n := fun n2 hn2 h2 => nI_inj (h2.symm.trans hu) (by omega) (by omega)
    have hg2 := (R.rg hj).mp hg
    have sm := R.same hj he (by rw [← hi0]; exact hg2.2.2) hp
    have ta := (tlL_eq (at0 := 40 * j + p) (g57 := hi h 57) g n sm).symm.trans ha
    have tw := (tw_hs g S.1).judge S.1.c (g.s0 S z) sm ta n (Nat.le_refl _) (by omega)
    obtain ⟨a1, a2, a3⟩ := jcH_k (h := twH h b c) (c := c) (L := L) (g := hi h 2) (at0 := 40 * j + p) hm n
    obtain ⟨S1, e1⟩ := S.tw hm (jcH_gs (g := hi h 2) (at0 := 40 * j + p) (twH_gs (g.gi S.1) S.1.b S.1.c S.1.2.2.2.2.2.1) S.1.c n) a1 a2 a3 (jc_0 S.1.c hm n)
    have hcc := S.1.c
    have b1 : ∀ x, 50 < x → hi (jcH (twH h b c) (hi h 2) c m L (40 * j + p) n) x = hi h x := fun x hx => (a3 x (by omega)).trans (twH_o (by omega) (by omega))
    rw [do_eq tw.1 m (Nat.le_refl _)]
    generalize jcH _ _ _ _ _ _ _ = h1 at S1 e1 b1 ⊢
    have ee : ∀ x, 50 < x → hi (seti h1 0 16 0) x = hi h x := fun x hx => (hi_seti_ne _ _ _ _ _ (by omega)).trans (b1 x hx)
    have e51 := ee 51 (by decide)
    have e55 := ee 55 (by decide)
    have e56 := ee 56 (by decide)
    have e57 := ee 57 (by decide)
    have g1 : HS h b (hi (seti h1 0 16 0) 51) m L e mi := by rw [e51]; exact g
    exact M_judged (h := seti h1 0 16 0) S1.1.1 S1.1.2.2.1 g1.cnt g1.sk (by rw [e56]; exact R.sz) (fun w => (z (st.mpr (by rw [e51] at w; exact w))).elim) (fun _ y => (bad y j hj hr n hn hu).elim) (fun _ j2 hj2 h2 _ _ _ w => by rw [e55, ej j2 hj2 h2] at w; exact (he ((R.emp hj).mpr w)).elim) (fun _ j2 hj2 h2 n2 hn2 hu2 _ w => by rw [e56, ej j2 hj2 h2, en n2 hn2 hu2] at w; exact (w hg2).elim) (fun _ j2 hj2 h2 n2 hn2 hu2 _ p2 hp2 hi2 _ w => by rw [e51, e57, ej j2 hj2 h2, en n2 hn2 hu2, nI_inj (hi2.symm.trans hi0) (by omega) (by omega)] at w; exact (w ta).elim) (fun _ j2 hj2 h2 n2 hn2 hu2 _ p2 hp2 hi2 _ _ x y => ⟨by rw [e51, e57, ej j2 hj2 h2, en n2 hn2 hu2, nI_inj (hi2.symm.trans hi0) (by omega) (by omega)], S1.st3.s⟩)
theorem SimAt.rows (S : SimAt h b c) (h1 : hn h' = hn h) (h2 : hr h' = hr h) (h3 : ∀ x, x ≠ 0 → x ≠ 2 → x ≠ 3 → x ≠ 4 → x ≠ 50 → x ≠ 55 → x ≠ 56 → x ≠ 57 → hi h' x = hi h x) (h4 : ∀ j, j ≠ 16 → hi h' 0 j = hi h 0 j) (h5 : ∀ j, j ≠ 8 → hi h' 50 j = hi h 50 j) (h6 : hi h' 0 16 = hi h' 50 8) (h7 : SimR h') : SimAt h' b c := by
  have hb := S.1.b
  obtain ⟨sB, _, _, sT, sP, sY, sU, sI⟩ := S
  have e : ∀ x, 5 ≤ x → x < 50 → hi h' x = hi h x := fun x x1 x2 => h3 x (by omega) (by omega) (by omega) (by omega) (by omega) (by omega) (by omega) (by omega)
  have e2 : ∀ x, 50 < x → x < 55 → hi h' x = hi h x := fun x x1 x2 => h3 x (by omega) (by omega) (by omega) (by omega) (by omega) (by omega) (by omega) (by omega)
  have e3 : ∀ x, 57 < x → hi h' x = hi h x := fun x x1 => h3 x (by omega) (by omega) (by omega) (by omega) (by omega) (by omega) (by omega) (by omega)
  exact ⟨sB.cg h1 h2 (fun q hq => e _ (by omega) (by omega)) (fun x hx => by rw [e x (by omega) (by omega)]), h7, h6,
    sT.cg (by rw [e 5 (by decide) (by decide)]) (e _ (by decide) (by decide)) (e3 _ (by decide)) (h5 _ (by decide)) (h5 _ (by decide)) (by rw [e 5 (by decide) (by decide)]), sP.cg (by rw [e 7 (by decide) (by decide)]) (e _ (by decide) (by decide)) (e3 _ (by decide)) (h5 _ (by decide)),
    sY.cg (h4 _ (by decide)) (e2 _ (by decide) (by decide)) (fun x x1 x2 => e _ (by omega) (by omega)) h2, sU.cg (h4 _ (by decide)) (h4 _ (by decide)) (h5 _ (by decide)) (e _ (by decide) (by decide)) (e2 _ (by decide) (by decide)) (e2 _ (by decide) (by decide)), sI.cg (e _ (by decide) (by decide)) (e _ (by decide) (by decide)) (by rw [e2 51 (by decide) (by decide)]) (e2 _ (by decide) (by decide)) (e2 _ (by decide) (by decide))⟩
theorem rw8 {v : Int32} {j : Nat} (hj : j < 8) (hv : v = nI j) : 0 ≤ v ∧ v ≤ 7 := rng (k := 7) hv (by omega) (by decide)
theorem P_drop {r : Int32} (S : SimAt h b c) : Pair 90 155 [vI r] h := by
  have R := S.2.1
  refine C_drop S.1.1 S.1.2.1 (fun y => ⟨_, rfl, ?_⟩) (fun j hj hr he => ⟨_, rfl, ?_⟩) (fun j hj hr he => ⟨_, rfl, ?_⟩)
  · exact M_drop S.1.1 S.1.2.2.1 (fun _ => ⟨rfl, S.s⟩) (fun j hj hr _ => (y (rw8 hj hr)).elim) (fun j hj hr _ => (y (rw8 hj hr)).elim)
  · have ej : ∀ j2, j2 < 8 → r = nI j2 → j2 = j := fun j2 hj2 h2 => nI_inj (h2.symm.trans hr) (by omega) (by omega)
    have e55 : hi (seti h 0 16 1) 55 = hi h 55 := hi_seti_ne _ _ _ _ _ (by decide)
    exact M_drop (h := seti h 0 16 1) S.1.1 S.1.2.2.1 (fun y => (y (rw8 hj hr)).elim) (fun _ _ _ _ => ⟨rfl, S.st2.s⟩) (fun j2 hj2 h2 w => by rw [e55, ej j2 hj2 h2] at w; exact (w ((R.emp hj).mp he)).elim)
  · have ej : ∀ j2, j2 < 8 → r = nI j2 → j2 = j := fun j2 hj2 h2 => nI_inj (h2.symm.trans hr) (by omega) (by omega)
    have e55 : hi (seti (seti h 3 j (-1)) 0 16 0) 55 = hi h 55 := by rw [hi_seti_ne _ _ _ _ _ (by decide), hi_seti_ne _ _ _ _ _ (by decide)]
    have e56 : hi (seti (seti h 3 j (-1)) 0 16 0) 56 = hi h 56 := by rw [hi_seti_ne _ _ _ _ _ (by decide), hi_seti_ne _ _ _ _ _ (by decide)]
    refine M_drop (h := seti (seti h 3 j (-1)) 0 16 0) S.1.1 S.1.2.2.1 (fun y => (y (rw8 hj hr)).elim) (fun j2 hj2 h2 w => by rw [e55, ej j2 hj2 h2] at w; exact (he ((R.emp hj).mpr w)).elim) (fun j2 hj2 h2 _ => ⟨?_, b, c, ?_⟩)
    · obtain ⟨z, _, z1, z2, _⟩ := R j hj
      rw [e56, ej j2 hj2 h2, z1, z2]
    · rw [ej j2 hj2 h2]
      refine S.rows rfl rfl (fun x x0 x2 x3 x4 x50 x55 x56 x57 => ?_) (fun k hk => ?_) (fun k hk => ?_) ?_ (fun k hk => ?_)
      · rw [hi_seti_ne _ _ _ _ _ x50, hi_seti_ne _ _ _ _ _ x55, hi_seti_ne _ _ _ _ _ x0, hi_seti_ne _ _ _ _ _ x3]
      · rw [hi_seti_ne _ _ _ _ _ (by decide), hi_seti_ne _ _ _ _ _ (by decide), hi_seti, if_neg (by omega), hi_seti_ne _ _ _ _ _ (by decide)]
      · rw [hi_seti, if_neg (by omega), hi_seti_ne _ _ _ _ _ (by decide), hi_seti_ne _ _ _ _ _ (by decide), hi_seti_ne _ _ _ _ _ (by decide)]
      · rw [hi_seti_ne _ _ _ _ _ (by decide), hi_seti_ne _ _ _ _ _ (by decide), hi_seti, if_pos ⟨rfl, rfl⟩, hi_seti, if_pos ⟨rfl, rfl⟩]
      · have q2 : hi (seti (seti (seti (seti h 3 j (-1)) 0 16 0) 55 j (-1000000)) 50 8 0) 2 = hi h 2 := rfl
        have q3 : hi (seti (seti (seti (seti h 3 j (-1)) 0 16 0) 55 j (-1000000)) 50 8 0) 3 = upd (hi h 3) j (-1) := rfl
        have q4 : hi (seti (seti (seti (seti h 3 j (-1)) 0 16 0) 55 j (-1000000)) 50 8 0) 4 = hi h 4 := rfl
        have q55 : hi (seti (seti (seti (seti h 3 j (-1)) 0 16 0) 55 j (-1000000)) 50 8 0) 55 = upd (hi h 55) j (-1000000) := rfl
        have q56 : hi (seti (seti (seti (seti h 3 j (-1)) 0 16 0) 55 j (-1000000)) 50 8 0) 56 = hi h 56 := rfl
        have q57 : hi (seti (seti (seti (seti h 3 j (-1)) 0 16 0) 55 j (-1000000)) 50 8 0) 57 = hi h 57 := rfl
        rw [q2, q3, q4, q55, q56, q57]
        by_cases w : k = j
        · rw [w, upd_at, upd_at]
          obtain ⟨z, z0, z1, z2, _⟩ := R j hj
          exact ⟨z, z0, z1, z2, Or.inl ⟨rfl, rfl⟩⟩
        · rw [upd_ne _ _ _ w, upd_ne _ _ _ w]
          exact R k hk
theorem P_feed {l : Int32} (S : SimAt h b c) : Pair 93 156 [vI l] h := by
  have hb := S.1.b
  obtain ⟨⟨n, n1, n2, n3, n4⟩, nT⟩ := S.2.2.2.1
  refine C_feed S.1.1 S.1.2.1 n2 n1 (fun y => ⟨_, rfl, ?_⟩) (fun y a => ⟨_, rfl, ?_⟩) (fun y a => ⟨_, rfl, ?_⟩)
  · exact M_feed S.1.1 S.1.2.2.1 n3 n1 (fun _ => ⟨rfl, S.s⟩) (fun w _ => (y w).elim) (fun w _ => (y w).elim)
  · exact M_feed S.1.1 S.1.2.2.1 n3 n1 (fun w => (w y).elim) (fun _ _ => ⟨rfl, S.s⟩) (fun _ w => by omega)
  · refine M_feed (h := seti (seti h 6 n l) 5 1 (nI (n + 1))) S.1.1 S.1.2.2.1 (by rw [hi_seti_ne _ _ _ _ _ (by decide), hi_seti_ne _ _ _ _ _ (by decide)]; exact n3) n1 (fun w => (w y).elim) (fun _ w => by omega) (fun _ _ => ⟨rfl, b, c, ?_⟩)
    have q : ∀ x, x ≠ 5 → x ≠ 6 → x ≠ 50 → x ≠ 58 → hi (seti (seti (seti (seti h 6 n l) 5 1 (nI (n + 1))) 58 n l) 50 10 (nI (n + 1))) x = hi h x := fun x x5 x6 x50 x58 => by rw [hi_seti_ne _ _ _ _ _ x50, hi_seti_ne _ _ _ _ _ x58, hi_seti_ne _ _ _ _ _ x5, hi_seti_ne _ _ _ _ _ x6]
    have q5 : hi (seti (seti (seti (seti h 6 n l) 5 1 (nI (n + 1))) 58 n l) 50 10 (nI (n + 1))) 5 = upd (hi h 5) 1 (nI (n + 1)) := rfl
    have q6 : hi (seti (seti (seti (seti h 6 n l) 5 1 (nI (n + 1))) 58 n l) 50 10 (nI (n + 1))) 6 = upd (hi h 6) n l := rfl
    have q50 : hi (seti (seti (seti (seti h 6 n l) 5 1 (nI (n + 1))) 58 n l) 50 10 (nI (n + 1))) 50 = upd (hi h 50) 10 (nI (n + 1)) := rfl
    have q58 : hi (seti (seti (seti (seti h 6 n l) 5 1 (nI (n + 1))) 58 n l) 50 10 (nI (n + 1))) 58 = upd (hi h 58) n l := rfl
    obtain ⟨sB, sR, sS, _, sP, sY, sU, sI⟩ := S
    have eN : hn (seti (seti (seti (seti h 6 n l) 5 1 (nI (n + 1))) 58 n l) 50 10 (nI (n + 1))) = hn h := rfl
    have eH : hr (seti (seti (seti (seti h 6 n l) 5 1 (nI (n + 1))) 58 n l) 50 10 (nI (n + 1))) = hr h := rfl
    generalize seti (seti (seti (seti h 6 n l) 5 1 (nI (n + 1))) 58 n l) 50 10 (nI (n + 1)) = h2 at *
    have d : ∀ x, 6 < x → x ≠ 50 → x ≠ 58 → hi h2 x = hi h x := fun x x1 x2 x3 => q x (by omega) (by omega) x2 x3
    have d0 := q 0 (by decide) (by decide) (by decide) (by decide)
    refine ⟨sB.cg eN eH (fun q hq => d _ (by omega) (by omega) (by omega)) (fun x hx => by rw [d x (by omega) (by omega) (by omega)]), sR.cg (q _ (by decide) (by decide) (by decide) (by decide)) (q _ (by decide) (by decide) (by decide) (by decide)) (q _ (by decide) (by decide) (by decide) (by decide)) (d _ (by decide) (by decide) (by decide)) (d _ (by decide) (by decide) (by decide)) (d _ (by decide) (by decide) (by decide)), by rw [d0, q50, upd_ne _ _ _ (by decide)]; exact sS, ⟨⟨n + 1, by omega, by rw [q5, upd_at], by rw [q50, upd_at], fun k hk => ?_⟩, by rw [q5, q50, upd_ne _ _ _ (by decide), upd_ne _ _ _ (by decide)]; exact nT⟩,
      sP.cg (by rw [d 7 (by decide) (by decide) (by decide)]) (d _ (by decide) (by decide) (by decide)) (d _ (by decide) (by decide) (by decide)) (by rw [q50, upd_ne _ _ _ (by decide)]), sY.cg (by rw [d0]) (d _ (by decide) (by decide) (by decide)) (fun x x1 x2 => d _ (by omega) (by omega) (by omega)) eH, sU.cg (by rw [d0]) (by rw [d0]) (by rw [q50, upd_ne _ _ _ (by decide)]) (d _ (by decide) (by decide) (by decide)) (d _ (by decide) (by decide) (by decide)) (d _ (by decide) (by decide) (by decide)), sI.cg (d _ (by decide) (by decide) (by decide)) (d _ (by decide) (by decide) (by decide)) (by rw [d 51 (by decide) (by decide) (by decide)]) (d _ (by decide) (by decide) (by decide)) (d _ (by decide) (by decide) (by decide))⟩
    rw [q6, q58]
    by_cases w : k = n
    · rw [w, upd_at, upd_at]; exact ⟨rfl, y⟩
    · rw [upd_ne _ _ _ w, upd_ne _ _ _ w]; exact n4 k (by omega)
end Sp
