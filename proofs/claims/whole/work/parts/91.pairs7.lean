/-! pairs: move, coal, water, serve (by hand) -/
theorem sdS_iff {f g : Nat → Int32} : ∀ k, (∀ i, i < k → (f i = 13 ↔ g i = 13)) → sdS f k = sdS g k := by
  intro k
  induction k with
  | zero => intro _; rfl
  | succ k ih => intro h; unfold sdS; rw [ih (fun i hi0 => h i (by omega)), bI_iff (h k (by omega))]
theorem AL.all {s : Nat → Int32} {m i : Nat} {v : Int32} (ht : ¬ takI s m i v) (hi0 : i < m) (g : ∀ k, k < m → AL s m k) : ∀ k, k < m → AL (upd s (45 + i) v) m k := by
  intro k hk
  by_cases z : k = i
  · rw [z]; exact AL.put ht hi0
  · intro k2 hk2 hne hon heq
    have ek : upd s (45 + i) v (45 + k) = s (45 + k) := upd_ne _ _ _ (by omega)
    by_cases w : k2 = i
    · have a := AL.put ht hi0 k hk (by omega)
      rw [w] at heq
      refine a ?_ heq.symm
      unfold onI at hon ⊢
      rw [heq]; exact hon
    · refine g k hk k2 hk2 hne ?_ ?_
      · unfold onI at hon ⊢; rw [ek] at hon; exact hon
      · rw [ek, upd_ne _ _ _ (by omega)] at heq; exact heq
section Ss
variable {h h' : Hp} {b c : Nat}
theorem P_move {t u : Int32} (S : SimAt h b c) : Pair 98 193 [vI t, vI u] h := by
  obtain ⟨m, L, e, mi, y2, g⟩ := S.y
  have hm := g.2.1.1
  have he4 := g.2.1.2.2
  have hb := S.1.b
  obtain ⟨p, a, ⟨u1, u2, u3, u4, u5⟩, u6⟩ := S.2.2.2.2.2.2.1
  have bad : (¬ inR t m ∨ ¬ (0 ≤ u ∧ u ≤ 12)) → ∀ j, j < m → t = nI j → (0 ≤ u ∧ u ≤ 12) → False := fun y j hj ht hu => y.elim (fun z => nin z (by omega) hj ht) (fun z => z hu)
  have cs : ∀ j, j < m → (0 ≤ u ∧ u ≤ 12) → ((hi h (b + 8 + j) 2 = 13 ∨ ¬ opC (plF h b) m j u) ↔ (goneI (hi h 51) j ∨ takI (hi h 51) m j u)) := fun j hj hu => by
    rw [g.gon j hj, open_iff g hj hu, Classical.not_not]
  refine C_move (g.gi S.1) S.1.b u3 u1 u4 u2 (fun y => ⟨_, rfl, ?_⟩) (fun j hj ht hu hg => ⟨_, rfl, ?_⟩) (fun j hj ht hu hg ho => ⟨_, rfl, ?_⟩)
  · exact M_move S.1.1 S.1.2.2.1 g.cnt u5 u2 (fun _ => ⟨rfl, S.s⟩) (fun j hj ht hu _ => (bad y j hj ht hu).elim) (fun j hj ht hu _ _ => (bad y j hj ht hu).elim)
  · refine M_move S.1.1 S.1.2.2.1 g.cnt u5 u2 (fun y => (bad y j hj ht hu).elim) (fun _ _ _ _ _ => ⟨rfl, S.s⟩) (fun j2 hj2 ht2 _ hg2 ht3 => ?_)
    rw [nI_inj (ht2.symm.trans ht) (by omega) (by omega)] at hg2 ht3
    exact (((cs j hj hu).mp hg).elim (fun z => hg2 z) (fun z => ht3 z)).elim
  · have tk := (open_iff g hj hu).mp ho
    have o : ∀ x, x ≠ 0 → x ≠ 45 → ¬ (b ≤ x ∧ x < b + 14) → hi (seti (rcH h b p a) (b + 8 + j) 2 u) x = hi h x := fun x x0 x1 x2 => by rw [hi_seti_ne _ _ _ _ _ (by omega), rcH_o x0 x1]
    have r : ∀ x, ¬ (b ≤ x ∧ x < b + 14) → hi (seti (rcH h b p a) (b + 8 + j) 2 u) x = hi (rcH h b p a) x := fun x x2 => by rw [hi_seti_ne _ _ _ _ _ (by omega)]
    obtain ⟨x, hx, hxe⟩ := nat_of (n := 12) hu.1 hu.2 (by decide)
    have hu13 : ¬ u = 13 := fun z => by rw [hxe] at z; have := nI_inj (a := x) (b := 13) z (by omega) (by decide); omega
    have t0 := g.tr j hj
    have t6 : hi h 51 (69 + j) = hi h (b + 8 + j) 6 := (g.2.2.2.2.2.1 j hj).2
    have tp : hi h (b + 8 + j) 2 = hi h 51 (45 + j) := by
      rcases t0.2.1 with ⟨p1, _⟩ | ⟨x, _, p1, p2⟩
      · exact (hg p1).elim
      · rw [p1, p2]
    have hs : HS (seti (rcH h b p a) (b + 8 + j) 2 u) b (upd (hi h 51) (45 + j) u) m L e mi := by
      have ef : hi (seti (rcH h b p a) (b + 8 + j) 2 u) (b + 8 + j) = upd (hi h (b + 8 + j)) 2 u := by rw [hi_seti_row, rcH_o (by omega) (by omega)]
      have eo : ∀ x, x ≠ b + 8 + j → b ≤ x → x < b + 14 → hi (seti (rcH h b p a) (b + 8 + j) 2 u) x = hi h x := fun x x1 x2 x3 => by rw [hi_seti_ne _ _ _ _ _ x1, rcH_o (by omega) (by omega)]
      refine g.thing hj (upd (hi h (b + 8 + j)) 2 u) ef eo (fun _ => rfl) (fun k hk _ _ => upd_ne _ _ _ hk) (fun k hk => ?_) (t0.place (by omega) hx hxe) ?_ (AL.all tk hj g.2.2.2.2.2.2.1) ?_
      · rw [eo (b + 7) (by omega) (by omega) (by omega), upd_ne _ _ _ (by omega)]; exact (g.2.2.2.2.1 k hk).2.2.1
      · rw [upd_ne _ _ _ (by omega), upd_ne _ _ _ (by decide)]; exact t6
      · rw [servS_cg e (g := hi h 51) (fun k hk => upd_ne _ _ _ (by omega))]
        refine Eq.trans (sdS_iff m (fun k hk => ?_)) g.2.2.2.2.2.2.2
        show hi (seti (rcH h b p a) (b + 8 + j) 2 u) (b + 8 + k) 2 = 13 ↔ hi h (b + 8 + k) 2 = 13
        by_cases w : k = j
        · rw [w, ef, upd_at]; exact ⟨fun z => (hu13 z).elim, fun z => (hg z).elim⟩
        · rw [eo (b + 8 + k) (by omega) (by omega) (by omega)]
    have z0 : ∀ i, i < 6 → hi (seti (rcH h b p a) (b + 8 + j) 2 u) (b + 8 + i) 0 = hi h (b + 8 + i) 0 := fun i hi0 => by rw [hi_seti, if_neg (by omega), rcH_o (by omega) (by omega)]
    have eN : hn (seti (rcH h b p a) (b + 8 + j) 2 u) = hn h := rfl
    have eH : hr (seti (rcH h b p a) (b + 8 + j) 2 u) = hr h := rfl
    have eM : RM (seti (rcH h b p a) (b + 8 + j) 2 u) := S.1.2.2.1
    generalize seti (rcH h b p a) (b + 8 + j) 2 u = hc at *
    have e51 := o 51 (by decide) (by decide) (by omega)
    refine M_move (eN.trans S.1.1) eM (by rw [e51]; exact g.cnt) (by rw [o 50 (by decide) (by decide) (by omega)]; exact u5) u2 (fun y => (bad y j hj ht hu).elim) (fun j2 hj2 ht2 _ hg2 => ?_) (fun j2 hj2 ht2 _ _ _ => ?_)
    · rw [nI_inj (ht2.symm.trans ht) (by omega) (by omega), e51] at hg2
      exact (hg2.elim (fun z => hg ((g.gon j hj).mpr z)) (fun z => tk z)).elim
    · rw [nI_inj (ht2.symm.trans ht) (by omega) (by omega)]
      refine ⟨by rw [e51, tp], S.act2 (m' := m) (L' := L) (e' := e) u1 u2 u6 g y2 eN eH r (fun i hi0 => ?_) ?_ y2 z0⟩
      · rw [e51, upd_ne _ _ _ (by omega)]
      · rw [e51]; exact hs
theorem HS.add {hc : Hp} {s : Nat → Int32} {m L e mi x f : Nat} {cell fire : Int32} (g : HS h b s m L e mi) (h0 : s 0 = 1) (hL : L < 8) (hx : x ≤ 11) (hxe : cell = nI x) (hf : f ≤ 30) (hfe : fire = nI f) (eb : hi hc b = upd (hi h b) 4 (nI (L + 1))) (e1 : hi hc (b + 1) = upd (hi h (b + 1)) L cell) (e2 : hi hc (b + 2) = upd (hi h (b + 2)) L fire) (e3 : hi hc (b + 3) = upd (hi h (b + 3)) L 2) (eo : ∀ x, b + 5 ≤ x → x < b + 14 → hi hc x = hi h x) (hk : ∀ x, kq hc x = kq h x) : HS hc b (addI s L cell fire) m (L + 1) e mi := by
  obtain ⟨⟨a1, a2, a3, a4, a5, a6, a7, a8, a9, a10⟩, ⟨b1, b2, b3⟩, ⟨⟨sk', c1, c2, c3⟩, c4, c5, c6⟩, hd, he, hf0, hg, hx0⟩ := g
  have lo : ∀ i, i < 20 ∨ 45 ≤ i → addI s L cell fire i = s i := fun i hi0 => add_lo _ _ _ _ _ (by omega) (by omega) (by omega) (by omega)
  have z0 := yv_0 hc b
  have w0 := yv_0 h b
  rw [w0.1] at a1; rw [w0.2.1] at a2; rw [w0.2.2.1] at a3; rw [w0.2.2.2.2.1] at a7; rw [w0.2.2.2.2.2] at a9
  refine ⟨⟨?_, ?_, ?_, (lo 19 (by decide)).trans a4, ?_, addI_20 _ _ _ _, ?_, (lo 1 (by decide)).trans a8, ?_, (lo 2 (by decide)).trans a10⟩, ⟨b1, by omega, b3⟩, ⟨⟨sk', (lo 3 (by decide)).trans c1, c2, ?_⟩, ?_, ?_, ?_⟩, fun k hk0 => ?_, fun t ht0 => ?_, fun t ht0 => ?_, fun k hk0 => ?_, ?_⟩
  · rw [z0.1, eb, lo 3 (by decide), upd_ne _ _ _ (by decide)]; exact a1
  · rw [z0.2.1, eb, lo 4 (by decide), upd_ne _ _ _ (by decide)]; exact a2
  · rw [z0.2.2.1, eb, upd_ne _ _ _ (by decide)]; exact a3
  · rw [z0.2.2.2.1, eb, upd_at]
  · rw [z0.2.2.2.2.1, eb, upd_ne _ _ _ (by decide)]; exact a7
  · rw [z0.2.2.2.2.2, eb, upd_ne _ _ _ (by decide)]; exact a9
  · rw [lo 0 (by decide)]; exact c3
  · rw [lo 4 (by decide)]; exact c4
  · rw [lo 0 (by decide), h0]; exact fun z => absurd z (by decide)
  · rw [lo 0 (by decide)]; exact c6
  · rw [e1, e2, e3]
    by_cases w : k = L
    · rw [w, upd_at, upd_at, upd_at]
      refine ⟨x, f, 2, ⟨hx, hf, by decide⟩, ⟨hxe, ?_⟩, ⟨hfe, ?_⟩, ⟨rfl, ?_⟩⟩
      · unfold addI; rw [upd_ne _ _ _ (by omega), upd_ne _ _ _ (by omega), upd_ne _ _ _ (by omega), upd_at]; exact hxe
      · unfold addI; rw [upd_ne _ _ _ (by omega), upd_ne _ _ _ (by omega), upd_at]; exact hfe
      · unfold addI; rw [upd_ne _ _ _ (by omega), upd_at]; rfl
    · rw [upd_ne _ _ _ w, upd_ne _ _ _ w, upd_ne _ _ _ w, add_lo _ _ _ _ (21 + k) (by omega) (by omega) (by omega) (by omega), add_lo _ _ _ _ (29 + k) (by omega) (by omega) (by omega) (by omega), add_lo _ _ _ _ (37 + k) (by omega) (by omega) (by omega) (by omega)]
      exact hd k (by omega)
  · rw [eo (b + 5) (by omega) (by omega), eo (b + 6) (by omega) (by omega), eo (b + 7) (by omega) (by omega), lo (11 + t) (by omega), lo (15 + t) (by omega), lo (81 + t) (by omega)]
    exact he t ht0
  · show TR (kq hc (b + 8 + t)) (hi hc (b + 8 + t)) _ t mi ∧ _ = hi hc (b + 8 + t) 6
    rw [hk, eo (b + 8 + t) (by omega) (by omega), lo (69 + t) (by omega)]
    exact ⟨(hf0 t ht0).1.cg (fun _ _ _ _ => rfl) (fun j hj => lo j (by omega)), (hf0 t ht0).2⟩
  · exact (hg k hk0).cg hk0 (fun t ht => lo _ (by omega))
  · rw [servS_cg e (g := s) (fun k hk => lo _ (by omega))]
    refine Eq.trans (sdS_cg m (fun k hk => ?_)) hx0
    show hi hc (b + 8 + k) 2 = hi h (b + 8 + k) 2
    rw [eo (b + 8 + k) (by omega) (by omega)]
theorem P_coal {t u : Int32} (S : SimAt h b c) : Pair 99 195 [vI t, vI u] h := by
  obtain ⟨m, L, e, mi, y2, g⟩ := S.y
  have hm := g.2.1.1
  have hb := S.1.b
  have st := st01 S g
  obtain ⟨p, a, ⟨u1, u2, u3, u4, u5⟩, u6⟩ := S.2.2.2.2.2.2.1
  have bad : (¬ (0 ≤ t ∧ t ≤ 11) ∨ ¬ (1 ≤ u ∧ u ≤ 30)) → (0 ≤ t ∧ t ≤ 11) → (1 ≤ u ∧ u ≤ 30) → False := fun y p q => y.elim (fun z => z p) (fun z => z q)
  refine C_coal (g.gi S.1) S.1.b u3 u1 u4 u2 (fun z => ⟨_, rfl, ?_⟩) (fun z y => ⟨_, rfl, ?_⟩) (fun z ht hu h8 => ⟨_, rfl, ?_⟩) (fun z ht hu h8 => ⟨_, rfl, ?_⟩)
  · exact M_coal S.1.1 S.1.2.2.1 g.cnt u5 u2 (fun _ => ⟨rfl, S.s⟩) (fun w _ => (st.mp z w).elim) (fun w _ _ _ => (st.mp z w).elim) (fun w _ _ _ => (st.mp z w).elim)
  · exact M_coal S.1.1 S.1.2.2.1 g.cnt u5 u2 (fun w => (z (st.mpr w)).elim) (fun _ _ => ⟨rfl, S.s⟩) (fun _ p q _ => (bad y p q).elim) (fun _ p q _ => (bad y p q).elim)
  · exact M_coal S.1.1 S.1.2.2.1 g.cnt u5 u2 (fun w => (z (st.mpr w)).elim) (fun _ w => (bad w ht hu).elim) (fun _ _ _ _ => ⟨rfl, S.s⟩) (fun _ _ _ w => by omega)
  · obtain ⟨x, hx, hxe⟩ := nat_of (n := 11) ht.1 ht.2 (by decide)
    obtain ⟨f, hf, hfe⟩ := nat_of (n := 30) (Int32.le_trans (by decide) hu.1) hu.2 (by decide)
    have hs : HS (seti (seti (seti (seti (rcH h b p a) (b + 1) L t) (b + 2) L u) (b + 3) L 2) b 4 (nI (L + 1))) b (addI (hi h 51) L t u) m (L + 1) e mi := by
      refine g.add (g.s0 S z) h8 hx hxe hf hfe ?_ ?_ ?_ ?_ (fun x x1 x2 => ?_) (fun _ => rfl)
      · rw [hi_seti_row, hi_seti_ne _ _ _ _ _ (by omega), hi_seti_ne _ _ _ _ _ (by omega), hi_seti_ne _ _ _ _ _ (by omega), rcH_o (by omega) (by omega)]
      · rw [hi_seti_ne _ _ _ _ _ (by omega), hi_seti_ne _ _ _ _ _ (by omega), hi_seti_ne _ _ _ _ _ (by omega), hi_seti_row, rcH_o (by omega) (by omega)]
      · rw [hi_seti_ne _ _ _ _ _ (by omega), hi_seti_ne _ _ _ _ _ (by omega), hi_seti_row, hi_seti_ne _ _ _ _ _ (by omega), rcH_o (by omega) (by omega)]
      · rw [hi_seti_ne _ _ _ _ _ (by omega), hi_seti_row, hi_seti_ne _ _ _ _ _ (by omega), hi_seti_ne _ _ _ _ _ (by omega), rcH_o (by omega) (by omega)]
      · rw [hi_seti_ne _ _ _ _ _ (by omega), hi_seti_ne _ _ _ _ _ (by omega), hi_seti_ne _ _ _ _ _ (by omega), hi_seti_ne _ _ _ _ _ (by omega), rcH_o (by omega) (by omega)]
    have r : ∀ x, ¬ (b ≤ x ∧ x < b + 14) → hi (seti (seti (seti (seti (rcH h b p a) (b + 1) L t) (b + 2) L u) (b + 3) L 2) b 4 (nI (L + 1))) x = hi (rcH h b p a) x := fun x x2 => by rw [hi_seti_ne _ _ _ _ _ (by omega), hi_seti_ne _ _ _ _ _ (by omega), hi_seti_ne _ _ _ _ _ (by omega), hi_seti_ne _ _ _ _ _ (by omega)]
    have z0 : ∀ i, i < 6 → hi (seti (seti (seti (seti (rcH h b p a) (b + 1) L t) (b + 2) L u) (b + 3) L 2) b 4 (nI (L + 1))) (b + 8 + i) 0 = hi h (b + 8 + i) 0 := fun i hi0 => by rw [hi_seti_ne _ _ _ _ _ (by omega), hi_seti_ne _ _ _ _ _ (by omega), hi_seti_ne _ _ _ _ _ (by omega), hi_seti_ne _ _ _ _ _ (by omega), rcH_o (by omega) (by omega)]
    have eN : hn (seti (seti (seti (seti (rcH h b p a) (b + 1) L t) (b + 2) L u) (b + 3) L 2) b 4 (nI (L + 1))) = hn h := rfl
    have eH : hr (seti (seti (seti (seti (rcH h b p a) (b + 1) L t) (b + 2) L u) (b + 3) L 2) b 4 (nI (L + 1))) = hr h := rfl
    have eM : RM (seti (seti (seti (seti (rcH h b p a) (b + 1) L t) (b + 2) L u) (b + 3) L 2) b 4 (nI (L + 1))) := S.1.2.2.1
    generalize seti (seti (seti (seti (rcH h b p a) (b + 1) L t) (b + 2) L u) (b + 3) L 2) b 4 (nI (L + 1)) = hc at *
    have o : ∀ x, x ≠ 0 → x ≠ 45 → ¬ (b ≤ x ∧ x < b + 14) → hi hc x = hi h x := fun x x0 x1 x2 => (r x x2).trans (rcH_o x0 x1)
    have e51 := o 51 (by decide) (by decide) (by omega)
    refine M_coal (eN.trans S.1.1) eM (by rw [e51]; exact g.cnt) (by rw [o 50 (by decide) (by decide) (by omega)]; exact u5) u2 (fun w => (z (st.mpr (e51 ▸ w))).elim) (fun _ w => (bad w ht hu).elim) (fun _ _ _ w => by omega) (fun _ _ _ _ => ⟨rfl, S.act2 (m' := m) (L' := L + 1) (e' := e) u1 u2 u6 g y2 eN eH r (fun i hi0 => ?_) ?_ y2 z0⟩)
    · rw [e51, add_lo _ _ _ _ _ (by omega) (by omega) (by omega) (by omega)]
    · rw [e51]; exact hs
end Ss
