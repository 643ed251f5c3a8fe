/-! pairs: water, serve (by hand) -/
theorem wg_n {s : Nat → Int32} {k f : Nat} (h : s (29 + k) = nI f) (hf : f ≤ 30) : s (29 + k) - wg s k = nI (f - 3) ∧ nI f = nI (f - 3) + wg s k := by
  unfold wg
  rw [h]
  by_cases z : 3 ≤ f
  · rw [if_pos (show (3 : Int32) ≤ nI f from nI_le (a := 3) z (by omega))]
    refine ⟨nI_subI (a := f) (b := 3) z, ?_⟩
    rw [show (3 : Int32) = nI 3 from rfl, nI_add]
    congr 1; omega
  · rw [if_neg (show ¬ (3 : Int32) ≤ nI f from fun w => z ((nI_leI (a := 3) (by omega) (by omega)).mp w)), show f - 3 = 0 by omega]
    exact ⟨Int32.sub_self _, by rw [show nI 0 = 0 from rfl, Int32.zero_add]⟩
theorem wat_at {s : Nat → Int32} {c f : Nat} (h : s (29 + c) = nI f) (hf : f ≤ 30) : ∀ k, c < k → watS s k (29 + c) = nI (f - 3) := by
  intro k
  induction k with
  | zero => intro w; omega
  | succ k ih =>
    intro w
    unfold watS
    by_cases z : c = k
    · subst z
      rw [upd_at]
      exact (wg_n (s := watS s c) (by rw [watS_lo _ _ _ (by omega)]; exact h) hf).1
    · rw [upd_ne _ _ _ (by omega)]; exact ih (by omega)
theorem i32_c (A B y w : Int32) : (A + (y + w)) - (B + y) = A - B + w := by grind
theorem wat_r {s cf pf : Nat → Int32} {L : Nat} (hL : L ≤ 8) (h : ∀ c, c < L → ∃ f : Nat, f ≤ 30 ∧ cf c = nI f ∧ s (29 + c) = nI f ∧ pf c = nI (f - 3)) : ∀ k, k ≤ L → fiS cf k - fiS pf k = watR s k := by
  intro k
  induction k with
  | zero => intro _; show (0 : Int32) - 0 = 0; decide
  | succ k ih =>
    intro hk
    obtain ⟨f, hf, h1, h2, h3⟩ := h k (by omega)
    unfold fiS watR
    rw [h1, h3, ← ih (by omega), (wg_n (s := watS s k) (k := k) (by rw [watS_lo _ _ _ (by omega)]; exact h2) hf).2]
    exact i32_c _ _ _ _
theorem HS.thing2 {h h' : Hp} {b m L e mi i : Nat} {s s' : Nat → Int32} (g : HS h b s m L e mi) (hi0 : i < m) (f' : Nat → Int32) (hh : hi h' (b + 8 + i) = f') (ho : ∀ x, x ≠ b + 8 + i → x ≠ b + 7 → b ≤ x → x < b + 14 → hi h' x = hi h x) (hk : ∀ x, kq h' x = kq h x)
    (hs : ∀ j, j ≠ 45 + i → j ≠ 69 + i → ¬ (81 ≤ j ∧ j < 85) → s' j = s j) (he' : ∀ t, t < e → hi h' (b + 7) t = s' (81 + t)) (ht : TR (kq h (b + 8 + i)) f' s' i mi) (h6 : s' (69 + i) = f' 6) (ha : ∀ k, k < m → AL s' m k) (hc : sdS (fun k => hi h' (b + 8 + k) 2) m = servS s' e) : HS h' b s' m L e mi := by
  obtain ⟨⟨a1, a2, a3, a4, a5, a6, a7, a8, a9, a10⟩, ⟨b1, b2, b3⟩, ⟨⟨sk', c1, c2, c3⟩, c4, c5, c6⟩, hd, he, hf, hg, hx⟩ := g
  have eb : hi h' b = hi h b := ho b (by omega) (by omega) (by omega) (by omega)
  have lo : ∀ j, j < 45 → s' j = s j := fun j hj => hs j (by omega) (by omega) (by omega)
  have z0 := yv_0 h' b
  refine ⟨⟨?_, ?_, ?_, (lo 19 (by decide)).trans a4, ?_, (lo 20 (by decide)).trans a6, ?_, (lo 1 (by decide)).trans a8, ?_, (lo 2 (by decide)).trans a10⟩, ⟨b1, b2, b3⟩, ⟨⟨sk', (lo 3 (by decide)).trans c1, c2, ?_⟩, ?_, ?_, ?_⟩, fun c hc0 => ?_, fun t ht0 => ?_, fun t ht0 => ?_, ha, hc⟩
  · rw [z0.1, eb, lo 3 (by decide)]; exact a1
  · rw [z0.2.1, eb, lo 4 (by decide)]; exact a2
  · rw [z0.2.2.1, eb]; exact a3
  · rw [z0.2.2.2.1, eb]; exact a5
  · rw [z0.2.2.2.2.1, eb]; exact a7
  · rw [z0.2.2.2.2.2, eb]; exact a9
  · rw [lo 0 (by decide)]; exact c3
  · rw [lo 4 (by decide)]; exact c4
  · rw [lo 0 (by decide)]; exact c5
  · rw [lo 0 (by decide)]; exact c6
  · rw [ho (b + 1) (by omega) (by omega) (by omega) (by omega), ho (b + 2) (by omega) (by omega) (by omega) (by omega), ho (b + 3) (by omega) (by omega) (by omega) (by omega), lo (21 + c) (by omega), lo (29 + c) (by omega), lo (37 + c) (by omega)]
    exact hd c hc0
  · obtain ⟨u1, u2, u3, u4⟩ := he t ht0
    rw [ho (b + 5) (by omega) (by omega) (by omega) (by omega), ho (b + 6) (by omega) (by omega) (by omega) (by omega), lo (11 + t) (by omega), lo (15 + t) (by omega)]
    exact ⟨u1, u2, he' t ht0, u4⟩
  · show TR (kq h' (b + 8 + t)) (hi h' (b + 8 + t)) s' t mi ∧ s' (69 + t) = hi h' (b + 8 + t) 6
    rw [hk]
    by_cases z : t = i
    · subst z; rw [hh]; exact ⟨ht, h6⟩
    · obtain ⟨u1, u2⟩ := hf t ht0
      rw [ho (b + 8 + t) (by omega) (by omega) (by omega) (by omega), hs (69 + t) (by omega) (by omega) (by omega)]
      exact ⟨u1.cg (fun _ _ _ _ => rfl) (fun j hj => hs j (by omega) (by omega) (by omega)), u2⟩
section St
variable {h h' : Hp} {b c : Nat}
theorem HS.wat {hc : Hp} {s : Nat → Int32} {m L e mi : Nat} (g : HS h b s m L e mi) (e2 : ∀ c, c < L → hi hc (b + 2) c = mx0 (hi h (b + 2) c - 3)) (eo : ∀ x, x ≠ b + 2 → b ≤ x → x < b + 14 → hi hc x = hi h x) (hk : ∀ x, kq hc x = kq h x) : HS hc b (watS s L) m L e mi := by
  obtain ⟨⟨a1, a2, a3, a4, a5, a6, a7, a8, a9, a10⟩, ⟨b1, b2, b3⟩, ⟨⟨sk', c1, c2, c3⟩, c4, c5, c6⟩, hd, he, hf0, hg, hx0⟩ := g
  have lo : ∀ i, i < 29 ∨ 37 ≤ i → watS s L i = s i := fun i hi0 => watS_lo _ _ _ (by omega)
  have z0 := yv_0 hc b
  have w0 := yv_0 h b
  have eb := eo b (by omega) (by omega) (by omega)
  refine ⟨⟨?_, ?_, ?_, (lo 19 (by decide)).trans a4, ?_, (lo 20 (by decide)).trans a6, ?_, (lo 1 (by decide)).trans a8, ?_, (lo 2 (by decide)).trans a10⟩, ⟨b1, b2, b3⟩, ⟨⟨sk', (lo 3 (by decide)).trans c1, c2, ?_⟩, ?_, ?_, ?_⟩, fun k hk0 => ?_, fun t ht0 => ?_, fun t ht0 => ?_, fun k hk0 => ?_, ?_⟩
  · rw [z0.1, eb, lo 3 (by decide)]; exact a1
  · rw [z0.2.1, eb, lo 4 (by decide)]; exact a2
  · rw [z0.2.2.1, eb]; exact a3
  · rw [z0.2.2.2.1, eb]; exact a5
  · rw [z0.2.2.2.2.1, eb]; exact a7
  · rw [z0.2.2.2.2.2, eb]; exact a9
  · rw [lo 0 (by decide)]; exact c3
  · rw [lo 4 (by decide)]; exact c4
  · rw [lo 0 (by decide)]; exact c5
  · rw [lo 0 (by decide)]; exact c6
  · obtain ⟨x, f, r, ⟨q1, q2, q3⟩, q4, ⟨q5, q6⟩, q7⟩ := hd k hk0
    rw [eo (b + 1) (by omega) (by omega) (by omega), eo (b + 3) (by omega) (by omega) (by omega), lo (21 + k) (by omega), lo (37 + k) (by omega)]
    refine ⟨x, f - 3, r, ⟨q1, by omega, q3⟩, q4, ⟨?_, wat_at q6 q2 L hk0⟩, q7⟩
    rw [e2 k hk0, q5]; exact mx0_n (b := 3) (by omega) (by decide)
  · rw [eo (b + 5) (by omega) (by omega) (by omega), eo (b + 6) (by omega) (by omega) (by omega), eo (b + 7) (by omega) (by omega) (by omega), lo (11 + t) (by omega), lo (15 + t) (by omega), lo (81 + t) (by omega)]
    exact he t ht0
  · show TR (kq hc (b + 8 + t)) (hi hc (b + 8 + t)) _ t mi ∧ _ = hi hc (b + 8 + t) 6
    rw [hk, eo (b + 8 + t) (by omega) (by omega) (by omega), lo (69 + t) (by omega)]
    exact ⟨(hf0 t ht0).1.cg (fun _ _ _ _ => rfl) (fun j hj => lo j (by omega)), (hf0 t ht0).2⟩
  · exact (hg k hk0).cg hk0 (fun t ht => lo _ (by omega))
  · rw [servS_cg e (g := s) (fun k hk => lo _ (by omega))]
    refine Eq.trans (sdS_cg m (fun k hk => ?_)) hx0
    show hi hc (b + 8 + k) 2 = hi h (b + 8 + k) 2
    rw [eo (b + 8 + k) (by omega) (by omega) (by omega)]
theorem P_water (S : SimAt h b c) : Pair 100 196 [] h := by
  obtain ⟨m, L, e, mi, y2, g⟩ := S.y
  have hm := g.2.1.1
  have hL := g.2.1.2.1
  have hb := S.1.b
  have st := st01 S g
  obtain ⟨p, a, ⟨u1, u2, u3, u4, u5⟩, u6⟩ := S.2.2.2.2.2.2.1
  refine C_water (g.gi S.1) S.1.b u3 u1 u4 u2 (fun z => ⟨_, rfl, ?_⟩) (fun z => ⟨_, rfl, ?_⟩)
  · exact M_water S.1.1 S.1.2.2.1 g.cnt u5 u2 (fun _ => ⟨rfl, S.s⟩) (fun w => (st.mp z w).elim)
  · have vv : fiS (hi h (b + 2)) L - fiS (pwF h b L) L = watR (hi h 51) L := by
      refine wat_r hL (fun k hk => ?_) L (Nat.le_refl _)
      obtain ⟨x, f, r, ⟨q1, q2, q3⟩, q4, ⟨q5, q6⟩, q7⟩ := g.2.2.2.1 k hk
      refine ⟨f, q2, q5, q6, ?_⟩
      unfold pwF
      rw [mix_in _ _ (by omega), q5]
      exact mx0_n (b := 3) (by omega) (by decide)
    rw [vv]
    have hs : HS (pwH (rcH h b p a) b L) b (watS (hi h 51) L) m L e mi := by
      refine g.wat (fun k hk => ?_) (fun x x1 x2 x3 => ?_) (fun _ => rfl)
      · unfold pwH
        rw [hi_setw_row]
        unfold pwF
        rw [mix_in _ _ (by omega), rcH_o (by omega) (by omega)]
      · unfold pwH
        rw [hi_setw_ne _ _ _ _ x1, rcH_o (by omega) (by omega)]
    have r : ∀ x, ¬ (b ≤ x ∧ x < b + 14) → hi (pwH (rcH h b p a) b L) x = hi (rcH h b p a) x := fun x x2 => by unfold pwH; rw [hi_setw_ne _ _ _ _ (by omega)]
    have z0 : ∀ i, i < 6 → hi (pwH (rcH h b p a) b L) (b + 8 + i) 0 = hi h (b + 8 + i) 0 := fun i hi0 => by unfold pwH; rw [hi_setw_ne _ _ _ _ (by omega), rcH_o (by omega) (by omega)]
    have eN : hn (pwH (rcH h b p a) b L) = hn h := rfl
    have eH : hr (pwH (rcH h b p a) b L) = hr h := rfl
    have eM : RM (pwH (rcH h b p a) b L) := S.1.2.2.1
    generalize pwH (rcH h b p a) b L = hc at *
    have o : ∀ x, x ≠ 0 → x ≠ 45 → ¬ (b ≤ x ∧ x < b + 14) → hi hc x = hi h x := fun x x0 x1 x2 => (r x x2).trans (rcH_o x0 x1)
    have e51 := o 51 (by decide) (by decide) (by omega)
    refine M_water (eN.trans S.1.1) eM (by rw [e51]; exact g.cnt) (by rw [o 50 (by decide) (by decide) (by omega)]; exact u5) u2 (fun w => (z (st.mpr (e51 ▸ w))).elim) (fun _ => ⟨by rw [e51], S.act2 (m' := m) (L' := L) (e' := e) u1 u2 u6 g y2 eN eH r (fun i hi0 => ?_) ?_ y2 z0⟩)
    · rw [e51, watS_lo _ _ _ (by omega)]
    · rw [e51]; exact hs
theorem TR.go {q : Nat} {f s : Nat → Int32} {i mi : Nat} (t : TR q f s i mi) (hi0 : i < 6) : TR q (upd f 2 13) (upd s (45 + i) (-1000000)) i mi := by
  obtain ⟨k, hp, hco, hsd, hb, h7, h7b⟩ := t
  have eb : belowI (upd s (45 + i) (-1000000)) i = belowI s i := by unfold belowI; rw [upd_ne _ _ _ (by omega), upd_ne _ _ _ (by omega), upd_ne _ _ _ (by omega)]
  have ea : aboveI (upd s (45 + i) (-1000000)) i = aboveI s i := by unfold aboveI; rw [upd_ne _ _ _ (by omega), upd_ne _ _ _ (by omega), upd_ne _ _ _ (by omega)]
  refine ⟨?_, Or.inl ⟨upd_at _ _ _, upd_at _ _ _⟩, ?_, ?_, ?_, ?_, h7b⟩
  · rw [upd_ne _ _ _ (by omega)]; exact k
  · rw [upd_ne _ _ _ (by omega)]; exact hco
  · rw [upd_ne _ _ _ (by omega)]; exact hsd
  · rw [eb, ea]; exact hb
  · rw [upd_ne _ _ _ (by omega)]; exact h7
theorem sd_up {f : Nat → Int32} {j : Nat} (hj : ¬ f j = 13) : ∀ k, j < k → sdS (upd f j 13) k = sdS f k + 1 := by
  intro k
  induction k with
  | zero => intro w; omega
  | succ k ih =>
    intro w
    unfold sdS
    by_cases z : j = k
    · subst z
      rw [sdS_cg j (g := f) (fun i hi0 => upd_ne _ _ _ (by omega)), upd_at, b1 rfl, b0 hj, Int32.add_zero]
    · rw [ih (by omega), upd_ne _ _ _ (Ne.symm z), Int32.add_assoc, Int32.add_assoc, Int32.add_comm 1]
theorem sv_up {s : Nat → Int32} {q : Nat} {v : Int32} (hq : s (81 + q) = -1000000) (hv : ¬ v = -1000000) : ∀ k, q < k → servS (upd s (81 + q) v) k = servS s k + 1 := by
  intro k
  induction k with
  | zero => intro w; omega
  | succ k ih =>
    intro w
    unfold servS
    by_cases z : q = k
    · subst z
      rw [servS_cg q (g := s) (fun i hi0 => upd_ne _ _ _ (by omega)), upd_at, if_neg hv, if_pos hq, Int32.add_zero]
    · rw [ih (by omega), upd_ne _ _ _ (by omega), Int32.add_assoc, Int32.add_assoc, Int32.add_comm 1]
theorem AL.go {s : Nat → Int32} {m i q : Nat} {v : Int32} (hm : m ≤ 6) (g : ∀ k, k < m → AL s m k) : ∀ k, k < m → AL (upd (upd s (45 + i) (-1000000)) (81 + q) v) m k := by
  intro k hk k2 hk2 hne hon heq
  have e : ∀ t, t < m → upd (upd s (45 + i) (-1000000)) (81 + q) v (45 + t) = if t = i then -1000000 else s (45 + t) := fun t ht => by
    rw [upd_ne _ _ _ (by omega), upd_ap]
    by_cases z : t = i
    · rw [if_pos (by omega), if_pos z]
    · rw [if_neg (by omega), if_neg z]
  unfold onI at hon
  rw [e k hk] at hon heq
  rw [e k2 hk2] at heq
  by_cases z : k = i
  · rw [if_pos z] at hon; exact absurd hon.1 (by decide)
  · rw [if_neg z] at hon heq
    by_cases w : k2 = i
    · rw [if_pos w] at heq; rw [← heq] at hon; exact absurd hon.1 (by decide)
    · rw [if_neg w] at heq; exact g k hk k2 hk2 hne hon heq
theorem may_iff {m L e mi j q : Nat} (g : HS h b (hi h 51) m L e mi) (hj : j < m) (hq : q < e) : cmay h b j q ↔ mayI (hi h 51) j q := by
  have t0 := g.tr j hj
  obtain ⟨v1, v2, v3, _⟩ := g.2.2.2.2.1 q hq
  have hmi : hi h b 3 = hi h 51 19 := g.1.2.2.1.trans g.1.2.2.2.1.symm
  unfold cmay mayI wanC
  rw [t0.gone, show (ndK (kq h (b + 8 + j)) ≤ hi h (b + 8 + j) 3 ∧ hi h (b + 8 + j) 7 = 0) ↔ wellI (hi h 51) j from t0.well, v1, v2, v3, hmi, Int32.add_zero, t0.1.2.2]
theorem P_serve {t u : Int32} (S : SimAt h b c) : Pair 101 200 [vI t, vI u] h := by
  obtain ⟨m, L, e, mi, y2, g⟩ := S.y
  have hm := g.2.1.1
  have he4 := g.2.1.2.2
  have hb := S.1.b
  obtain ⟨p, a, ⟨u1, u2, u3, u4, u5⟩, u6⟩ := S.2.2.2.2.2.2.1
  have bad : (¬ inR t m ∨ ¬ inR u e) → ∀ j, j < m → t = nI j → ∀ q : Nat, q < e → u = nI q → False := fun y j hj ht q hq hu => y.elim (fun z => nin z (by omega) hj ht) (fun z => nin z (by omega) hq hu)
  refine C_serve (g.gi S.1) S.1.b u3 u1 u4 u2 (fun y => ⟨_, rfl, ?_⟩) (fun j hj ht q hq hu hg => ⟨_, rfl, ?_⟩) (fun j hj ht q hq hu hg => ⟨_, rfl, ?_⟩)
  · exact M_serve S.1.1 S.1.2.2.1 g.cnt u5 u2 (fun _ => ⟨rfl, S.s⟩) (fun j hj ht q hq hu _ => (bad y j hj ht q hq hu).elim) (fun j hj ht q hq hu _ => (bad y j hj ht q hq hu).elim)
  · refine M_serve S.1.1 S.1.2.2.1 g.cnt u5 u2 (fun y => (bad y j hj ht q hq hu).elim) (fun _ _ _ _ _ _ _ => ⟨rfl, S.s⟩) (fun j2 hj2 ht2 q2 hq2 hu2 hg2 => ?_)
    rw [nI_inj (ht2.symm.trans ht) (by omega) (by omega), nI_inj (hu2.symm.trans hu) (by omega) (by omega)] at hg2
    exact (hg ((may_iff g hj hq).mpr hg2)).elim
  · have t0 := g.tr j hj
    have hg2 := (may_iff g hj hq).mp hg
    have t6 : hi h 51 (69 + j) = hi h (b + 8 + j) 6 := (g.2.2.2.2.2.1 j hj).2
    have hs : HS (cserH h b j q p a) b (srvI (hi h 51) j q) m L e mi := by
      have ef : hi (cserH h b j q p a) (b + 8 + j) = upd (hi h (b + 8 + j)) 2 13 := by unfold cserH; rw [hi_seti_ne _ _ _ _ _ (by omega), hi_seti_row, rcH_o (by omega) (by omega)]
      have e7 : hi (cserH h b j q p a) (b + 7) = upd (hi h (b + 7)) q (nI j) := by unfold cserH; rw [hi_seti_row, hi_seti_ne _ _ _ _ _ (by omega), rcH_o (by omega) (by omega)]
      have eo : ∀ x, x ≠ b + 8 + j → x ≠ b + 7 → b ≤ x → x < b + 14 → hi (cserH h b j q p a) x = hi h x := fun x x1 x7 x2 x3 => by unfold cserH; rw [hi_seti_ne _ _ _ _ _ x7, hi_seti_ne _ _ _ _ _ x1, rcH_o (by omega) (by omega)]
      have hk : ∀ x, kq (cserH h b j q p a) x = kq h x := fun _ => rfl
      generalize cserH h b j q p a = hc at *
      have t1 : TR (kq h (b + 8 + j)) (upd (hi h (b + 8 + j)) 2 13) (srvI (hi h 51) j q) j mi := (t0.go (by omega)).cg (fun _ _ _ _ => rfl) (fun k hk => upd_ne _ _ _ (by omega))
      refine g.thing2 hj (upd (hi h (b + 8 + j)) 2 13) ef eo hk (fun k k1 _ k3 => ?_) (fun k hk => ?_) t1 ?_ (AL.go hm g.2.2.2.2.2.2.1) ?_
      · unfold srvI; rw [upd_ne _ _ _ (by omega), upd_ne _ _ _ k1]
      · rw [e7]; unfold srvI
        rw [upd_ap, upd_ap]
        by_cases w : k = q
        · rw [if_pos w, if_pos (by omega)]
        · rw [if_neg w, if_neg (by omega), upd_ne _ _ _ (by omega)]; exact (g.2.2.2.2.1 k hk).2.2.1
      · unfold srvI; rw [upd_ne _ _ _ (by omega), upd_ne _ _ _ (by omega), upd_ne _ _ _ (by decide)]; exact t6
      · have x1 : sdS (fun k => hi hc (b + 8 + k) 2) m = sdS (upd (fun k => hi h (b + 8 + k) 2) j 13) m := sdS_cg m (fun k hk => by
          by_cases w : k = j
          · rw [w, ef, upd_at, upd_at]
          · rw [eo (b + 8 + k) (by omega) (by omega) (by omega) (by omega), upd_ne _ _ _ w])
        have x2 : servS (srvI (hi h 51) j q) e = servS (upd (hi h 51) (81 + q) (nI j)) e := servS_cg e (fun k hk => by
          unfold srvI
          by_cases w : 81 + k = 81 + q
          · rw [w, upd_at, upd_at]
          · rw [upd_ne _ _ _ w, upd_ne _ _ _ w, upd_ne _ _ _ (by omega)])
        have x3 : sdS (fun k => hi h (b + 8 + k) 2) m = servS (hi h 51) e := g.2.2.2.2.2.2.2
        rw [x1, x2, sd_up (f := fun k => hi h (b + 8 + k) 2) hg.1 m hj, sv_up hg2.2.2.1 (nI_none (by omega)) e hq, x3]
    have vv : sdS (plF (cserH h b j q p a) b) m = servS (srvI (hi h 51) j q) e := hs.2.2.2.2.2.2.2
    rw [vv]
    have r : ∀ x, ¬ (b ≤ x ∧ x < b + 14) → hi (cserH h b j q p a) x = hi (rcH h b p a) x := fun x x2 => by unfold cserH; rw [hi_seti_ne _ _ _ _ _ (by omega), hi_seti_ne _ _ _ _ _ (by omega)]
    have z0 : ∀ i, i < 6 → hi (cserH h b j q p a) (b + 8 + i) 0 = hi h (b + 8 + i) 0 := fun i hi0 => by unfold cserH; rw [hi_seti_ne _ _ _ _ _ (by omega), hi_seti, if_neg (by omega), rcH_o (by omega) (by omega)]
    have eN : hn (cserH h b j q p a) = hn h := rfl
    have eH : hr (cserH h b j q p a) = hr h := rfl
    have eM : RM (cserH h b j q p a) := S.1.2.2.1
    clear vv
    generalize cserH h b j q p a = hc at *
    have o : ∀ x, x ≠ 0 → x ≠ 45 → ¬ (b ≤ x ∧ x < b + 14) → hi hc x = hi h x := fun x x0 x1 x2 => (r x x2).trans (rcH_o x0 x1)
    have e51 := o 51 (by decide) (by decide) (by omega)
    refine M_serve (eN.trans S.1.1) eM (by rw [e51]; exact g.cnt) (by rw [o 50 (by decide) (by decide) (by omega)]; exact u5) u2 (fun y => (bad y j hj ht q hq hu).elim) (fun j2 hj2 ht2 q2 hq2 hu2 w => ?_) (fun j2 hj2 ht2 q2 hq2 hu2 _ => ?_)
    · rw [nI_inj (ht2.symm.trans ht) (by omega) (by omega), nI_inj (hu2.symm.trans hu) (by omega) (by omega), e51] at w
      exact (w hg2).elim
    · rw [nI_inj (ht2.symm.trans ht) (by omega) (by omega), nI_inj (hu2.symm.trans hu) (by omega) (by omega)]
      refine ⟨by rw [e51], S.act2 (m' := m) (L' := L) (e' := e) u1 u2 u6 g y2 eN eH r (fun i hi0 => ?_) ?_ y2 z0⟩
      · rw [e51]; unfold srvI; rw [upd_ne _ _ _ (by omega), upd_ne _ _ _ (by omega)]
      · rw [e51]; exact hs
end St
