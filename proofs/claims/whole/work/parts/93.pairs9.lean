/-! pairs: minutes, undo, image, restore (by hand) -/
section Su
variable {h h' : Hp} {b c : Nat}
theorem cA_mA (a : Nat) : ∀ k, cA a k = mA a k := by
  intro k
  induction k with
  | zero => rfl
  | succ k ih => unfold cA mA; rw [ih]; rfl
theorem mk4_q {hc : Hp} {x w s : Nat → Int32} {a y : Nat} (h1 : y ≠ 50) (h2 : y ≠ 51) (h3 : y ≠ 54) (h4 : y ≠ 60) : hi (mk4 hc x w s a) y = hi hc y := by
  show hi (seti (setw (setw (setw hc 60 x) 51 s) 54 w) 50 4 (nI a)) y = _
  rw [hi_seti_ne _ _ _ _ _ h1, hi_setw_ne _ _ _ _ h3, hi_setw_ne _ _ _ _ h2, hi_setw_ne _ _ _ _ h4]
theorem mk4_x (hc : Hp) (x x' w s : Nat → Int32) (a : Nat) : setw (mk4 hc x w s a) 60 x' = mk4 hc x' w s a := by
  have e := mk4_min hc x w s x' s a
  rw [← e]
  have q : hi (setw (mk4 hc x w s a) 60 x') 51 = s := rfl
  have z := setw_self (setw (mk4 hc x w s a) 60 x') 51
  rw [q] at z
  exact z.symm
theorem mn_o {m L p a : Nat} (hm : m ≤ 6) : ∀ k x, x ≠ 0 → x ≠ 45 → ¬ (b ≤ x ∧ x < b + 14) → hi (mnH h b m L p a k) x = hi h x := by
  intro k
  induction k with
  | zero => intro x _ _ _; rfl
  | succ k ih =>
    intro x x0 x1 x2
    unfold mnH
    rw [psH_o hm x2, rcH_o x0 x1]
    exact ih x x0 x1 x2
theorem mn_h {m L p a : Nat} : ∀ k, hn (mnH h b m L p a k) = hn h ∧ hr (mnH h b m L p a k) = hr h := by
  intro k
  induction k with
  | zero => exact ⟨rfl, rfl⟩
  | succ k ih => exact ⟨ih.1, ih.2⟩
theorem mn_sim {m L e mi p a : Nat} (S : SimAt h b c) (g : HS h b (hi h 51) m L e mi) (h0 : hi h 51 0 = 1) (u1 : p < 24) (u2 : a ≤ 24) (u3 : hi h 0 9 = nI p) (u4 : hi h 0 10 = nI a) (u5 : hi h 50 4 = nI a) (u6 : PastR (hi h 45) p a (hi h 54) (hi h 51)) : ∀ k, mi + k ≤ 400 →
    SimAt (mk4 (mnH h b m L p a k) (hi h 60) (mW (hi h 54) (hi h 51) m L a k) (gmN (hi h 51) m L k) (mA a k)) b c ∧ HS (mnH h b m L p a k) b (gmN (hi h 51) m L k) m L e (mi + k) ∧ PastR (hi (mnH h b m L p a k) 45) ((p + k) % 24) (mA a k) (mW (hi h 54) (hi h 51) m L a k) (gmN (hi h 51) m L k) := by
  have hb := S.1.b
  have hm := g.2.1.1
  have hL := g.2.1.2.1
  intro k
  induction k with
  | zero =>
    intro _
    refine ⟨?_, g, ?_⟩
    · show SimAt (mk4 h (hi h 60) (hi h 54) (hi h 51) a) b c
      rw [mk4_0 h a u5]; exact S
    · rw [Nat.add_zero, Nat.mod_eq_of_lt u1]; exact u6
  | succ k ih =>
    intro hk
    obtain ⟨S1, g1, p1⟩ := ih (by omega)
    have pk : (p + k) % 24 < 24 := Nat.mod_lt _ (by decide)
    have ak : mA a k ≤ 24 := mA_le u2 k
    have h01 : gmN (hi h 51) m L k 0 = 1 := (gmN_lo _ _ _ _ _ (by decide) (by decide) (by decide) hL).trans h0
    have g2 : HS (mnH h b m L p a (k + 1)) b (gmN (hi h 51) m L (k + 1)) m L e (mi + (k + 1)) := by
      have g3 : HS (rcH (mnH h b m L p a k) b ((p + k) % 24) (cA a k)) b (gmN (hi h 51) m L k) m L e (mi + k) := g1.mv (fun x x1 x2 => rcH_o (by omega) (by omega)) (fun _ _ => rfl) (fun _ _ => rfl)
      exact g3.minute hb h01 (by omega)
    have KTk : KT (mnH h b m L p a k) b := (mnH_gi (p := p) (c := a) (g.gi S.1) hb k).2.2.2.2.2
    have e45 : hi (mnH h b m L p a (k + 1)) 45 = hi (rcH (mnH h b m L p a k) b ((p + k) % 24) (cA a k)) 45 := psH_o hm (by omega)
    have e0 : hi (mnH h b m L p a (k + 1)) 0 = hi (rcH (mnH h b m L p a k) b ((p + k) % 24) (cA a k)) 0 := psH_o hm (by omega)
    have eo : ∀ x, x ≠ 0 → x ≠ 45 → ¬ (b ≤ x ∧ x < b + 14) → hi (mnH h b m L p a (k + 1)) x = hi (mnH h b m L p a k) x := fun x x0 x1 x2 => by rw [mn_o hm _ x x0 x1 x2, mn_o hm _ x x0 x1 x2]
    have z0 : ∀ i, i < 6 → hi (mnH h b m L p a (k + 1)) (b + 8 + i) 0 = hi (mnH h b m L p a k) (b + 8 + i) 0 := fun i hi0 => by
      show hi (psH (rcH (mnH h b m L p a k) b ((p + k) % 24) (cA a k)) b m L) (b + 8 + i) 0 = _
      rw [ps_0 hb hi0, rcH_o (by omega) (by omega)]
    have eN : hn (mnH h b m L p a (k + 1)) = hn (mnH h b m L p a k) := rfl
    have eH : hr (mnH h b m L p a (k + 1)) = hr (mnH h b m L p a k) := rfl
    rw [show cA a k = mA a k from cA_mA a k] at e45 e0
    have eW : mW (hi h 54) (hi h 51) m L a (k + 1) = rmW (mW (hi h 54) (hi h 51) m L a k) (mA a k) (gmN (hi h 51) m L k) := rfl
    have eA : mA a (k + 1) = rmA (mA a k) := rfl
    have eG : ∀ i, i < 19 → gmN (hi h 51) m L (k + 1) i = gmN (hi h 51) m L k i := fun i hi0 => gm_lo _ _ _ _ (by omega) (by omega) (by omega) hL
    have rim := rc_im (p := (p + k) % 24) (a := mA a k) g1 KTk
    generalize mnH h b m L p a (k + 1) = hc' at *
    generalize mnH h b m L p a k = hc at *
    generalize gmN (hi h 51) m L (k + 1) = s' at *
    generalize gmN (hi h 51) m L k = s at *
    rw [eW, eA]
    generalize mW (hi h 54) (hi h 51) m L a k = w at *
    generalize mA a k = ak0 at *
    have f51 : hi (mk4 hc (hi h 60) w s ak0) 51 = s := rfl
    have f54 : hi (mk4 hc (hi h 60) w s ak0) 54 = w := rfl
    have f45 : hi (mk4 hc (hi h 60) w s ak0) 45 = hi hc 45 := rfl
    have pr := PastR.rem (R' := hi hc' 45) (s' := s') p1 pk ak (show mi + k ≤ 400 by omega) (by rw [e45]; exact rim) (fun i hi0 => by rw [e45, rc_45, mix_out _ _ hi0]) eG
    refine ⟨?_, g2, ?_⟩
    · refine S1.act (p := (p + k) % 24) (a := ak0) (m := m) (L := L) (e := e) (mi := mi + k) (m' := m) (L' := L) (e' := e) (mi' := mi + (k + 1)) pk ak p1 (by omega) ?_ eN eH (fun x x0 x45 x50 x51 x54 x60 xb => ?_) (fun j j9 j10 => ?_) ?_ ?_ (fun j hj => ?_) rfl (fun i hi0 => ?_) rfl eG ?_ (by omega) (fun i hi0 => by rw [mk4_q (by omega) (by omega) (by omega) (by omega), mk4_q (by omega) (by omega) (by omega) (by omega)]; exact z0 i hi0)
      · show IM (fun r => hi hc' 45 (84 * ((p + k) % 24) + r)) s m L e (mi + k)
        rw [e45]; exact rim
      · rw [mk4_q x50 x51 x54 x60, mk4_q x50 x51 x54 x60]; exact eo x x0 x45 xb
      · show hi hc' 0 j = hi hc 0 j
        rw [e0]; exact rc_0 j9 j10
      · show hi hc' 0 9 = _
        rw [e0]; rfl
      · show hi hc' 0 10 = _
        rw [e0]; rfl
      · show upd (hi hc' 50) 4 (nI (rmA ak0)) j = upd (hi hc 50) 4 (nI ak0) j
        rw [upd_ne _ _ _ hj, upd_ne _ _ _ hj, eo 50 (by decide) (by decide) (by omega)]
      · show hi hc' 45 i = hi hc 45 i
        rw [e45, rc_45, mix_out _ _ hi0]
      · exact g2.mv (fun x x1 x2 => mk4_q (by omega) (by omega) (by omega) (by omega)) (fun _ _ => rfl) (fun _ _ => rfl)
    · rw [show (p + (k + 1)) % 24 = ((p + k) % 24 + 1) % 24 by omega]; exact pr
theorem P_minutes {n : Int32} (S : SimAt h b c) : Pair 96 190 [vI n] h := by
  obtain ⟨m, L, e, mi, y2, g⟩ := S.y
  have hm := g.2.1.1
  have hb := S.1.b
  have st := st01 S g
  obtain ⟨p, a, ⟨u1, u2, u3, u4, u5⟩, u6⟩ := S.2.2.2.2.2.2.1
  have hmi : hi h b 3 = hi h 51 19 := g.1.2.2.1.trans g.1.2.2.2.1.symm
  have s19 : hi h 51 19 = nI mi := g.1.2.2.2.1
  refine C_minutes (g.gi S.1) S.1.b u3 u1 u4 u2 (fun z => ⟨_, rfl, ?_⟩) (fun z y => ⟨_, rfl, ?_⟩) (fun z y w => ⟨_, rfl, ?_⟩) (fun z k k1 k2 hn hk => ⟨_, rfl, ?_⟩)
  · exact M_minutes S.1.1 S.1.2.2.1 g.cnt u5 u2 g.sk (fun _ => ⟨rfl, S.s⟩) (fun w _ => (st.mp z w).elim) (fun w _ _ => (st.mp z w).elim) (fun w _ _ _ _ _ _ => (st.mp z w).elim)
  · exact M_minutes S.1.1 S.1.2.2.1 g.cnt u5 u2 g.sk (fun w => (z (st.mpr w)).elim) (fun _ _ => ⟨rfl, S.s⟩) (fun _ w _ => (y w).elim) (fun _ k k1 k2 hn _ _ => (y (rng1 hn k1 k2 (by decide))).elim)
  · rw [hmi] at w
    exact M_minutes S.1.1 S.1.2.2.1 g.cnt u5 u2 g.sk (fun w => (z (st.mpr w)).elim) (fun _ w => (w y).elim) (fun _ _ _ => ⟨rfl, S.s⟩) (fun _ _ _ _ _ v _ => (w v).elim)
  · rw [hmi] at hk
    have hk4 : mi + k ≤ 400 := by
      rw [s19, hn, nI_add] at hk
      exact (nI_leI (b := 400) (by omega) (by omega)).mp hk
    obtain ⟨S1, g1, _⟩ := mn_sim S g (g.s0 S z) u1 u2 u3 u4 u5 u6 k hk4
    have o := mn_o (h := h) (b := b) (L := L) (p := p) (a := a) hm k
    obtain ⟨eN, eH⟩ := mn_h (h := h) (b := b) (m := m) (L := L) (p := p) (a := a) k
    have vv : hi (mnH h b m L p a k) b 3 = gmN (hi h 51) m L k 19 := g1.1.2.2.1.trans g1.1.2.2.2.1.symm
    rw [vv]
    generalize mnH h b m L p a k = hc at *
    have e51 := o 51 (by decide) (by decide) (by omega)
    have e50 := o 50 (by decide) (by decide) (by omega)
    have e54 := o 54 (by decide) (by decide) (by omega)
    have g3 : HS h b (hi hc 51) m L e mi := by rw [e51]; exact g
    refine M_minutes (eN.trans S.1.1) (fun q hq => by rw [eH]; exact S.1.2.2.1 q hq) g3.cnt (by rw [e50]; exact u5) u2 g3.sk (fun w => (z (st.mpr (e51 ▸ w))).elim) (fun _ w => (w (rng1 hn k1 k2 (by decide))).elim) (fun _ _ w => by rw [e51] at w; exact (w hk).elim) (fun _ k' k1' k2' hn' _ x => ?_)
    rw [nI_inj (hn'.symm.trans hn) (by omega) (by omega), e51, e54]
    refine ⟨rfl, b, c, ?_⟩
    have z := (S1.w (x := 60) (W := x) (by decide)).1
    rw [mk4_x] at z
    exact z
end Su
