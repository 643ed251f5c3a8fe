/-! pairs: the acts (by hand) -/
theorem PastR.rem {R R' W s s' : Nat → Int32} {p a m L e mi : Nat} (g : PastR R p a W s) (hp : p < 24) (ha : a ≤ 24) (hmi : mi ≤ 400) (im : IM (fun r => R' (84 * p + r)) s m L e mi) (hR : ∀ i, ¬ (84 * p ≤ i ∧ i < 84 * p + 84) → R' i = R i) (hs : ∀ i, i < 19 → s' i = s i) : PastR R' ((p + 1) % 24) (rmA a) (rmW W a s) s' := by
  intro k hk
  have hk24 : k < 24 := Nat.lt_of_lt_of_le hk (rmA_le a)
  by_cases z : k = 0
  · subst z
    refine ⟨m, L, e, mi, hmi, im.mv (fun r hr => ?_) (fun i hi0 => ?_)⟩
    · show R' (84 * (((p + 1) % 24 + 23 - 0) % 24) + r) = R' (84 * p + r)
      rw [show ((p + 1) % 24 + 23 - 0) % 24 = p by omega]
    · by_cases w : 19 ≤ i ∧ i < 19 + 66
      · rw [mix_in _ _ w]
        unfold rmW rmA
        by_cases v : a < 24
        · rw [if_pos v, if_pos v, mix_in _ _ (by omega)]
          exact congrArg s (by omega)
        · rw [if_neg v, if_neg v, mix_in _ _ (by omega)]
          exact congrArg s (by omega)
      · rw [mix_out _ _ w]; exact hs i (by omega)
  · have hka : k - 1 < a := by unfold rmA at hk; split at hk <;> omega
    obtain ⟨m2, L2, e2, mi2, h1, h2⟩ := g (k - 1) hka
    refine ⟨m2, L2, e2, mi2, h1, h2.mv (fun r hr => ?_) (fun i hi0 => ?_)⟩
    · show R' _ = R _
      rw [show ((p + 1) % 24 + 23 - k) % 24 = (p + 23 - (k - 1)) % 24 by omega]
      exact hR _ (by omega)
    · by_cases w : 19 ≤ i ∧ i < 19 + 66
      · rw [mix_in _ _ w, mix_in _ _ w]
        unfold rmW rmA
        unfold rmA at hk
        by_cases v : a < 24
        · rw [if_pos v] at hk
          rw [if_pos v, if_pos v, mix_out _ _ (by omega)]
          exact congrArg W (by omega)
        · rw [if_neg v] at hk
          rw [if_neg v, if_neg v, mix_out _ _ (by omega)]
          unfold shL
          rw [mix_in _ _ (by omega)]
          exact congrArg W (by omega)
      · rw [mix_out _ _ w, mix_out _ _ w]; exact hs i (by omega)
section Sr
variable {h h' : Hp} {b c : Nat}
theorem rc_rm (a : Nat) : rcA a = rmA a := rfl
theorem SimAt.act {p a m L e mi m' L' e' mi' : Nat} (S : SimAt h b c) (hp : p < 24) (ha : a ≤ 24) (u6 : PastR (hi h 45) p a (hi h 54) (hi h 51)) (hmi : mi ≤ 400) (im : IM (fun r => hi h' 45 (84 * p + r)) (hi h 51) m L e mi)
    (h1 : hn h' = hn h) (h2 : hr h' = hr h) (h3 : ∀ x, x ≠ 0 → x ≠ 45 → x ≠ 50 → x ≠ 51 → x ≠ 54 → x ≠ 60 → ¬ (b ≤ x ∧ x < b + 14) → hi h' x = hi h x) (h4 : ∀ j, j ≠ 9 → j ≠ 10 → hi h' 0 j = hi h 0 j) (h9 : hi h' 0 9 = nI ((p + 1) % 24)) (h10 : hi h' 0 10 = nI (rmA a)) (h5 : ∀ j, j ≠ 4 → hi h' 50 j = hi h 50 j) (h6 : hi h' 50 4 = nI (rmA a))
    (h45 : ∀ i, ¬ (84 * p ≤ i ∧ i < 84 * p + 84) → hi h' 45 i = hi h 45 i) (h54 : hi h' 54 = rmW (hi h 54) a (hi h 51)) (h51 : ∀ i, i < 19 → hi h' 51 i = hi h 51 i) (hs : HS h' b (hi h' 51) m' L' e' mi') (hmi' : mi' ≤ 400) (hz : ∀ i, i < 6 → hi h' (b + 8 + i) 0 = hi h (b + 8 + i) 0) : SimAt h' b c := by
  have hb := S.1.b
  have hst : ST h h' := fun x hx => by
    by_cases w : b + 8 ≤ x ∧ x < b + 14
    · have z := hz (x - (b + 8)) (by omega)
      rw [show b + 8 + (x - (b + 8)) = x by omega] at z; exact z
    · rw [h3 x (by omega) (by omega) (by omega) (by omega) (by omega) (by omega) (by omega)]
  obtain ⟨sB, sR, sS, sT, sP, sY, sU, sI⟩ := S
  have q : ∀ x, 0 < x → x < 17 → hi h' x = hi h x := fun x x1 x2 => h3 x (by omega) (by omega) (by omega) (by omega) (by omega) (by omega) (by omega)
  have q2 : ∀ x, 45 < x → x ≠ 50 → x ≠ 51 → x ≠ 54 → x ≠ 60 → hi h' x = hi h x := fun x x1 x2 x3 x4 x5 => h3 x (by omega) (by omega) (by omega) (by omega) (by omega) (by omega) (by omega)
  refine ⟨sB.cg h1 h2 (fun x hx => q _ (by omega) (by omega)) hst, sR.cg (q _ (by decide) (by decide)) (q _ (by decide) (by decide)) (q _ (by decide) (by decide)) (q2 _ (by decide) (by decide) (by decide) (by decide) (by decide)) (q2 _ (by decide) (by decide) (by decide) (by decide) (by decide)) (q2 _ (by decide) (by decide) (by decide) (by decide) (by decide)), by rw [h4 16 (by decide) (by decide), h5 8 (by decide)]; exact sS,
    sT.cg (by rw [q 5 (by decide) (by decide)]) (q _ (by decide) (by decide)) (q2 _ (by decide) (by decide) (by decide) (by decide) (by decide)) (h5 _ (by decide)) (h5 _ (by decide)) (by rw [q 5 (by decide) (by decide)]), sP.cg (by rw [q 7 (by decide) (by decide)]) (q _ (by decide) (by decide)) (q2 _ (by decide) (by decide) (by decide) (by decide) (by decide)) (h5 _ (by decide)),
    ⟨by rw [h4 7 (by decide) (by decide), h51 0 (by decide)]; exact sY.1, m', L', e', mi', hmi', hs⟩, ⟨(p + 1) % 24, rmA a, ⟨Nat.mod_lt _ (by decide), rmA_le a, h9, h10, h6⟩, ?_⟩, sI.cg (q2 _ (by decide) (by decide) (by decide) (by decide) (by decide)) (q2 _ (by decide) (by decide) (by decide) (by decide) (by decide)) (h51 0 (by decide)) (q2 _ (by decide) (by decide) (by decide) (by decide) (by decide)) (q2 _ (by decide) (by decide) (by decide) (by decide) (by decide))⟩
  rw [h54]
  exact u6.rem hp ha hmi im h45 h51
theorem rc_45 {p a : Nat} : hi (rcH h b p a) 45 = mix (imG h b (84 * p)) (hi h 45) (84 * p) 84 := by
  unfold rcH
  rw [hi_seti_ne _ _ _ _ _ (by decide), hi_seti_ne _ _ _ _ _ (by decide)]
  unfold imA
  rw [hi_setw_row]
theorem rc_0 {p a j : Nat} (h9 : j ≠ 9) (h10 : j ≠ 10) : hi (rcH h b p a) 0 j = hi h 0 j := by
  unfold rcH
  rw [hi_seti, if_neg (by omega), hi_seti, if_neg (by omega), imA_o (by decide)]
theorem rc_im {s : Nat → Int32} {p a m L e mi : Nat} (g : HS h b s m L e mi) (hT : KT h b) : IM (fun r => hi (rcH h b p a) 45 (84 * p + r)) s m L e mi := by
  refine g.im hT (fun r hr => ?_)
  show hi (rcH h b p a) 45 (84 * p + r) = _
  rw [rc_45, mix_in _ _ (by omega)]
  show yv h b (84 * p + r - 84 * p) = _
  rw [show 84 * p + r - 84 * p = r by omega]
/-- what the class remembers and does, then the reference -/
theorem SimAt.act2 {hc : Hp} {s' : Nat → Int32} {p a m L e mi m' L' e' mi' : Nat} (S : SimAt h b c) (hp : p < 24) (ha : a ≤ 24) (u6 : PastR (hi h 45) p a (hi h 54) (hi h 51)) (g : HS h b (hi h 51) m L e mi) (hmi : mi ≤ 400) (h1 : hn hc = hn h) (h2 : hr hc = hr h) (h3 : ∀ x, ¬ (b ≤ x ∧ x < b + 14) → hi hc x = hi (rcH h b p a) x)
    (h51 : ∀ i, i < 19 → s' i = hi h 51 i) (hs : HS hc b s' m' L' e' mi') (hmi' : mi' ≤ 400) (hz : ∀ i, i < 6 → hi hc (b + 8 + i) 0 = hi h (b + 8 + i) 0) : Sim (mk4 hc (hi hc 60) (rmW (hi hc 54) a (hi hc 51)) s' (rmA a)) := by
  have hb := S.1.b
  have q : ∀ x, x ≠ 50 → x ≠ 51 → x ≠ 54 → hi (mk4 hc (hi hc 60) (rmW (hi hc 54) a (hi hc 51)) s' (rmA a)) x = hi hc x := fun x x1 x2 x3 => by
    show hi (seti (setw (setw (setw hc 60 (hi hc 60)) 51 s') 54 (rmW (hi hc 54) a (hi hc 51))) 50 4 (nI (rmA a))) x = _
    rw [hi_seti_ne _ _ _ _ _ x1, hi_setw_ne _ _ _ _ x3, hi_setw_ne _ _ _ _ x2]
    by_cases w : x = 60
    · rw [w, hi_setw_row]
    · rw [hi_setw_ne _ _ _ _ w]
  have o : ∀ x, x ≠ 0 → x ≠ 45 → ¬ (b ≤ x ∧ x < b + 14) → hi hc x = hi h x := fun x x0 x1 x2 => (h3 x x2).trans (rcH_o x0 x1)
  have q51 : hi (mk4 hc (hi hc 60) (rmW (hi hc 54) a (hi hc 51)) s' (rmA a)) 51 = s' := rfl
  have q54 : hi (mk4 hc (hi hc 60) (rmW (hi hc 54) a (hi hc 51)) s' (rmA a)) 54 = rmW (hi hc 54) a (hi hc 51) := rfl
  have q50 : hi (mk4 hc (hi hc 60) (rmW (hi hc 54) a (hi hc 51)) s' (rmA a)) 50 = upd (hi hc 50) 4 (nI (rmA a)) := rfl
  have eN : hn (mk4 hc (hi hc 60) (rmW (hi hc 54) a (hi hc 51)) s' (rmA a)) = hn hc := rfl
  have eH : hr (mk4 hc (hi hc 60) (rmW (hi hc 54) a (hi hc 51)) s' (rmA a)) = hr hc := rfl
  generalize mk4 hc (hi hc 60) (rmW (hi hc 54) a (hi hc 51)) s' (rmA a) = h2' at *
  rw [o 54 (by decide) (by decide) (by omega), o 51 (by decide) (by decide) (by omega)] at q54
  have e45 : hi h2' 45 = hi (rcH h b p a) 45 := (q 45 (by decide) (by decide) (by decide)).trans (h3 45 (by omega))
  have e0 : hi h2' 0 = hi (rcH h b p a) 0 := (q 0 (by decide) (by decide) (by decide)).trans (h3 0 (by omega))
  refine ⟨b, c, S.act hp ha u6 hmi (m := m) (L := L) (e := e) (m' := m') (L' := L') (e' := e') (mi' := mi') ?_ (eN.trans h1) (eH.trans h2) (fun x x0 x45 x50 x51 x54 x60 xb => (q x x50 x51 x54).trans (o x x0 x45 xb)) (fun j j9 j10 => by rw [e0]; exact rc_0 j9 j10) (by rw [e0]; rfl) (by rw [e0]; rfl) (fun j hj => by rw [q50, upd_ne _ _ _ hj, o 50 (by decide) (by decide) (by omega)]) (by rw [q50, upd_at]) (fun i hi0 => ?_) q54 (fun i hi0 => by rw [q51]; exact h51 i hi0) ?_ hmi' (fun i hi0 => by rw [q _ (by omega) (by omega) (by omega)]; exact hz i hi0)⟩
  · rw [e45]; exact rc_im g S.1.2.2.2.2.2.2.2.1
  · rw [e45, rc_45, mix_out _ _ hi0]
  · rw [q51]; exact hs.mv (fun x x1 x2 => q x (by omega) (by omega) (by omega)) (fun i _ => by rw [eH]) (fun _ _ => rfl)
theorem P_turn {t : Int32} (S : SimAt h b c) : Pair 97 191 [vI t] h := by
  obtain ⟨m, L, e, mi, y2, g⟩ := S.y
  have hm := g.2.1.1
  have hb := S.1.b
  obtain ⟨p, a, ⟨u1, u2, u3, u4, u5⟩, u6⟩ := S.2.2.2.2.2.2.1
  refine C_turn (g.gi S.1) S.1.b u3 u1 u4 u2 (fun y => ⟨_, rfl, ?_⟩) (fun j hj ht hg => ⟨_, rfl, ?_⟩) (fun j hj ht hg => ⟨_, rfl, ?_⟩)
  · exact M_turn S.1.1 S.1.2.2.1 g.cnt u5 u2 (fun _ => ⟨rfl, S.s⟩) (fun j hj ht _ => (nin y (by omega) hj ht).elim) (fun j hj ht _ => (nin y (by omega) hj ht).elim)
  · refine M_turn S.1.1 S.1.2.2.1 g.cnt u5 u2 (fun y => (nin y (by omega) hj ht).elim) (fun _ _ _ _ => ⟨rfl, S.s⟩) (fun j2 hj2 ht2 hg2 => (hg2 ?_).elim)
    rw [nI_inj (ht2.symm.trans ht) (by omega) (by omega)]; exact (g.gon j hj).mp hg
  · have o : ∀ x, x ≠ 0 → x ≠ 45 → ¬ (b ≤ x ∧ x < b + 14) → hi (setw (rcH h b p a) (b + 8 + j) (flipV (hi h (b + 8 + j)))) x = hi h x := fun x x0 x1 x2 => by rw [hi_setw_ne _ _ _ _ (by omega), rcH_o x0 x1]
    have r : ∀ x, ¬ (b ≤ x ∧ x < b + 14) → hi (setw (rcH h b p a) (b + 8 + j) (flipV (hi h (b + 8 + j)))) x = hi (rcH h b p a) x := fun x x2 => by rw [hi_setw_ne _ _ _ _ (by omega)]
    have hs : HS (setw (rcH h b p a) (b + 8 + j) (flipV (hi h (b + 8 + j)))) b (upd (hi h 51) (69 + j) (1 - hi h 51 (69 + j))) m L e mi := by
      refine (g.flip hj).mv (fun x x1 x2 => ?_) (fun _ _ => rfl) (fun _ _ => rfl)
      by_cases w : x = b + 8 + j
      · rw [w, hi_setw_row]; unfold fpH; rw [hi_setw_row]
      · rw [hi_setw_ne _ _ _ _ w, fpH_o w, rcH_o (by omega) (by omega)]
    have z0 : ∀ i, i < 6 → hi (setw (rcH h b p a) (b + 8 + j) (flipV (hi h (b + 8 + j)))) (b + 8 + i) 0 = hi h (b + 8 + i) 0 := fun i hi0 => by
      by_cases w : i = j
      · rw [w, hi_setw_row]; rfl
      · rw [hi_setw_ne _ _ _ _ (by omega), rcH_o (by omega) (by omega)]
    have eN : hn (setw (rcH h b p a) (b + 8 + j) (flipV (hi h (b + 8 + j)))) = hn h := rfl
    have eH : hr (setw (rcH h b p a) (b + 8 + j) (flipV (hi h (b + 8 + j)))) = hr h := rfl
    have eM : RM (setw (rcH h b p a) (b + 8 + j) (flipV (hi h (b + 8 + j)))) := S.1.2.2.1
    generalize setw (rcH h b p a) (b + 8 + j) (flipV (hi h (b + 8 + j))) = hc at *
    have e51 := o 51 (by decide) (by decide) (by omega)
    have t6 : hi h 51 (69 + j) = hi h (b + 8 + j) 6 := (g.2.2.2.2.2.1 j hj).2
    refine M_turn (eN.trans S.1.1) eM (by rw [e51]; exact g.cnt) (by rw [o 50 (by decide) (by decide) (by omega)]; exact u5) u2 (fun y => (nin y (by omega) hj ht).elim) (fun j2 hj2 ht2 hg2 => (hg ?_).elim) (fun j2 hj2 ht2 hg2 => ?_)
    · rw [nI_inj (ht2.symm.trans ht) (by omega) (by omega), e51] at hg2; exact (g.gon j hj).mpr hg2
    · rw [nI_inj (ht2.symm.trans ht) (by omega) (by omega)]
      refine ⟨by rw [e51, t6], S.act2 (m' := m) (L' := L) (e' := e) u1 u2 u6 g y2 eN eH r (fun i hi0 => ?_) ?_ y2 z0⟩
      · rw [e51, upd_ne _ _ _ (by omega)]
      · rw [e51]; exact hs
end Sr
