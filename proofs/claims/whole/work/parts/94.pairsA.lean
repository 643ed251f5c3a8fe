/-! pairs: undo, image, restore (by hand) -/
section Sv
variable {h h' : Hp} {b c : Nat}
theorem SimAt.back {m L e mi : Nat} (S : SimAt h b c) (h1 : hn h' = hn h) (h2 : ∀ x y, ¬ (b + 8 ≤ x ∧ x < b + 14 ∧ y = 1) → hr h' x y = hr h x y) (h2b : KT h' b) (h3 : ∀ x, x ≠ 0 → x ≠ 50 → x ≠ 51 → ¬ (b ≤ x ∧ x < b + 14) → hi h' x = hi h x) (h4 : ∀ j, j ≠ 9 → j ≠ 10 → hi h' 0 j = hi h 0 j) (h5 : ∀ j, j ≠ 4 → hi h' 50 j = hi h 50 j) (h51 : hi h' 51 0 = hi h 51 0) (hu : SimU h') (hs : HS h' b (hi h' 51) m L e mi) (hmi : mi ≤ 400) (hz : ∀ i, i < 6 → hi h' (b + 8 + i) 0 = hi h (b + 8 + i) 0) : SimAt h' b c := by
  have hb := S.1.b
  have hst : ST h h' := fun x hx => by
    by_cases w : b + 8 ≤ x ∧ x < b + 14
    · have z := hz (x - (b + 8)) (by omega)
      rw [show b + 8 + (x - (b + 8)) = x by omega] at z; exact z
    · rw [h3 x (by omega) (by omega) (by omega) (by omega)]
  obtain ⟨⟨s1, s2, s3, s4, s5, s6, s7, s8, s9, s10⟩, sR, sS, sT, sP, sY, sU, sI⟩ := S
  have q : ∀ x, 0 < x → x < 17 → hi h' x = hi h x := fun x x1 x2 => h3 x (by omega) (by omega) (by omega) (by omega)
  have q2 : ∀ x, 45 < x → x ≠ 50 → x ≠ 51 → hi h' x = hi h x := fun x x1 x2 x3 => h3 x (by omega) x2 x3 (by omega)
  have e16 : hr h' 16 1 = hr h 16 1 := h2 _ _ (by omega)
  have ek : kq h' 16 = kq h 16 := by unfold kq; rw [e16]
  refine ⟨⟨h1.trans s1, s2.of (fun x y z1 z2 => h2 x y (by omega)), fun r hr0 => ?_, fun r hr0 => ?_, ?_, ?_, s7, h2b, s9.mv (fun i _ => h2 _ _ (by omega)), ?_⟩, sR.cg (q _ (by decide) (by decide)) (q _ (by decide) (by decide)) (q _ (by decide) (by decide)) (q2 _ (by decide) (by decide) (by decide)) (q2 _ (by decide) (by decide) (by decide)) (q2 _ (by decide) (by decide) (by decide)), by rw [h4 16 (by decide) (by decide), h5 8 (by decide)]; exact sS,
    sT.cg (by rw [q 5 (by decide) (by decide)]) (q _ (by decide) (by decide)) (q2 _ (by decide) (by decide) (by decide)) (h5 _ (by decide)) (h5 _ (by decide)) (by rw [q 5 (by decide) (by decide)]), sP.cg (by rw [q 7 (by decide) (by decide)]) (q _ (by decide) (by decide)) (q2 _ (by decide) (by decide) (by decide)) (h5 _ (by decide)),
    ⟨by rw [h4 7 (by decide) (by decide), h51]; exact sY.1, m, L, e, mi, hmi, hs⟩, hu, sI.cg (q2 _ (by decide) (by decide) (by decide)) (q2 _ (by decide) (by decide) (by decide)) h51 (q2 _ (by decide) (by decide) (by decide)) (q2 _ (by decide) (by decide) (by decide))⟩
  · rw [h2 50 r.1 (by omega)]; exact s3 r hr0
  · rw [q (10 + r) (by omega) (by omega)]; exact s4 r hr0
  · rw [h2 0 5 (by omega)]; exact s5
  · rw [h2 0 6 (by omega)]; exact s6
  · refine ⟨?_, s10.2.st hst⟩
    unfold T16; rw [ek, e16]; exact s10.1
theorem P_undo (S : SimAt h b c) : Pair 102 201 [] h := by
  obtain ⟨m0, L0, e0, mi0, y2, g⟩ := S.y
  have hb := S.1.b
  obtain ⟨p, a, ⟨u1, u2, u3, u4, u5⟩, u6⟩ := S.2.2.2.2.2.2.1
  refine C_undo (g.gi S.1) S.1.b u3 u1 u4 u2 (fun z => ⟨_, rfl, ?_⟩) (fun k hk => ⟨_, rfl, ?_⟩)
  · exact M_undo S.1.1 S.1.2.2.1 u5 u2 (fun _ => ⟨rfl, S.s⟩) (fun k hk => by omega)
  · obtain ⟨m, L, e, mi, i1, i2⟩ := u6 0 (by omega)
    have hs : HS (unH h b p k) b (mix (fun i => hi h 54 (66 * k + (i - 19))) (hi h 51) 19 66) m L e mi := by
      refine IM.hs (h := seti (seti h 0 10 (nI k)) 0 9 (nI ((p + 23) % 24))) hb (by decide) (i2.mv (fun r hr => rfl) (fun i hi0 => ?_))
      by_cases w : 19 ≤ i ∧ i < 19 + 66
      · rw [mix_in _ _ w, mix_in _ _ w]; exact congrArg (hi h 54) (by omega)
      · rw [mix_out _ _ w, mix_out _ _ w]
    have o : ∀ x, x ≠ 0 → ¬ (b ≤ x ∧ x < b + 14) → hi (unH h b p k) x = hi h x := fun x x0 xb => by
      unfold unH
      rw [ldH_o (by omega), hi_seti_ne _ _ _ _ _ x0, hi_seti_ne _ _ _ _ _ x0]
    have o0 : hi (unH h b p k) 0 = upd (upd (hi h 0) 10 (nI k)) 9 (nI ((p + 23) % 24)) := by
      unfold unH
      rw [ldH_o (by omega), hi_seti_row, hi_seti_row]
    have eN : hn (unH h b p k) = hn h := rfl
    have z0 : ∀ i, i < 6 → hi (unH h b p k) (b + 8 + i) 0 = hi h (b + 8 + i) 0 := fun i hi0 => by
      unfold unH
      rw [ld_0 hb hi0, hi_seti_ne _ _ _ _ _ (by omega), hi_seti_ne _ _ _ _ _ (by omega)]
    have eH : ∀ x y, ¬ (b + 8 ≤ x ∧ x < b + 14 ∧ y = 1) → hr (unH h b p k) x y = hr h x y := fun x y hx => ldH_hr hx
    have kt : KT (unH h b p k) b := ldH_kt
    generalize unH h b p k = hc at *
    have e50 := o 50 (by decide) (by omega)
    have e51 := o 51 (by decide) (by omega)
    have e54 := o 54 (by decide) (by omega)
    have e45 := o 45 (by decide) (by omega)
    refine M_undo (eN.trans S.1.1) (fun q hq => by rw [eH 50 q.1 (by omega)]; exact S.1.2.2.1 q hq) (by rw [e50]; exact u5) u2 (fun w => by omega) (fun k2 hk2 => ?_)
    have ek : k2 = k := by omega
    rw [ek, e54, e51]
    refine ⟨rfl, b, c, ?_⟩
    have q : ∀ x, x ≠ 50 → x ≠ 51 → hi (setw (seti hc 50 4 (nI k)) 51 (mix (fun i => hi h 54 (66 * k + (i - 19))) (hi h 51) 19 66)) x = hi hc x := fun x x1 x2 => by rw [hi_setw_ne _ _ _ _ x2, hi_seti_ne _ _ _ _ _ x1]
    have q50 : hi (setw (seti hc 50 4 (nI k)) 51 (mix (fun i => hi h 54 (66 * k + (i - 19))) (hi h 51) 19 66)) 50 = upd (hi hc 50) 4 (nI k) := rfl
    have q51 : hi (setw (seti hc 50 4 (nI k)) 51 (mix (fun i => hi h 54 (66 * k + (i - 19))) (hi h 51) 19 66)) 51 = mix (fun i => hi h 54 (66 * k + (i - 19))) (hi h 51) 19 66 := rfl
    have rN : hn (setw (seti hc 50 4 (nI k)) 51 (mix (fun i => hi h 54 (66 * k + (i - 19))) (hi h 51) 19 66)) = hn hc := rfl
    have rH : hr (setw (seti hc 50 4 (nI k)) 51 (mix (fun i => hi h 54 (66 * k + (i - 19))) (hi h 51) 19 66)) = hr hc := rfl
    have hs2 : HS (setw (seti hc 50 4 (nI k)) 51 (mix (fun i => hi h 54 (66 * k + (i - 19))) (hi h 51) 19 66)) b (mix (fun i => hi h 54 (66 * k + (i - 19))) (hi h 51) 19 66) m L e mi := hs.mv (fun x x1 x2 => q x (by omega) (by omega)) (fun _ _ => rfl) (fun _ _ => rfl)
    generalize setw (seti hc 50 4 (nI k)) 51 (mix (fun i => hi h 54 (66 * k + (i - 19))) (hi h 51) 19 66) = h2 at *
    have m0 : ∀ i, i < 19 → mix (fun i => hi h 54 (66 * k + (i - 19))) (hi h 51) 19 66 i = hi h 51 i := fun i hi0 => mix_out _ _ (by omega)
    refine S.back (rN.trans eN) (fun x y hx => by rw [rH]; exact eH x y hx) (kt.mv (fun i _ => by rw [rH])) (fun x x0 x50 x51 xb => (q x x50 x51).trans (o x x0 xb)) (fun j j9 j10 => ?_) (fun j j4 => ?_) ?_ ⟨(p + 23) % 24, k, ⟨Nat.mod_lt _ (by decide), by omega, ?_, ?_, ?_⟩, ?_⟩ (q51 ▸ hs2) i1 (fun i hi0 => by rw [q _ (by omega) (by omega)]; exact z0 i hi0)
    · rw [q 0 (by decide) (by decide), o0, upd_ne _ _ _ j9, upd_ne _ _ _ j10]
    · rw [q50, upd_ne _ _ _ j4, e50]
    · rw [q51, m0 0 (by decide)]
    · rw [q 0 (by decide) (by decide), o0, upd_at]
    · rw [q 0 (by decide) (by decide), o0, upd_ne _ _ _ (by decide), upd_at]
    · rw [q50, upd_at]
    · rw [q 45 (by decide) (by decide), q 54 (by decide) (by decide), e45, e54, q51]
      intro t ht
      obtain ⟨m2, L2, e2, mi2, v1, v2⟩ := u6 (t + 1) (by omega)
      refine ⟨m2, L2, e2, mi2, v1, v2.mv (fun r hr => ?_) (fun i hi0 => ?_)⟩
      · show hi h 45 _ = hi h 45 _
        rw [show ((p + 23) % 24 + 23 - t) % 24 = (p + 23 - (t + 1)) % 24 by omega]
      · by_cases w : 19 ≤ i ∧ i < 19 + 66
        · rw [mix_in _ _ w, mix_in _ _ w]; exact congrArg (hi h 54) (by omega)
        · rw [mix_out _ _ w, mix_out _ _ w, mix_out _ _ w]
theorem P_restore {u : Int32} (S : SimAt h b c) : Pair 136 231 [vI u] h := by
  obtain ⟨m0, L0, e0, mi0, y2, g⟩ := S.y
  have hb := S.1.b
  have I := S.2.2.2.2.2.2.2
  have b1 : ∀ k : Nat, k ≤ 1 → u = nI k → (0 ≤ u ∧ u ≤ 1) := fun k hk hu => rng hu hk (by decide)
  have ei : ∀ k, k ≤ 1 → (hi h 47 k = 0 ↔ hi h 53 k = 0) := fun k hk => by
    rcases I k (by omega) with ⟨w1, w2⟩ | ⟨w1, w2, _⟩
    · exact ⟨fun _ => w2, fun _ => w1⟩
    · rw [w1, w2]
  refine C_restore (g.gi S.1) S.1.b (fun y => ⟨_, rfl, ?_⟩) (fun k hk hu w => ⟨_, rfl, ?_⟩) (fun k hk hu w => ⟨_, rfl, ?_⟩)
  · exact M_restore S.1.1 S.1.2.2.1 (fun _ => ⟨rfl, S.s⟩) (fun k hk hu _ => (y (b1 k hk hu)).elim) (fun k hk hu _ => (y (b1 k hk hu)).elim)
  · refine M_restore S.1.1 S.1.2.2.1 (fun y => (y (b1 k hk hu)).elim) (fun _ _ _ _ => ⟨rfl, S.s⟩) (fun k2 hk2 hu2 w2 => ?_)
    rw [nI_inj (hu2.symm.trans hu) (by omega) (by omega)] at w2
    exact (w2 ((ei k hk).mp w)).elim
  · rcases I k (by omega) with ⟨w1, _⟩ | ⟨w1, w2, w3, w4, m, L, e, mi, i1, i2⟩
    · exact (w w1).elim
    have hs : HS (seti (ldH h b 46 (84 * k) 6) 0 10 0) b (mix (fun i => hi h 52 (85 * k + i)) (hi h 51) 0 85) m L e mi := by
      refine (IM.hs hb (by decide) i2).mv (fun x x1 x2 => hi_seti_ne _ _ _ _ _ (by omega)) (fun _ _ => rfl) (fun i hi0 => mix_in _ _ (by omega))
    have o : ∀ x, x ≠ 0 → ¬ (b ≤ x ∧ x < b + 14) → hi (seti (ldH h b 46 (84 * k) 6) 0 10 0) x = hi h x := fun x x0 xb => by
      rw [hi_seti_ne _ _ _ _ _ x0, ldH_o (by omega)]
    have o0 : hi (seti (ldH h b 46 (84 * k) 6) 0 10 0) 0 = upd (hi h 0) 10 0 := by
      rw [hi_seti_row, ldH_o (by omega)]
    have eN : hn (seti (ldH h b 46 (84 * k) 6) 0 10 0) = hn h := rfl
    have z0 : ∀ i, i < 6 → hi (seti (ldH h b 46 (84 * k) 6) 0 10 0) (b + 8 + i) 0 = hi h (b + 8 + i) 0 := fun i hi0 => by rw [hi_seti_ne _ _ _ _ _ (by omega), ld_0 hb hi0]
    have eH : ∀ x y, ¬ (b + 8 ≤ x ∧ x < b + 14 ∧ y = 1) → hr (seti (ldH h b 46 (84 * k) 6) 0 10 0) x y = hr h x y := fun x y hx => ldH_hr hx
    have kt : KT (seti (ldH h b 46 (84 * k) 6) 0 10 0) b := (ldH_kt (h := h) (b := b) (a := 46) (j := 84 * k))
    generalize seti (ldH h b 46 (84 * k) 6) 0 10 0 = hc at *
    have e50 := o 50 (by decide) (by omega)
    have e51 := o 51 (by decide) (by omega)
    have e52 := o 52 (by decide) (by omega)
    have e53 := o 53 (by decide) (by omega)
    refine M_restore (eN.trans S.1.1) (fun q hq => by rw [eH 50 q.1 (by omega)]; exact S.1.2.2.1 q hq) (fun y => (y (b1 k hk hu)).elim) (fun k2 hk2 hu2 v2 => ?_) (fun k2 hk2 hu2 _ => ?_)
    · rw [nI_inj (hu2.symm.trans hu) (by omega) (by omega), e53, w2] at v2
      exact absurd v2 (by decide)
    rw [nI_inj (hu2.symm.trans hu) (by omega) (by omega), e52, e51]
    refine ⟨rfl, b, c, ?_⟩
    obtain ⟨p, a, ⟨u1, u2, u3, u4, u5⟩, u6⟩ := S.2.2.2.2.2.2.1
    have q : ∀ x, x ≠ 50 → x ≠ 51 → hi (seti (setw hc 51 (mix (fun i => hi h 52 (85 * k + i)) (hi h 51) 0 85)) 50 4 0) x = hi hc x := fun x x1 x2 => by rw [hi_seti_ne _ _ _ _ _ x1, hi_setw_ne _ _ _ _ x2]
    have q50 : hi (seti (setw hc 51 (mix (fun i => hi h 52 (85 * k + i)) (hi h 51) 0 85)) 50 4 0) 50 = upd (hi hc 50) 4 0 := rfl
    have q51 : hi (seti (setw hc 51 (mix (fun i => hi h 52 (85 * k + i)) (hi h 51) 0 85)) 50 4 0) 51 = mix (fun i => hi h 52 (85 * k + i)) (hi h 51) 0 85 := rfl
    have rN : hn (seti (setw hc 51 (mix (fun i => hi h 52 (85 * k + i)) (hi h 51) 0 85)) 50 4 0) = hn hc := rfl
    have rH : hr (seti (setw hc 51 (mix (fun i => hi h 52 (85 * k + i)) (hi h 51) 0 85)) 50 4 0) = hr hc := rfl
    have hs2 : HS (seti (setw hc 51 (mix (fun i => hi h 52 (85 * k + i)) (hi h 51) 0 85)) 50 4 0) b (mix (fun i => hi h 52 (85 * k + i)) (hi h 51) 0 85) m L e mi := hs.mv (fun x x1 x2 => q x (by omega) (by omega)) (fun _ _ => rfl) (fun _ _ => rfl)
    generalize seti (setw hc 51 (mix (fun i => hi h 52 (85 * k + i)) (hi h 51) 0 85)) 50 4 0 = h2 at *
    refine S.back (rN.trans eN) (fun x y hx => by rw [rH]; exact eH x y hx) (kt.mv (fun i _ => by rw [rH])) (fun x x0 x50 x51 xb => (q x x50 x51).trans (o x x0 xb)) (fun j j9 j10 => ?_) (fun j j4 => ?_) ?_ ⟨p, 0, ⟨u1, by omega, ?_, ?_, ?_⟩, fun t ht => by omega⟩ (q51 ▸ hs2) i1 (fun i hi0 => by rw [q _ (by omega) (by omega)]; exact z0 i hi0)
    · rw [q 0 (by decide) (by decide), o0, upd_ne _ _ _ j10]
    · rw [q50, upd_ne _ _ _ j4, e50]
    · rw [q51, mix_in _ _ (by omega), w3]; exact w4
    · rw [q 0 (by decide) (by decide), o0, upd_ne _ _ _ (by decide)]; exact u3
    · rw [q 0 (by decide) (by decide), o0, upd_at]; rfl
    · rw [q50, upd_at]; rfl
theorem P_image {u : Int32} (S : SimAt h b c) : Pair 135 230 [vI u] h := by
  obtain ⟨m, L, e, mi, y2, g⟩ := S.y
  have hb := S.1.b
  have st := st01 S g
  have b1 : ∀ k : Nat, k ≤ 1 → u = nI k → (0 ≤ u ∧ u ≤ 1) := fun k hk hu => rng hu hk (by decide)
  refine C_image (g.gi S.1) S.1.b (fun y => ⟨_, rfl, ?_⟩) (fun y z => ⟨_, rfl, ?_⟩) (fun z k hk hu => ⟨_, rfl, ?_⟩)
  · exact M_image S.1.1 S.1.2.2.1 (fun _ => ⟨rfl, S.s⟩) (fun w _ => (y w).elim) (fun _ k hk hu => (y (b1 k hk hu)).elim)
  · exact M_image S.1.1 S.1.2.2.1 (fun w => (w y).elim) (fun _ _ => ⟨rfl, S.s⟩) (fun w _ _ _ => (st.mp z w).elim)
  · have o : ∀ x, x ≠ 46 → x ≠ 47 → hi (seti (imA h b 46 (84 * k) 84) 47 k 1) x = hi h x := fun x x1 x2 => by rw [hi_seti_ne _ _ _ _ _ x2, imA_o x1]
    have o46 : hi (seti (imA h b 46 (84 * k) 84) 47 k 1) 46 = mix (imG h b (84 * k)) (hi h 46) (84 * k) 84 := by rw [hi_seti_ne _ _ _ _ _ (by decide)]; unfold imA; rw [hi_setw_row]
    have o47 : hi (seti (imA h b 46 (84 * k) 84) 47 k 1) 47 = upd (hi h 47) k 1 := by rw [hi_seti_row, imA_o (by decide)]
    have eN : hn (seti (imA h b 46 (84 * k) 84) 47 k 1) = hn h := rfl
    have eH : hr (seti (imA h b 46 (84 * k) 84) 47 k 1) = hr h := rfl
    generalize seti (imA h b 46 (84 * k) 84) 47 k 1 = hc at *
    have e51 := o 51 (by decide) (by decide)
    have e52 := o 52 (by decide) (by decide)
    have e53 := o 53 (by decide) (by decide)
    have h0 := g.s0 S z
    refine M_image (eN.trans S.1.1) (fun q hq => by rw [eH]; exact S.1.2.2.1 q hq) (fun y => (y (b1 k hk hu)).elim) (fun _ w => (w (by rw [e51]; exact h0)).elim) (fun _ k2 hk2 hu2 => ?_)
    rw [nI_inj (hu2.symm.trans hu) (by omega) (by omega), e52, e51]
    refine ⟨rfl, b, c, ?_⟩
    have q : ∀ x, x ≠ 52 → x ≠ 53 → hi (seti (setw hc 52 (mix (fun i => hi h 51 (i - 85 * k)) (hi h 52) (85 * k) 85)) 53 k 1) x = hi hc x := fun x x1 x2 => by rw [hi_seti_ne _ _ _ _ _ x2, hi_setw_ne _ _ _ _ x1]
    have q52 : hi (seti (setw hc 52 (mix (fun i => hi h 51 (i - 85 * k)) (hi h 52) (85 * k) 85)) 53 k 1) 52 = mix (fun i => hi h 51 (i - 85 * k)) (hi h 52) (85 * k) 85 := rfl
    have q53 : hi (seti (setw hc 52 (mix (fun i => hi h 51 (i - 85 * k)) (hi h 52) (85 * k) 85)) 53 k 1) 53 = upd (hi hc 53) k 1 := rfl
    have rN : hn (seti (setw hc 52 (mix (fun i => hi h 51 (i - 85 * k)) (hi h 52) (85 * k) 85)) 53 k 1) = hn hc := rfl
    have rH : hr (seti (setw hc 52 (mix (fun i => hi h 51 (i - 85 * k)) (hi h 52) (85 * k) 85)) 53 k 1) = hr hc := rfl
    generalize seti (setw hc 52 (mix (fun i => hi h 51 (i - 85 * k)) (hi h 52) (85 * k) 85)) 53 k 1 = h2 at *
    have d : ∀ x, x ≠ 46 → x ≠ 47 → x ≠ 52 → x ≠ 53 → hi h2 x = hi h x := fun x x1 x2 x3 x4 => (q x x3 x4).trans (o x x1 x2)
    have kt := S.1.2.2.2.2.2.2.2.1
    obtain ⟨sB, sR, sS, sT, sP, sY, sU, sI⟩ := S
    have f : ∀ x, x < 46 → hi h2 x = hi h x := fun x hx => d x (by omega) (by omega) (by omega) (by omega)
    have f2 : ∀ x, 53 < x → hi h2 x = hi h x := fun x hx => d x (by omega) (by omega) (by omega) (by omega)
    have f50 := d 50 (by decide) (by decide) (by decide) (by decide)
    have f51 := d 51 (by decide) (by decide) (by decide) (by decide)
    refine ⟨sB.cg (rN.trans eN) (rH.trans eH) (fun x hx => f _ (by omega)) (fun x hx => by rw [f x (by omega)]), sR.cg (f _ (by decide)) (f _ (by decide)) (f _ (by decide)) (f2 _ (by decide)) (f2 _ (by decide)) (f2 _ (by decide)), by rw [f 0 (by decide), f50]; exact sS, sT.cg (by rw [f 5 (by decide)]) (f _ (by decide)) (f2 _ (by decide)) (by rw [f50]) (by rw [f50]) (by rw [f 5 (by decide)]), sP.cg (by rw [f 7 (by decide)]) (f _ (by decide)) (f2 _ (by decide)) (by rw [f50]), sY.cg (by rw [f 0 (by decide)]) f51 (fun x x1 x2 => f _ (by omega)) (rH.trans eH), sU.cg (by rw [f 0 (by decide)]) (by rw [f 0 (by decide)]) (by rw [f50]) (f _ (by decide)) (f2 _ (by decide)) f51, fun t ht => ?_⟩
    rw [q 47 (by decide) (by decide), q 46 (by decide) (by decide), o46, o47, q52, q53, e53, f51]
    by_cases w : t = k
    · rw [w, upd_at, upd_at, mix_in _ _ (by omega)]
      refine Or.inr ⟨rfl, rfl, h0, ?_, m, L, e, mi, y2, g.im kt (fun r hr => ?_) |>.mv (fun _ _ => rfl) (fun i hi0 => ?_)⟩
      · show hi h 51 (85 * k - 85 * k) = 1; rw [Nat.sub_self]; exact h0
      · show mix (imG h b (84 * k)) (hi h 46) (84 * k) 84 (84 * k + r) = yv h b r
        rw [mix_in _ _ (by omega)]
        show yv h b (84 * k + r - 84 * k) = _
        rw [show 84 * k + r - 84 * k = r by omega]
      · show mix (fun i => hi h 51 (i - 85 * k)) (hi h 52) (85 * k) 85 (85 * k + i) = hi h 51 i
        rw [mix_in _ _ (by omega)]
        exact congrArg (hi h 51) (by omega)
    · rw [upd_ne _ _ _ w, upd_ne _ _ _ w, mix_out _ _ (by omega)]
      refine (sI t ht).imp id (fun y => ⟨y.1, y.2.1, y.2.2.1, y.2.2.2.1, ?_⟩)
      obtain ⟨m2, L2, e2, mi2, v1, v2⟩ := y.2.2.2.2
      refine ⟨m2, L2, e2, mi2, v1, v2.mv (fun r hr => mix_out _ _ (by omega)) (fun i hi0 => mix_out _ _ (by omega))⟩
end Sv
