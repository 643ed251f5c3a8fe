/-! pairs: yard (by hand) -/
theorem pF_G {T Z : Nat → Int32} {n : Nat} (h : (pF T n Z).2 = 0) : (pY T n Z).1.2 = 0 := by
  unfold pF pM at h
  by_cases z : (pY T n Z).1.2 = 0 ∧ bI (n ≤ (pY T n Z).1.1) = 0
  · exact z.1
  · dsimp only at h
    rw [if_neg z] at h; exact h
theorem rV_o {f : Nat → Int32} {a b c d e : Int32} {j : Nat} (h : ¬ (11 ≤ j ∧ j ≤ 15)) : rV f a b c d e j = f j := by
  unfold rV
  rw [upd_ne _ _ _ (by omega), upd_ne _ _ _ (by omega), upd_ne _ _ _ (by omega), upd_ne _ _ _ (by omega), upd_ne _ _ _ (by omega)]
section Sx
variable {h h' : Hp} {b c : Nat}
theorem SimAt.tape (S : SimAt h b c) (h1 : hn h' = hn h) (h2 : hr h' = hr h) (h3 : ∀ x, x ≠ 5 → x ≠ 50 → x ≠ 59 → hi h' x = hi h x) (h5 : ∀ j, ¬ (10 ≤ j ∧ j ≤ 16) → hi h' 50 j = hi h 50 j) (hT : SimT h') : SimAt h' b c := by
  have hb := S.1.b
  obtain ⟨sB, sR, sS, sT, sP, sY, sU, sI⟩ := S
  have q : ∀ x, 5 < x → x < 50 → hi h' x = hi h x := fun x x1 x2 => h3 x (by omega) (by omega) (by omega)
  have q2 : ∀ x, x < 5 → hi h' x = hi h x := fun x x1 => h3 x (by omega) (by omega) (by omega)
  have q3 : ∀ x, 50 < x → x ≠ 59 → hi h' x = hi h x := fun x x1 x2 => h3 x (by omega) (by omega) x2
  exact ⟨sB.cg h1 h2 (fun x hx => q _ (by omega) (by omega)) (fun x hx => by rw [q x (by omega) (by omega)]), sR.cg (q2 _ (by decide)) (q2 _ (by decide)) (q2 _ (by decide)) (q3 _ (by decide) (by decide)) (q3 _ (by decide) (by decide)) (q3 _ (by decide) (by decide)), by rw [q2 0 (by decide), h5 8 (by decide)]; exact sS, hT,
    sP.cg (by rw [q 7 (by decide) (by decide)]) (q _ (by decide) (by decide)) (q3 _ (by decide) (by decide)) (h5 _ (by decide)), sY.cg (by rw [q2 0 (by decide)]) (q3 _ (by decide) (by decide)) (fun x x1 x2 => q _ (by omega) (by omega)) h2, sU.cg (by rw [q2 0 (by decide)]) (by rw [q2 0 (by decide)]) (h5 _ (by decide)) (q _ (by decide) (by decide)) (q3 _ (by decide) (by decide)) (q3 _ (by decide) (by decide)), sI.cg (q _ (by decide) (by decide)) (q _ (by decide) (by decide)) (by rw [q3 51 (by decide) (by decide)]) (q3 _ (by decide) (by decide)) (q3 _ (by decide) (by decide))⟩
theorem P_yard (S : SimAt h b c) : Pair 94 171 [] h := by
  have hb := S.1.b
  have hcb := S.1.c
  obtain ⟨⟨n, n1, n2, n3, n4⟩, nT⟩ := S.2.2.2.1
  have tok : tOK (hi h 58) n := fun k hk => (n4 k hk).2
  have hZ : ∀ i, i < 85 → mix (fun _ => 0) (hi h 59) 0 85 i = 0 := fun i hi0 => mix_in _ _ (by omega)
  have eF := pF_cg (T := hi h 58) (T' := hi h 6) (n := n) (fun k hk => (n4 k hk).1.symm) (mix (fun _ => 0) (hi h 59) 0 85)
  have eY := pY_cg (T := hi h 58) (T' := hi h 6) (n := n) (fun k hk => (n4 k hk).1.symm) (mix (fun _ => 0) (hi h 59) 0 85)
  refine C_yard (T := hi h 6) (Z := mix (fun _ => 0) (hi h 59) 0 85) S.1.1 S.1.2.1 S.1.2.2.2.2.1 S.1.2.2.2.2.2.1 hb hcb S.1.ktc n2 n1 rfl (hZ 20 (by decide)) (hZ 1 (by decide)) (hZ 2 (by decide)) (fun hF Y a jY => ⟨_, rfl, ?_⟩) (fun hF Y a L m e jY sr => ⟨_, rfl, ?_⟩)
  · obtain ⟨S1, _⟩ := S.spare jY.1 jY.2.2.1 (fun x _ hx2 => jY.2.1 x hx2) jY.2.2.2.1 jY.2.2.2.2
    have oY : ∀ x, 45 ≤ x → hi Y x = hi h x := fun x hx => jY.2.1 x (by omega)
    have e50 : hi (seti (CH Y a (pF (hi h 6) n (mix (fun _ => 0) (hi h 59) 0 85))) 5 1 0) 50 = hi h 50 := oY 50 (by decide)
    have e58 : hi (seti (CH Y a (pF (hi h 6) n (mix (fun _ => 0) (hi h 59) 0 85))) 5 1 0) 58 = hi h 58 := oY 58 (by decide)
    have e59 : hi (seti (CH Y a (pF (hi h 6) n (mix (fun _ => 0) (hi h 59) 0 85))) 5 1 0) 59 = hi h 59 := oY 59 (by decide)
    refine M_yard S1.1.1 S1.1.2.2.1 (n := n) (by rw [e50]; exact n3) n1 (by rw [e58]; exact tok) (fun _ s v => ?_) (fun w => ?_)
    · rw [e58, e59, eF]
      rw [e58, e59, eF] at *
      generalize pF (hi h 6) n (mix (fun _ => 0) (hi h 59) 0 85) = σ at hF ⊢
      refine ⟨rfl, b, c, S1.tape rfl rfl (fun x x1 x2 x3 => ?_) (fun j hj => ?_) ⟨⟨0, by omega, rfl, rfl, fun k hk => by omega⟩, ?_⟩⟩
      · rw [hi_seti_ne _ _ _ _ _ x2, hi_seti_ne _ _ _ _ _ x2]
        show hi (setw (setw (seti (setw Y 5 _) 5 1 0) 59 s) 50 _) x = _
        rw [hi_setw_ne _ _ _ _ x2, hi_setw_ne _ _ _ _ x3, hi_seti_ne _ _ _ _ _ x1, hi_setw_ne _ _ _ _ x1]
      · rw [hi_seti, if_neg (by omega), hi_seti, if_neg (by omega)]
        show rV (hi Y 50) _ _ _ _ _ j = _
        exact rV_o (by omega)
      · show (if σ.2 = 0 then hi Y 5 5 else nI σ.2) = nI σ.2
        rw [if_neg hF]
    · rw [e58, e59, eF] at w
      exact (hF w).elim
  · have oY : ∀ x, ¬ (c ≤ x ∧ x < c + 14) → hi Y x = hi h x := jY.2.1
    obtain ⟨L', m', e', pq⟩ := pY_v (T := hi h 6) (n := n) hZ
    obtain ⟨⟨c1, c2, c3⟩, ⟨c4, c5, c6⟩, pv⟩ := pq (pF_G hF)
    have sb := sr.2.1
    rw [nI_inj (c1.symm.trans sb.1) (by omega) (by omega), nI_inj (c2.symm.trans sb.2.1) (by omega) (by omega), nI_inj (c3.symm.trans sb.2.2.1) (by omega) (by omega)] at pv
    have hN1 : hn Y = 65 := jY.1.trans S.1.1
    have e50 : hi (seti (seti (setr (setr (seti (CH Y a (pF (hi h 6) n (mix (fun _ => 0) (hi h 59) 0 85))) 5 1 0) 0 6 (some b)) 0 5 (some c)) 0 7 1) 0 10 0) 50 = hi h 50 := oY 50 (by omega)
    have e51 : hi (seti (seti (setr (setr (seti (CH Y a (pF (hi h 6) n (mix (fun _ => 0) (hi h 59) 0 85))) 5 1 0) 0 6 (some b)) 0 5 (some c)) 0 7 1) 0 10 0) 51 = hi h 51 := oY 51 (by omega)
    have e58 : hi (seti (seti (setr (setr (seti (CH Y a (pF (hi h 6) n (mix (fun _ => 0) (hi h 59) 0 85))) 5 1 0) 0 6 (some b)) 0 5 (some c)) 0 7 1) 0 10 0) 58 = hi h 58 := oY 58 (by omega)
    have e59 : hi (seti (seti (setr (setr (seti (CH Y a (pF (hi h 6) n (mix (fun _ => 0) (hi h 59) 0 85))) 5 1 0) 0 6 (some b)) 0 5 (some c)) 0 7 1) 0 10 0) 59 = hi h 59 := oY 59 (by omega)
    have eR : ∀ x y, ¬ (x = 0 ∧ (y = 5 ∨ y = 6)) → hr (seti (seti (setr (setr (seti (CH Y a (pF (hi h 6) n (mix (fun _ => 0) (hi h 59) 0 85))) 5 1 0) 0 6 (some b)) 0 5 (some c)) 0 7 1) 0 10 0) x y = hr Y x y := fun x y hx => by
      show hr (setr (setr Y 0 6 (some b)) 0 5 (some c)) x y = _
      rw [hr_setr, if_neg (by omega), hr_setr, if_neg (by omega)]
    have rM : RM (seti (seti (setr (setr (seti (CH Y a (pF (hi h 6) n (mix (fun _ => 0) (hi h 59) 0 85))) 5 1 0) 0 6 (some b)) 0 5 (some c)) 0 7 1) 0 10 0) := fun q hq => by
      rw [eR 50 q.1 (by omega), jY.2.2.1 50 q.1 (by omega)]; exact S.1.2.2.1 q hq
    refine M_yard (n := n) hN1 rM (by rw [e50]; exact n3) n1 (by rw [e58]; exact tok) (fun w => ?_) (fun _ v => ?_)
    · rw [e58, e59, eF] at w
      exact (w hF).elim
    · rw [e58, e59, eF, eY, e51, sb.2.1]
      generalize pF (hi h 6) n (mix (fun _ => 0) (hi h 59) 0 85) = σ at hF eR rM e50 e51 e58 e59 ⊢
      generalize (pY (hi h 6) n (mix (fun _ => 0) (hi h 59) 0 85)).2 = s at sr pv sb ⊢
      refine ⟨rfl, c, b, ?_⟩
      have q : ∀ x, x ≠ 0 → x ≠ 5 → x ≠ 50 → x ≠ 51 → x ≠ 59 → hi (seti (seti (setw (seti (PH (seti (seti (setr (setr (seti (CH Y a σ) 5 1 0) 0 6 (some b)) 0 5 (some c)) 0 7 1) 0 10 0) n s σ v) 50 10 0) 51 (mix s (hi h 51) 0 85)) 51 0 1) 50 4 0) x = hi Y x := fun x x0 x5 x50 x51 x59 => by
        rw [hi_seti_ne _ _ _ _ _ x50, hi_seti_ne _ _ _ _ _ x51, hi_setw_ne _ _ _ _ x51, hi_seti_ne _ _ _ _ _ x50]
        show hi (setw (setw (seti (seti (setr (setr (seti (setw Y 5 _) 5 1 0) 0 6 (some b)) 0 5 (some c)) 0 7 1) 0 10 0) 59 s) 50 _) x = _
        rw [hi_setw_ne _ _ _ _ x50, hi_setw_ne _ _ _ _ x59, hi_seti_ne _ _ _ _ _ x0, hi_seti_ne _ _ _ _ _ x0]
        show hi (seti (setw Y 5 _) 5 1 0) x = _
        rw [hi_seti_ne _ _ _ _ _ x5, hi_setw_ne _ _ _ _ x5]
      have q0 : hi (seti (seti (setw (seti (PH (seti (seti (setr (setr (seti (CH Y a σ) 5 1 0) 0 6 (some b)) 0 5 (some c)) 0 7 1) 0 10 0) n s σ v) 50 10 0) 51 (mix s (hi h 51) 0 85)) 51 0 1) 50 4 0) 0 = upd (upd (hi Y 0) 7 1) 10 0 := rfl
      have q5 : hi (seti (seti (setw (seti (PH (seti (seti (setr (setr (seti (CH Y a σ) 5 1 0) 0 6 (some b)) 0 5 (some c)) 0 7 1) 0 10 0) n s σ v) 50 10 0) 51 (mix s (hi h 51) 0 85)) 51 0 1) 50 4 0) 5 = upd (hi (CH Y a σ) 5) 1 0 := rfl
      have q55 : hi (CH Y a σ) 5 5 = hi Y 5 5 := by
        show (if σ.2 = 0 then hi Y 5 5 else nI σ.2) = _
        rw [if_pos hF]
      have q50 : ∀ j, j ≠ 4 → ¬ (10 ≤ j ∧ j ≤ 15) → hi (seti (seti (setw (seti (PH (seti (seti (setr (setr (seti (CH Y a σ) 5 1 0) 0 6 (some b)) 0 5 (some c)) 0 7 1) 0 10 0) n s σ v) 50 10 0) 51 (mix s (hi h 51) 0 85)) 51 0 1) 50 4 0) 50 j = hi h 50 j := fun j j1 j2 => by
        rw [hi_seti, if_neg (by omega), hi_seti_ne _ _ _ _ _ (by decide), hi_setw_ne _ _ _ _ (by decide), hi_seti, if_neg (by omega)]
        show rV (hi Y 50) _ _ _ _ _ j = _
        rw [rV_o (by omega), oY 50 (by omega)]
      have q504 : hi (seti (seti (setw (seti (PH (seti (seti (setr (setr (seti (CH Y a σ) 5 1 0) 0 6 (some b)) 0 5 (some c)) 0 7 1) 0 10 0) n s σ v) 50 10 0) 51 (mix s (hi h 51) 0 85)) 51 0 1) 50 4 0) 50 4 = 0 := rfl
      have q510 : hi (seti (seti (setw (seti (PH (seti (seti (setr (setr (seti (CH Y a σ) 5 1 0) 0 6 (some b)) 0 5 (some c)) 0 7 1) 0 10 0) n s σ v) 50 10 0) 51 (mix s (hi h 51) 0 85)) 51 0 1) 50 4 0) 50 10 = 0 := rfl
      have q51 : hi (seti (seti (setw (seti (PH (seti (seti (setr (setr (seti (CH Y a σ) 5 1 0) 0 6 (some b)) 0 5 (some c)) 0 7 1) 0 10 0) n s σ v) 50 10 0) 51 (mix s (hi h 51) 0 85)) 51 0 1) 50 4 0) 51 = upd (mix s (hi h 51) 0 85) 0 1 := rfl
      have rN : hn (seti (seti (setw (seti (PH (seti (seti (setr (setr (seti (CH Y a σ) 5 1 0) 0 6 (some b)) 0 5 (some c)) 0 7 1) 0 10 0) n s σ v) 50 10 0) 51 (mix s (hi h 51) 0 85)) 51 0 1) 50 4 0) = hn Y := rfl
      have rR : ∀ x y, ¬ (x = 0 ∧ (y = 5 ∨ y = 6)) → hr (seti (seti (setw (seti (PH (seti (seti (setr (setr (seti (CH Y a σ) 5 1 0) 0 6 (some b)) 0 5 (some c)) 0 7 1) 0 10 0) n s σ v) 50 10 0) 51 (mix s (hi h 51) 0 85)) 51 0 1) 50 4 0) x y = hr Y x y := eR
      have r5 : hr (seti (seti (setw (seti (PH (seti (seti (setr (setr (seti (CH Y a σ) 5 1 0) 0 6 (some b)) 0 5 (some c)) 0 7 1) 0 10 0) n s σ v) 50 10 0) 51 (mix s (hi h 51) 0 85)) 51 0 1) 50 4 0) 0 5 = some c := rfl
      have r6 : hr (seti (seti (setw (seti (PH (seti (seti (setr (setr (seti (CH Y a σ) 5 1 0) 0 6 (some b)) 0 5 (some c)) 0 7 1) 0 10 0) n s σ v) 50 10 0) 51 (mix s (hi h 51) 0 85)) 51 0 1) 50 4 0) 0 6 = some b := rfl
      generalize seti (seti (setw (seti (PH (seti (seti (setr (setr (seti (CH Y a σ) 5 1 0) 0 6 (some b)) 0 5 (some c)) 0 7 1) 0 10 0) n s σ v) 50 10 0) 51 (mix s (hi h 51) 0 85)) 51 0 1) 50 4 0 = h2 at *
      have rh : ∀ x y, ¬ (x = 0 ∧ (y = 5 ∨ y = 6)) → ¬ (c + 8 ≤ x ∧ x < c + 14 ∧ y = 1) → hr h2 x y = hr h x y := fun x y w1 w2 => (rR x y w1).trans (jY.2.2.1 x y w2)
      have d : ∀ x, x ≠ 0 → x ≠ 5 → x ≠ 50 → x ≠ 51 → x ≠ 59 → ¬ (c ≤ x ∧ x < c + 14) → hi h2 x = hi h x := fun x x0 x5 x50 x51 x59 xc => (q x x0 x5 x50 x51 x59).trans (oY x xc)
      have f : ∀ x, 0 < x → x < 17 → x ≠ 5 → hi h2 x = hi h x := fun x x1 x2 x3 => d x (by omega) x3 (by omega) (by omega) (by omega) (by omega)
      have f2 : ∀ x, 45 ≤ x → x ≠ 50 → x ≠ 51 → x ≠ 59 → hi h2 x = hi h x := fun x x1 x2 x3 x4 => d x (by omega) (by omega) x2 x3 x4 (by omega)
      have g0 : ∀ j, j ≠ 7 → j ≠ 10 → hi h2 0 j = hi h 0 j := fun j j1 j2 => by rw [q0, upd_ne _ _ _ j2, upd_ne _ _ _ j1, oY 0 (by omega)]
      have hst : ST h h2 := fun x hx => by
        rw [q x (by omega) (by omega) (by omega) (by omega) (by omega)]
        by_cases w : c + 8 ≤ x ∧ x < c + 14
        · have z := jY.2.2.2.2 (x - (c + 8)) (by omega)
          rw [show c + 8 + (x - (c + 8)) = x by omega] at z; exact z
        · rw [oY x (by omega)]
      have e16 : hr h2 16 1 = hr h 16 1 := rh _ _ (by omega) (by omega)
      have ek : kq h2 16 = kq h 16 := by unfold kq; rw [e16]
      have s0 : hi h2 51 0 = 1 := by rw [q51, upd_at]
      obtain ⟨⟨s1, s2, s3, s4, s5, s6, s7, s8, s9, s10⟩, sR, sS, sT, sP, sY, sU, sI⟩ := S
      obtain ⟨p, u, ⟨u1, u2, u3, u4, u5⟩, u6⟩ := sU
      have hs : HS h2 c (hi h2 51) m L e 0 := sr.hs pv (fun x x1 x2 => q x (by omega) (by omega) (by omega) (by omega) (by omega)) (fun i hi0 => rR _ _ (by omega)) s0 (fun i i1 i2 => by rw [q51, upd_ne _ _ _ (by omega), mix_in _ _ (by omega)])
      refine ⟨⟨rN.trans hN1, s2.of (fun x y z1 z2 => rh x y z2 (by omega)), fun r hr0 => ?_, fun r hr0 => ?_, r5, r6, by omega, jY.2.2.2.1.mv (fun i _ => rR _ _ (by omega)), s8.mv (fun i _ => rh _ _ (by omega) (by omega)), ?_, s10.2.st hst⟩, sR.cg (f _ (by decide) (by decide) (by decide)) (f _ (by decide) (by decide) (by decide)) (f _ (by decide) (by decide) (by decide)) (f2 _ (by decide) (by decide) (by decide) (by decide)) (f2 _ (by decide) (by decide) (by decide) (by decide)) (f2 _ (by decide) (by decide) (by decide) (by decide)), by rw [g0 16 (by decide) (by decide), q50 8 (by decide) (by decide)]; exact sS, ⟨⟨0, by omega, by rw [q5, upd_at]; rfl, q510, fun k hk => by omega⟩, ?_⟩, sP.cg (by rw [f 7 (by decide) (by decide) (by decide)]) (f _ (by decide) (by decide) (by decide)) (f2 _ (by decide) (by decide) (by decide) (by decide)) (q50 _ (by decide) (by decide)), ⟨?_, m, L, e, 0, by omega, hs⟩, ⟨p, 0, ⟨u1, by omega, (g0 9 (by decide) (by decide)).trans u3, by rw [q0, upd_at]; rfl, q504⟩, fun k hk => by omega⟩, fun k hk => ?_⟩
      · rw [rh 50 r.1 (by omega) (by omega)]; exact s3 r hr0
      · rw [f (10 + r) (by omega) (by omega) (by omega)]; exact s4 r hr0
      · unfold T16; rw [ek, e16]; exact s10.1
      · rw [q5, upd_ne _ _ _ (by decide), q55, q50 16 (by decide) (by decide), oY 5 (by omega)]; exact nT
      · rw [s0, q0, upd_ne _ _ _ (by decide), upd_at]
      · rw [s0, f2 46 (by decide) (by decide) (by decide) (by decide), f2 47 (by decide) (by decide) (by decide) (by decide), f2 52 (by decide) (by decide) (by decide) (by decide), f2 53 (by decide) (by decide) (by decide) (by decide)]
        exact (sI k hk).imp id (fun y => ⟨y.1, y.2.1, rfl, y.2.2.2.1, y.2.2.2.2⟩)
end Sx
