/-! the class: a yard is read (printed by wip/whole/m73.py) -/
def SR (Y : Hp) (c : Nat) (s : Nat → Int32) (L m e : Nat) : Prop :=
  (hi Y c 1 = s 3 ∧ hi Y c 2 = s 4 ∧ hi Y c 3 = 0 ∧ hi Y c 4 = nI L ∧ hi Y c 8 = nI m ∧ hi Y c 10 = nI e) ∧ (s 20 = nI L ∧ s 1 = nI m ∧ s 2 = nI e ∧ L ≤ 8 ∧ m ≤ 6 ∧ e ≤ 4) ∧
  (∀ i, i < L → hi Y (c + 1) i = s (21 + i) ∧ hi Y (c + 2) i = s (29 + i) ∧ hi Y (c + 3) i = 0) ∧
  (∀ i, i < m → hr Y (c + 8 + i) 1 = some (10 + kO (s (5 + i))) ∧ hi Y (c + 8 + i) 2 = s (45 + i) ∧ ∀ k, 3 ≤ k → k ≤ 7 → hi Y (c + 8 + i) k = 0) ∧
  (∀ i, i < e → hi Y (c + 5) i = s (11 + i) ∧ hi Y (c + 6) i = s (15 + i) ∧ hi Y (c + 7) i = -1000000 ∧ s (81 + i) = -1000000)
theorem up1 {h : Hp} {k j : Nat} {v : Int32} {x y : Nat} (hn : x ≠ k ∨ y ≠ j) : hi (seti h k j v) x y = hi h x y := by
  by_cases e : x = k
  · subst e; rw [hi_seti_row, upd_ne _ _ _ (by omega)]
  · rw [hi_seti_ne _ _ _ _ _ e]
theorem up0 {h : Hp} {k j : Nat} {v : Int32} : hi (seti h k j v) k j = v := by rw [hi_seti_row]; exact upd_at _ _ _
theorem SR.coal {Y : Hp} {c : Nat} {s : Nat → Int32} {L m e : Nat} {x f : Int32} (h : SR Y c s L m e) (hL : L < 8) : SR (acH Y c L x f) c (upd (upd (upd s (21 + L) x) (29 + L) f) 20 (nI (L + 1))) (L + 1) m e := by
  obtain ⟨⟨a1, a2, a3, a4, a5, a6⟩, ⟨b1, b2, b3, b4, b5, b6⟩, hc, ht, he⟩ := h
  have us : ∀ i, i ≠ 20 → i ≠ 21 + L → i ≠ 29 + L → upd (upd (upd s (21 + L) x) (29 + L) f) 20 (nI (L + 1)) i = s i := fun i h1 h2 h3 => by rw [upd_ne _ _ _ h1, upd_ne _ _ _ h3, upd_ne _ _ _ h2]
  have uh : ∀ p q, (p = c → q ≠ 4) → (p = c + 1 → q ≠ L) → (p = c + 2 → q ≠ L) → (p = c + 3 → q ≠ L) → hi (acH Y c L x f) p q = hi Y p q := fun p q h1 h2 h3 h4 => by
    unfold acH; rw [up1 (by omega), up1 (by omega), up1 (by omega), up1 (by omega)]
  refine ⟨⟨?_, ?_, ?_, up0, ?_, ?_⟩, ⟨upd_at _ _ _, ?_, ?_, by omega, b5, b6⟩, fun i hi0 => ?_, fun i hi0 => ?_, fun i hi0 => ?_⟩
  · rw [uh _ _ (by omega) (by omega) (by omega) (by omega), us _ (by omega) (by omega) (by omega)]; exact a1
  · rw [uh _ _ (by omega) (by omega) (by omega) (by omega), us _ (by omega) (by omega) (by omega)]; exact a2
  · rw [uh _ _ (by omega) (by omega) (by omega) (by omega)]; exact a3
  · rw [uh _ _ (by omega) (by omega) (by omega) (by omega)]; exact a5
  · rw [uh _ _ (by omega) (by omega) (by omega) (by omega)]; exact a6
  · rw [us _ (by omega) (by omega) (by omega)]; exact b2
  · rw [us _ (by omega) (by omega) (by omega)]; exact b3
  · by_cases z : i = L
    · subst z
      refine ⟨?_, ?_, ?_⟩
      · unfold acH; rw [up1 (by omega), up1 (by omega), up1 (by omega), up0, upd_ne _ _ _ (by omega), upd_ne _ _ _ (by omega), upd_at]
      · unfold acH; rw [up1 (by omega), up1 (by omega), up0, upd_ne _ _ _ (by omega), upd_at]
      · unfold acH; rw [up1 (by omega), up0]
    · obtain ⟨c1, c2, c3⟩ := hc i (by omega)
      refine ⟨?_, ?_, ?_⟩
      · rw [uh _ _ (by omega) (by omega) (by omega) (by omega), us _ (by omega) (by omega) (by omega)]; exact c1
      · rw [uh _ _ (by omega) (by omega) (by omega) (by omega), us _ (by omega) (by omega) (by omega)]; exact c2
      · rw [uh _ _ (by omega) (by omega) (by omega) (by omega)]; exact c3
  · obtain ⟨c1, c2, c3⟩ := ht i hi0
    rw [us _ (by omega) (by omega) (by omega), us _ (by omega) (by omega) (by omega)]
    refine ⟨c1, ?_, fun k h1 h2 => ?_⟩
    · rw [uh _ _ (by omega) (by omega) (by omega) (by omega)]; exact c2
    · rw [uh _ _ (by omega) (by omega) (by omega) (by omega)]; exact c3 k h1 h2
  · obtain ⟨c1, c2, c3, c4⟩ := he i hi0
    rw [us _ (by omega) (by omega) (by omega), us _ (by omega) (by omega) (by omega), us _ (by omega) (by omega) (by omega), uh _ _ (by omega) (by omega) (by omega) (by omega), uh _ _ (by omega) (by omega) (by omega) (by omega), uh _ _ (by omega) (by omega) (by omega) (by omega)]
    exact ⟨c1, c2, c3, c4⟩
theorem SR.eater {Y : Hp} {c : Nat} {s : Nat → Int32} {L m e : Nat} {x f : Int32} (h : SR Y c s L m e) (hL : e < 4) : SR (aeH Y c e x f) c (upd (upd (upd (upd s (11 + e) x) (15 + e) f) (81 + e) (-1000000)) 2 (nI (e + 1))) L m (e + 1) := by
  obtain ⟨⟨a1, a2, a3, a4, a5, a6⟩, ⟨b1, b2, b3, b4, b5, b6⟩, hc, ht, he⟩ := h
  have us : ∀ i, i ≠ 2 → i ≠ 11 + e → i ≠ 15 + e → i ≠ 81 + e → upd (upd (upd (upd s (11 + e) x) (15 + e) f) (81 + e) (-1000000)) 2 (nI (e + 1)) i = s i := fun i h1 h2 h3 h4 => by rw [upd_ne _ _ _ h1, upd_ne _ _ _ h4, upd_ne _ _ _ h3, upd_ne _ _ _ h2]
  have uh : ∀ p q, (p = c → q ≠ 10) → (p = c + 5 → q ≠ e) → (p = c + 6 → q ≠ e) → (p = c + 7 → q ≠ e) → hi (aeH Y c e x f) p q = hi Y p q := fun p q h1 h2 h3 h4 => by
    unfold aeH; rw [up1 (by omega), up1 (by omega), up1 (by omega), up1 (by omega)]
  refine ⟨⟨?_, ?_, ?_, ?_, ?_, up0⟩, ⟨?_, ?_, upd_at _ _ _, b4, b5, by omega⟩, fun i hi0 => ?_, fun i hi0 => ?_, fun i hi0 => ?_⟩
  · rw [uh _ _ (by omega) (by omega) (by omega) (by omega), us _ (by omega) (by omega) (by omega) (by omega)]; exact a1
  · rw [uh _ _ (by omega) (by omega) (by omega) (by omega), us _ (by omega) (by omega) (by omega) (by omega)]; exact a2
  · rw [uh _ _ (by omega) (by omega) (by omega) (by omega)]; exact a3
  · rw [uh _ _ (by omega) (by omega) (by omega) (by omega)]; exact a4
  · rw [uh _ _ (by omega) (by omega) (by omega) (by omega)]; exact a5
  · rw [us _ (by omega) (by omega) (by omega) (by omega)]; exact b1
  · rw [us _ (by omega) (by omega) (by omega) (by omega)]; exact b2
  · obtain ⟨c1, c2, c3⟩ := hc i hi0
    refine ⟨?_, ?_, ?_⟩
    · rw [uh _ _ (by omega) (by omega) (by omega) (by omega), us _ (by omega) (by omega) (by omega) (by omega)]; exact c1
    · rw [uh _ _ (by omega) (by omega) (by omega) (by omega), us _ (by omega) (by omega) (by omega) (by omega)]; exact c2
    · rw [uh _ _ (by omega) (by omega) (by omega) (by omega)]; exact c3
  · obtain ⟨c1, c2, c3⟩ := ht i hi0
    rw [us _ (by omega) (by omega) (by omega) (by omega), us _ (by omega) (by omega) (by omega) (by omega)]
    refine ⟨c1, ?_, fun k h1 h2 => ?_⟩
    · rw [uh _ _ (by omega) (by omega) (by omega) (by omega)]; exact c2
    · rw [uh _ _ (by omega) (by omega) (by omega) (by omega)]; exact c3 k h1 h2
  · by_cases z : i = e
    · subst z
      refine ⟨?_, ?_, ?_, ?_⟩
      · unfold aeH; rw [up1 (by omega), up1 (by omega), up1 (by omega), up0, upd_ne _ _ _ (by omega), upd_ne _ _ _ (by omega), upd_ne _ _ _ (by omega), upd_at]
      · unfold aeH; rw [up1 (by omega), up1 (by omega), up0, upd_ne _ _ _ (by omega), upd_ne _ _ _ (by omega), upd_at]
      · unfold aeH; rw [up1 (by omega), up0]
      · rw [upd_ne _ _ _ (by omega), upd_at]
    · obtain ⟨c1, c2, c3, c4⟩ := he i (by omega)
      rw [us _ (by omega) (by omega) (by omega) (by omega), us _ (by omega) (by omega) (by omega) (by omega), us _ (by omega) (by omega) (by omega) (by omega), uh _ _ (by omega) (by omega) (by omega) (by omega), uh _ _ (by omega) (by omega) (by omega) (by omega), uh _ _ (by omega) (by omega) (by omega) (by omega)]
      exact ⟨c1, c2, c3, c4⟩
theorem SR.thing {Y : Hp} {c : Nat} {s : Nat → Int32} {L m e : Nat} {x f : Int32} (h : SR Y c s L m e) (hL : m < 6) : SR (atH Y c m x f) c (upd (upd (upd s (5 + m) x) (45 + m) f) 1 (nI (m + 1))) L (m + 1) e := by
  obtain ⟨⟨a1, a2, a3, a4, a5, a6⟩, ⟨b1, b2, b3, b4, b5, b6⟩, hc, ht, he⟩ := h
  have us : ∀ i, i ≠ 1 → i ≠ 5 + m → i ≠ 45 + m → upd (upd (upd s (5 + m) x) (45 + m) f) 1 (nI (m + 1)) i = s i := fun i h1 h2 h3 => by rw [upd_ne _ _ _ h1, upd_ne _ _ _ h3, upd_ne _ _ _ h2]
  have uh : ∀ p q, (p = c → q ≠ 8) → p ≠ c + 8 + m → hi (atH Y c m x f) p q = hi Y p q := fun p q h1 h2 => by
    unfold atH; rw [up1 (by omega), hi_setw_ne _ _ _ _ h2]; rfl
  have ur : ∀ p, hr (atH Y c m x f) p 1 = if p = c + 8 + m then some (10 + kO x) else hr Y p 1 := fun p => by
    show hr (setr Y (c + 8 + m) 1 (some (10 + kO x))) p 1 = _
    rw [hr_setr]
    by_cases z : p = c + 8 + m
    · rw [if_pos ⟨z, rfl⟩, if_pos z]
    · rw [if_neg (fun y => z y.1), if_neg z]
  refine ⟨⟨?_, ?_, ?_, ?_, up0, ?_⟩, ⟨?_, upd_at _ _ _, ?_, b4, by omega, b6⟩, fun i hi0 => ?_, fun i hi0 => ?_, fun i hi0 => ?_⟩
  · rw [uh _ _ (by omega) (by omega), us _ (by omega) (by omega) (by omega)]; exact a1
  · rw [uh _ _ (by omega) (by omega), us _ (by omega) (by omega) (by omega)]; exact a2
  · rw [uh _ _ (by omega) (by omega)]; exact a3
  · rw [uh _ _ (by omega) (by omega)]; exact a4
  · rw [uh _ _ (by omega) (by omega)]; exact a6
  · rw [us _ (by omega) (by omega) (by omega)]; exact b1
  · rw [us _ (by omega) (by omega) (by omega)]; exact b3
  · obtain ⟨c1, c2, c3⟩ := hc i hi0
    rw [us _ (by omega) (by omega) (by omega), us _ (by omega) (by omega) (by omega), uh _ _ (by omega) (by omega), uh _ _ (by omega) (by omega), uh _ _ (by omega) (by omega)]
    exact ⟨c1, c2, c3⟩
  · rw [ur]
    by_cases z : i = m
    · subst z
      rw [if_pos rfl, upd_ne _ _ _ (by omega), upd_ne _ _ _ (by omega), upd_at, upd_ne _ _ _ (by omega), upd_at]
      have e1 : hi (atH Y c i x f) (c + 8 + i) = coldV f (hi Y (c + 8 + i)) := by unfold atH; rw [hi_seti_ne _ _ _ _ _ (by omega), hi_setw_row]
      rw [e1]
      refine ⟨rfl, rfl, fun k h1 h2 => ?_⟩
      rcases (show k = 3 ∨ k = 4 ∨ k = 5 ∨ k = 6 ∨ k = 7 by omega) with rfl | rfl | rfl | rfl | rfl <;> rfl
    · obtain ⟨c1, c2, c3⟩ := ht i (by omega)
      rw [if_neg (by omega), us _ (by omega) (by omega) (by omega), us _ (by omega) (by omega) (by omega)]
      refine ⟨c1, ?_, fun k h1 h2 => ?_⟩
      · rw [uh _ _ (by omega) (by omega)]; exact c2
      · rw [uh _ _ (by omega) (by omega)]; exact c3 k h1 h2
  · obtain ⟨c1, c2, c3, c4⟩ := he i hi0
    rw [us _ (by omega) (by omega) (by omega), us _ (by omega) (by omega) (by omega), us _ (by omega) (by omega) (by omega), uh _ _ (by omega) (by omega), uh _ _ (by omega) (by omega), uh _ _ (by omega) (by omega)]
    exact ⟨c1, c2, c3, c4⟩
theorem CH_in (h : Hp) : seti (seti h 5 2 0) 5 3 0 = CH h 0 (0, 0) := by
  rw [CH_0 (show ((0, 0) : Nat × Nat).2 = 0 from rfl)]
  unfold QH
  rw [seti_w h, seti_setw]
  rw [show upd (upd (hi h 5) 2 0) 3 0 = qV (hi h 5) (nI 0) 0 (hi h 5 4) (hi h 5 5) by
    funext i; rw [qV_ap, upd_ap, upd_ap]
    by_cases h1 : i = 5
    · simp [h1]
    by_cases h2 : i = 4
    · simp [h2]
    by_cases h3 : i = 3
    · simp [h3]
    by_cases h4 : i = 2
    · simp [h4]; rfl
    simp [h1, h2, h3, h4]]
def clY (h : Hp) (c : Nat) (r1 r2 : Int32) : Hp := seti (seti (setw h c (clV (hi h c))) c 1 r1) c 2 r2
theorem clY_jy {h : Hp} {c : Nat} {r1 r2 : Int32} (hT : KT h c) : JY h (clY h c r1 r2) c := by
  have z : JY h (setw h c (clV (hi h c))) c := ⟨rfl, fun x hx => hi_setw_ne _ _ _ _ (by omega), fun _ _ _ => rfl, hT, fun i hi0 => congrFun (hi_setw_ne _ _ _ _ (by omega)) 0⟩
  exact (z.si (by omega)).si (by omega)
theorem clY_sr {h : Hp} {c : Nat} {r1 r2 : Int32} {s : Nat → Int32} (h3 : r1 = s 3) (h4 : r2 = s 4) (h20 : s 20 = nI 0) (h1 : s 1 = nI 0) (h2 : s 2 = nI 0) : SR (clY h c r1 r2) c s 0 0 0 := by
  have e : hi (clY h c r1 r2) c = upd (upd (clV (hi h c)) 1 r1) 2 r2 := by unfold clY; rw [hi_seti_row, hi_seti_row, hi_setw_row]
  refine ⟨?_, ⟨h20, h1, h2, by decide, by decide, by decide⟩, fun i hi0 => absurd hi0 (Nat.not_lt_zero _), fun i hi0 => absurd hi0 (Nat.not_lt_zero _), fun i hi0 => absurd hi0 (Nat.not_lt_zero _)⟩
  rw [e, ← h3, ← h4]
  exact ⟨rfl, rfl, rfl, rfl, rfl, rfl⟩
theorem pM_f {σ : Nat × Nat} {x : Int32} {k : Nat} (h : ¬ σ.2 = 0) : pM x k σ = σ := by
  unfold pM; rw [if_neg (fun z => h z.1)]
theorem pM_z {σ : Nat × Nat} {k : Nat} (h : σ.2 = 0) : pM 0 k σ = (σ.1, k) := by
  unfold pM; rw [if_pos ⟨h, rfl⟩]
theorem c_readInto {d : Nat} {h : Hp} {Q : Option AV → Hp → Prop} {n c : Nat} {T Z : Nat → Int32} (hN : hn h = 65) (hC : RC h) (hn0 : hi h 5 1 = nI n) (hn1 : n ≤ 160) (e6 : hi h 6 = T) (hcb : c = 17 ∨ c = 31) (hT : KT h c) (Z20 : Z 20 = 0) (Z1 : Z 1 = 0) (Z2 : Z 2 = 0) (kF : ¬ (pF T n Z).2 = 0 → ∀ Y a, JY h Y c → Q (some (vI 0)) (CH Y a (pF T n Z))) (kW : (pF T n Z).2 = 0 → ∀ Y a L m e, JY h Y c → SR Y c (pY T n Z).2 L m e → Q (some (vI 1)) (CH Y a (pF T n Z))) : Spec (d + 3) 15 [vR (some 5), vR (some c)] h Q := by
  refine spec_intro (by decide +kernel) rfl (Nat.le_of_ble_eq_true rfl) ?_
  refine r_aload_n (pc' := 1) d15_0 rfl rfl rfl ?_
  refine r_iconst (v := 0) (pc' := 2) d15_1 rfl (by decide) ?_
  refine r_putI (pc' := 5) d15_2 rfl o15 sp4_19_4 sh5 (fun w => absurd w (by decide)) (Or.inl rfl) (pl hN rfl) ?_
  refine r_aload_n (pc' := 6) d15_5 rfl rfl rfl ?_
  refine r_iconst (v := 0) (pc' := 7) d15_6 rfl (by decide) ?_
  refine r_putI (pc' := 10) d15_7 rfl o15 sp4_22_4 sh5 (fun w => absurd w (by decide)) (Or.inr ⟨rfl, Or.inl rfl⟩) (pl hN rfl) ?_
  rw [CH_in]
  refine r_aload_n (pc' := 11) d15_10 rfl rfl rfl ?_
  refine r_call (pc' := 14) [vR (some c)] [] d15_11 rfl o15 st4_26_10 (rcv1 (shY hcb) (plo hN (by omega))) rfl (by decide) ⟨rfl, rfl⟩ (Nat.le_of_ble_eq_true rfl) rfl (y_clear (h := CH h 0 (0, 0)) hN hcb ?_)
  rw [CH_o (by omega), CH_setw (by omega)]
  refine r_aload_n (pc' := 15) d15_14 rfl rfl rfl ?_
  refine r_aload_n (pc' := 16) d15_15 rfl rfl rfl ?_
  refine r_call (pc' := 19) [vR (some 5), vR (some c)] [] d15_16 rfl o15 st4_31_4 (rcv1 sh5 (pl hN rfl)) rfl (by decide) ⟨rfl, rfl⟩ (Nat.le_of_ble_eq_true rfl) rfl (c_readGrate (c := c) (h := setw h c (clV (hi h c))) hN hC ((congrFun (hi_setw_ne _ _ _ _ (by omega)) 1).trans hn0) hn1 ((hi_setw_ne _ _ _ _ (by omega)).trans e6) hcb ⟨Nat.zero_le _, fun _ => rfl⟩ (fun a9 r1 r2 ha9 hr9 => ?_))
  refine r_iconst (v := 0) (pc' := 20) d15_19 rfl (by decide) ?_
  refine r_istore_n (pc' := 21) (ls' := [(2, vI _), (0, vR (some 5)), (1, vR (some c))]) d15_20 rfl rfl (by decide) rfl ?_
  refine wp_pick (ls' := [(0, vR (some 5)), (1, vR (some c)), (2, vI _)]) [1, 2, 0] rfl ?_
  skip
  have lp21 : ∀ (r i : Nat) (X : PX) (Y : Hp) (a : Nat), i + r = 9 → aok n a X.1 → JY h Y c → (X.1.2 = 0 → SR Y c X.2 i 0 0) → (∀ (i2 : Int32) (Y2 : Hp) (a2 : Nat), aok n a2 (pCl T n r X).1 → JY h Y2 c → ((pCl T n r X).1.2 = 0 → ∃ L, SR Y2 c (pCl T n r X).2 L 0 0) → wp (d + 3) 15 Q 0 0 54 [(0, vR (some 5)), (1, vR (some c)), (2, vI i2)] [] (CH Y2 a2 (pCl T n r X).1)) → wp (d + 3) 15 Q 0 0 21 [(0, vR (some 5)), (1, vR (some c)), (2, vI (nI i))] [] (CH Y a X.1) := by
    intro r
    induction r with
    | zero =>
      intro i X Y a hi9 ha jY hX kc
      obtain rfl : i = 9 := by omega
      refine r_iload_n (pc' := 22) d15_21 rfl rfl rfl ?_
      refine r_bipush (v := 8) (pc' := 24) d15_22 rfl (by decide) ?_
      refine r_icmp_gt 54 (pc' := 27) d15_24 rfl rfl (fun c24 => ?_) (fun c24 => absurd (by decide) c24)
      exact kc _ Y a ha jY (fun z => ⟨_, hX z⟩)
    | succ r ih =>
      intro i X Y a hi9 ha jY hX kc
      have nY : hn Y = 65 := jY.1.trans hN
      have cY : RC Y := jY.rc hcb hC
      have n0Y : hi Y 5 1 = nI n := (congrFun (jY.2.1 5 (by omega)) 1).trans hn0
      have e6Y : hi Y 6 = T := (jY.2.1 6 (by omega)).trans e6
      unfold pCl at kc
      refine r_iload_n (pc' := 22) d15_21 rfl rfl rfl ?_
      refine r_bipush (v := 8) (pc' := 24) d15_22 rfl (by decide) ?_
      refine r_icmp_gt 54 (pc' := 27) d15_24 rfl rfl (fun c24 => absurd c24 (nI_nlt (a := 8) (b := i) (by omega) (by omega))) (fun c24 => ?_)
      refine r_aload_n (pc' := 28) d15_27 rfl rfl rfl ?_
      refine r_getI (pc' := 31) d15_28 rfl o15 sf4_22_4 sh5 (pl nY rfl) ?_
      refine wp_v QH_g3 ?_
      refine r_if_ne 54 (pc' := 34) d15_31 rfl rfl (fun c31 => ?_) (fun c31 => ?_)
      · rw [if_neg (fun z => c31 (by rw [if_pos z.1]))] at kc
        exact kc _ Y a ha jY (fun z => ⟨_, hX z⟩)
      · refine r_aload_n (pc' := 35) d15_34 rfl rfl rfl ?_
        refine r_call (pc' := 38) [vR (some 5)] [] d15_35 rfl o15 st4_35_4 (rcv1 sh5 (pl nY rfl)) rfl (by decide) ⟨rfl, rfl⟩ (Nat.le_of_ble_eq_true rfl) rfl (c_nextT nY cY n0Y hn1 e6Y (by have := ha.1; omega) ?_)
        refine r_bipush (v := 99) (pc' := 40) d15_38 rfl (by decide) ?_
        refine r_icmp_ne 54 (pc' := 43) d15_40 rfl rfl (fun c40 => ?_) (fun c40 => ?_)
        · rw [if_neg (fun z => c40 (by rw [ha.2 z.1]; exact z.2))] at kc
          exact kc _ Y a ha jY (fun z => ⟨_, hX z⟩)
        · have hG : X.1.2 = 0 := by by_cases z : X.1.2 = 0; (exact z); (rw [if_neg z] at c31; exact absurd c31 (by decide))
          have hz := c40
          rw [ha.2 hG] at hz
          have sr := hX hG
          rw [if_pos ⟨hG, hz⟩, sr.2.1.1, nI_clamp (by omega)] at kc
          refine r_aload_n (pc' := 44) d15_43 rfl rfl rfl ?_
          refine r_aload_n (pc' := 45) d15_44 rfl rfl rfl ?_
          refine r_call (pc' := 48) [vR (some 5), vR (some c)] [] d15_45 rfl o15 st4_39_4 (rcv1 sh5 (pl nY rfl)) rfl (by decide) ⟨rfl, rfl⟩ (Nat.le_of_ble_eq_true rfl) rfl (c_readCoal nY cY n0Y hn1 e6Y hcb jY.2.2.2.1 ha hG hz sr.1.2.2.2.1 (by omega) (fun a9 Y9 ha9 j9 h9 => ?_))
          refine r_iinc (v := _ + 1) (pc' := 51) (ls' := [(2, vI _), (0, vR (some 5)), (1, vR (some c))]) d15_48 rfl rfl rfl (by decide) rfl ?_
          refine r_goto 21 d15_51 rfl ?_
          refine wp_pick (ls' := [(0, vR (some 5)), (1, vR (some c)), (2, vI _)]) [1, 2, 0] rfl ?_
          rw [nI_1]
          refine ih (i + 1) (pC T n i X.1, pCs T n i X.1 X.2) Y9 a9 (by omega) ha9 (jY.tr j9) (fun z => ?_) kc
          show SR Y9 c (pCs T n i X.1 X.2) (i + 1) 0 0
          unfold pCs
          rw [if_pos z, h9 z]
          exact sr.coal (pC_lt z)
  have lp56 : ∀ (L : Nat) (r i : Nat) (X : PX) (Y : Hp) (a : Nat), i + r = 7 → aok n a X.1 → JY h Y c → (X.1.2 = 0 → SR Y c X.2 L i 0) → (∀ (i2 : Int32) (Y2 : Hp) (a2 : Nat), aok n a2 (pTl T n r X).1 → JY h Y2 c → ((pTl T n r X).1.2 = 0 → ∃ m, SR Y2 c (pTl T n r X).2 L m 0) → wp (d + 3) 15 Q 0 0 92 [(0, vR (some 5)), (1, vR (some c)), (2, vI i2)] [] (CH Y2 a2 (pTl T n r X).1)) → wp (d + 3) 15 Q 0 0 56 [(0, vR (some 5)), (1, vR (some c)), (2, vI (nI i))] [] (CH Y a X.1) := by
    intro L r
    induction r with
    | zero =>
      intro i X Y a hi9 ha jY hX kc
      obtain rfl : i = 7 := by omega
      refine r_iload_n (pc' := 57) d15_56 rfl rfl rfl ?_
      refine r_bipush (v := 6) (pc' := 59) d15_57 rfl (by decide) ?_
      refine r_icmp_gt 92 (pc' := 62) d15_59 rfl rfl (fun c59 => ?_) (fun c59 => absurd (by decide) c59)
      exact kc _ Y a ha jY (fun z => ⟨_, hX z⟩)
    | succ r ih =>
      intro i X Y a hi9 ha jY hX kc
      have nY : hn Y = 65 := jY.1.trans hN
      have cY : RC Y := jY.rc hcb hC
      have n0Y : hi Y 5 1 = nI n := (congrFun (jY.2.1 5 (by omega)) 1).trans hn0
      have e6Y : hi Y 6 = T := (jY.2.1 6 (by omega)).trans e6
      unfold pTl at kc
      refine r_iload_n (pc' := 57) d15_56 rfl rfl rfl ?_
      refine r_bipush (v := 6) (pc' := 59) d15_57 rfl (by decide) ?_
      refine r_icmp_gt 92 (pc' := 62) d15_59 rfl rfl (fun c59 => absurd c59 (nI_nlt (a := 6) (b := i) (by omega) (by omega))) (fun c59 => ?_)
      refine r_aload_n (pc' := 63) d15_62 rfl rfl rfl ?_
      refine r_getI (pc' := 66) d15_63 rfl o15 sf4_22_4 sh5 (pl nY rfl) ?_
      refine wp_v QH_g3 ?_
      refine r_if_ne 92 (pc' := 69) d15_66 rfl rfl (fun c66 => ?_) (fun c66 => ?_)
      · rw [if_neg (fun z => c66 (by rw [if_pos z.1]))] at kc
        exact kc _ Y a ha jY (fun z => ⟨_, hX z⟩)
      · refine r_aload_n (pc' := 70) d15_69 rfl rfl rfl ?_
        refine r_call (pc' := 73) [vR (some 5)] [] d15_70 rfl o15 st4_35_4 (rcv1 sh5 (pl nY rfl)) rfl (by decide) ⟨rfl, rfl⟩ (Nat.le_of_ble_eq_true rfl) rfl (c_nextT nY cY n0Y hn1 e6Y (by have := ha.1; omega) ?_)
        refine r_call (pc' := 76) [vI _] [] d15_73 rfl o15 st4_42 rcv0 rfl (by decide) ⟨rfl, rfl⟩ (Nat.le_of_ble_eq_true rfl) rfl (c_sortOf ?_)
        refine r_ldc (pc' := 78) d15_76 rfl o15 kc4_46 ?_
        refine r_icmp_eq 92 (pc' := 81) d15_78 rfl rfl (fun c78 => ?_) (fun c78 => ?_)
        · rw [if_neg (fun z => z.2 (by rw [← ha.2 z.1]; exact c78))] at kc
          exact kc _ Y a ha jY (fun z => ⟨_, hX z⟩)
        · have hG : X.1.2 = 0 := by by_cases z : X.1.2 = 0; (exact z); (rw [if_neg z] at c66; exact absurd c66 (by decide))
          have hz := c78
          rw [ha.2 hG] at hz
          have sr := hX hG
          rw [if_pos ⟨hG, hz⟩, sr.2.1.2.1, nI_clamp (by omega)] at kc
          refine r_aload_n (pc' := 82) d15_81 rfl rfl rfl ?_
          refine r_aload_n (pc' := 83) d15_82 rfl rfl rfl ?_
          refine r_call (pc' := 86) [vR (some 5), vR (some c)] [] d15_83 rfl o15 st4_47_4 (rcv1 sh5 (pl nY rfl)) rfl (by decide) ⟨rfl, rfl⟩ (Nat.le_of_ble_eq_true rfl) rfl (c_readThing (s := X.2) nY cY n0Y hn1 e6Y hcb jY.2.2.2.1 ha hG hz sr.1.2.2.2.2.1 (by omega) sr.1.2.2.2.1 sr.2.1.2.2.2.1 sr.1.2.2.2.2.2 (by decide) (fun i hi0 => (sr.2.2.2.1 i hi0).2.1) (fun a9 Y9 ha9 j9 h9 => ?_))
          refine r_iinc (v := _ + 1) (pc' := 89) (ls' := [(2, vI _), (0, vR (some 5)), (1, vR (some c))]) d15_86 rfl rfl rfl (by decide) rfl ?_
          refine r_goto 56 d15_89 rfl ?_
          refine wp_pick (ls' := [(0, vR (some 5)), (1, vR (some c)), (2, vI _)]) [1, 2, 0] rfl ?_
          rw [nI_1]
          refine ih (i + 1) (pT T n i X.2 X.1, pTs T n i X.1 X.2) Y9 a9 (by omega) ha9 (jY.tr j9) (fun z => ?_) kc
          show SR Y9 c (pTs T n i X.1 X.2) L (i + 1) 0
          unfold pTs
          rw [if_pos z, h9 z]
          exact sr.thing (pT_lt z)
  have lp94 : ∀ (L m : Nat) (r i : Nat) (X : PX) (Y : Hp) (a : Nat), i + r = 5 → aok n a X.1 → JY h Y c → (X.1.2 = 0 → SR Y c X.2 L m i) → (∀ (i2 : Int32) (Y2 : Hp) (a2 : Nat), aok n a2 (pEl T n r X).1 → JY h Y2 c → ((pEl T n r X).1.2 = 0 → ∃ e, SR Y2 c (pEl T n r X).2 L m e) → wp (d + 3) 15 Q 0 0 126 [(0, vR (some 5)), (1, vR (some c)), (2, vI i2)] [] (CH Y2 a2 (pEl T n r X).1)) → wp (d + 3) 15 Q 0 0 94 [(0, vR (some 5)), (1, vR (some c)), (2, vI (nI i))] [] (CH Y a X.1) := by
    intro L m r
    induction r with
    | zero =>
      intro i X Y a hi9 ha jY hX kc
      obtain rfl : i = 5 := by omega
      refine r_iload_n (pc' := 95) d15_94 rfl rfl rfl ?_
      refine r_iconst (v := 4) (pc' := 96) d15_95 rfl (by decide) ?_
      refine r_icmp_gt 126 (pc' := 99) d15_96 rfl rfl (fun c96 => ?_) (fun c96 => absurd (by decide) c96)
      exact kc _ Y a ha jY (fun z => ⟨_, hX z⟩)
    | succ r ih =>
      intro i X Y a hi9 ha jY hX kc
      have nY : hn Y = 65 := jY.1.trans hN
      have cY : RC Y := jY.rc hcb hC
      have n0Y : hi Y 5 1 = nI n := (congrFun (jY.2.1 5 (by omega)) 1).trans hn0
      have e6Y : hi Y 6 = T := (jY.2.1 6 (by omega)).trans e6
      unfold pEl at kc
      refine r_iload_n (pc' := 95) d15_94 rfl rfl rfl ?_
      refine r_iconst (v := 4) (pc' := 96) d15_95 rfl (by decide) ?_
      refine r_icmp_gt 126 (pc' := 99) d15_96 rfl rfl (fun c96 => absurd c96 (nI_nlt (a := 4) (b := i) (by omega) (by omega))) (fun c96 => ?_)
      refine r_aload_n (pc' := 100) d15_99 rfl rfl rfl ?_
      refine r_getI (pc' := 103) d15_100 rfl o15 sf4_22_4 sh5 (pl nY rfl) ?_
      refine wp_v QH_g3 ?_
      refine r_if_ne 126 (pc' := 106) d15_103 rfl rfl (fun c103 => ?_) (fun c103 => ?_)
      · rw [if_neg (fun z => c103 (by rw [if_pos z.1]))] at kc
        exact kc _ Y a ha jY (fun z => ⟨_, hX z⟩)
      · refine r_aload_n (pc' := 107) d15_106 rfl rfl rfl ?_
        refine r_call (pc' := 110) [vR (some 5)] [] d15_107 rfl o15 st4_35_4 (rcv1 sh5 (pl nY rfl)) rfl (by decide) ⟨rfl, rfl⟩ (Nat.le_of_ble_eq_true rfl) rfl (c_nextT nY cY n0Y hn1 e6Y (by have := ha.1; omega) ?_)
        refine r_bipush (v := 101) (pc' := 112) d15_110 rfl (by decide) ?_
        refine r_icmp_ne 126 (pc' := 115) d15_112 rfl rfl (fun c112 => ?_) (fun c112 => ?_)
        · rw [if_neg (fun z => c112 (by rw [ha.2 z.1]; exact z.2))] at kc
          exact kc _ Y a ha jY (fun z => ⟨_, hX z⟩)
        · have hG : X.1.2 = 0 := by by_cases z : X.1.2 = 0; (exact z); (rw [if_neg z] at c103; exact absurd c103 (by decide))
          have hz := c112
          rw [ha.2 hG] at hz
          have sr := hX hG
          rw [if_pos ⟨hG, hz⟩, sr.2.1.2.2.1, nI_clamp (by omega)] at kc
          refine r_aload_n (pc' := 116) d15_115 rfl rfl rfl ?_
          refine r_aload_n (pc' := 117) d15_116 rfl rfl rfl ?_
          refine r_call (pc' := 120) [vR (some 5), vR (some c)] [] d15_117 rfl o15 st4_50_4 (rcv1 sh5 (pl nY rfl)) rfl (by decide) ⟨rfl, rfl⟩ (Nat.le_of_ble_eq_true rfl) rfl (c_readEater nY cY n0Y hn1 e6Y hcb jY.2.2.2.1 ha hG hz sr.1.2.2.2.2.2 (by omega) (fun a9 Y9 ha9 j9 h9 => ?_))
          refine r_iinc (v := _ + 1) (pc' := 123) (ls' := [(2, vI _), (0, vR (some 5)), (1, vR (some c))]) d15_120 rfl rfl rfl (by decide) rfl ?_
          refine r_goto 94 d15_123 rfl ?_
          refine wp_pick (ls' := [(0, vR (some 5)), (1, vR (some c)), (2, vI _)]) [1, 2, 0] rfl ?_
          rw [nI_1]
          refine ih (i + 1) (pE T n i X.1, pEs T n i X.1 X.2) Y9 a9 (by omega) ha9 (jY.tr j9) (fun z => ?_) kc
          show SR Y9 c (pEs T n i X.1 X.2) L m (i + 1)
          unfold pEs
          rw [if_pos z, h9 z]
          exact sr.eater (pE_lt z)
  refine lp21 9 0 (pG T n (0, 0), pGs T n (0, 0) Z) _ a9 rfl ha9 (clY_jy hT) (fun z => ?_) (fun i2 Y2 a2 ha2 j2 h2 => ?_)
  · obtain ⟨e1, e2⟩ := hr9 z
    exact clY_sr e1 e2 Z20 Z1 Z2
  have jY := j2
  have fin : ∀ (i2 : Int32) (Y3 : Hp) (a3 : Nat), aok n a3 (pEl T n 5 (pTl T n 7 (pCl T n 9 (pG T n (0, 0), pGs T n (0, 0) Z)))).1 → JY h Y3 c → ((pEl T n 5 (pTl T n 7 (pCl T n 9 (pG T n (0, 0), pGs T n (0, 0) Z)))).1.2 = 0 → ∃ L m e, SR Y3 c (pEl T n 5 (pTl T n 7 (pCl T n 9 (pG T n (0, 0), pGs T n (0, 0) Z)))).2 L m e) → wp (d + 3) 15 Q 0 0 126 [(0, vR (some 5)), (1, vR (some c)), (2, vI i2)] [] (CH Y3 a3 (pEl T n 5 (pTl T n 7 (pCl T n 9 (pG T n (0, 0), pGs T n (0, 0) Z)))).1) := by
    intro i2 Y a ha jY hS
    have nY : hn Y = 65 := jY.1.trans hN
    have cY : RC Y := jY.rc hcb hC
    have n0Y : hi Y 5 1 = nI n := (congrFun (jY.2.1 5 (by omega)) 1).trans hn0
    have e6Y : hi Y 6 = T := (jY.2.1 6 (by omega)).trans e6
    have ha1 := ha.1
    have ePY : pY T n Z = (pEl T n 5 (pTl T n 7 (pCl T n 9 (pG T n (0, 0), pGs T n (0, 0) Z)))) := by unfold pY; rfl
    unfold pF at kF kW
    rw [ePY] at kF kW
    generalize hY9 : (pEl T n 5 (pTl T n 7 (pCl T n 9 (pG T n (0, 0), pGs T n (0, 0) Z)))) = P9 at ha hS kF kW ⊢
    refine r_aload_n (pc' := 127) d15_126 rfl rfl rfl ?_
    refine r_getI (pc' := 130) d15_127 rfl o15 sf4_22_4 sh5 (pl nY rfl) ?_
    refine wp_v QH_g3 ?_
    refine r_if_ne 153 (pc' := 133) d15_130 rfl rfl (fun c130 => ?_) (fun c130 => ?_)
    · refine r_aload_n (pc' := 154) d15_153 rfl rfl rfl ?_
      refine r_getI (pc' := 157) d15_154 rfl o15 sf4_22_4 sh5 (pl nY rfl) ?_
      refine wp_v QH_g3 ?_
      refine r_if_ne 164 (pc' := 160) d15_157 rfl rfl (fun c157 => ?_) (fun c157 => absurd c157 c130)
      refine r_iconst (v := 0) (pc' := 165) d15_164 rfl (by decide) ?_
      exact r_iretZ0 d15_165 rfl (by have hG : ¬ P9.1.2 = 0 := fun z => c130 (by rw [if_pos z]); rw [pM_f hG] at kF; exact kF hG Y a jY)
    · have hG : P9.1.2 = 0 := by by_cases z : P9.1.2 = 0; (exact z); (rw [if_neg z] at c130; exact absurd c130 (by decide))
      refine r_aload_n (pc' := 134) d15_133 rfl rfl rfl ?_
      refine r_getI (pc' := 137) d15_134 rfl o15 sf4_19_4 sh5 (pl nY rfl) ?_
      refine wp_v QH_g2 ?_
      refine r_aload_n (pc' := 138) d15_137 rfl rfl rfl ?_
      refine r_getI (pc' := 141) d15_138 rfl o15 sf4_15_4 sh5 (pl nY rfl) ?_
      refine wp_v (QH_g1.trans n0Y) ?_
      refine r_icmp_ge 153 (pc' := 144) d15_141 rfl rfl (fun c141 => ?_) (fun c141 => ?_)
      · refine r_aload_n (pc' := 154) d15_153 rfl rfl rfl ?_
        refine r_getI (pc' := 157) d15_154 rfl o15 sf4_22_4 sh5 (pl nY rfl) ?_
        refine wp_v QH_g3 ?_
        refine r_if_ne 164 (pc' := 160) d15_157 rfl rfl (fun c157 => absurd c130 c157) (fun c157 => ?_)
        refine r_iconst (v := 1) (pc' := 161) d15_160 rfl (by decide) ?_
        refine r_goto 165 d15_161 rfl ?_
        exact r_iretZ1 d15_165 rfl (by have h8 := (nI_leI (a := n) (b := a) (by omega) (by omega)).mp c141; rw [ha.2 hG] at h8; rw [b1 h8, pM_1] at kW; obtain ⟨L, m, e, hs⟩ := hS hG; exact kW hG Y a L m e jY hs)
      · have h8 : ¬ n ≤ P9.1.1 := fun z => c141 (nI_le (by rw [ha.2 hG]; exact z) (by omega))
        have kF2 := kF
        rw [b0 h8, pM_z hG] at kF2
        have kF2 := kF2 (show ¬ (1 : Nat) = 0 by decide)
        refine r_aload_n (pc' := 145) d15_144 rfl rfl rfl ?_
        refine r_iconst (v := 1) (pc' := 146) d15_145 rfl (by decide) ?_
        refine r_aload_n (pc' := 147) d15_146 rfl rfl rfl ?_
        refine r_getI (pc' := 150) d15_147 rfl o15 sf4_19_4 sh5 (pl nY rfl) ?_
        refine wp_v QH_g2 ?_
        refine r_call (pc' := 153) [vR (some 5), vI _, vI _] [] d15_150 rfl o15 st4_53_4 (rcv1 sh5 (pl nY rfl)) rfl (by decide) ⟨rfl, rfl⟩ (Nat.le_of_ble_eq_true rfl) rfl (c_failC (num := 1) (p := a) nY (by decide) ?_)
        refine r_aload_n (pc' := 154) d15_153 rfl rfl rfl ?_
        refine r_getI (pc' := 157) d15_154 rfl o15 sf4_22_4 sh5 (pl nY rfl) ?_
        refine wp_v QH_g3 ?_
        refine r_if_ne 164 (pc' := 160) d15_157 rfl rfl (fun c157 => ?_) (fun c157 => absurd c157 (by rw [pX_at hG ha]; exact (show ¬ (1 : Int32) = 0 by decide)))
        refine r_iconst (v := 0) (pc' := 165) d15_164 rfl (by decide) ?_
        exact r_iretZ0 d15_165 rfl (by rw [pX_at hG ha]; exact kF2 Y a jY)
  have rest2 : ∀ (i2 : Int32) (L m : Nat) (Y3 : Hp) (a3 : Nat), aok n a3 (pTl T n 7 (pCl T n 9 (pG T n (0, 0), pGs T n (0, 0) Z))).1 → JY h Y3 c → ((pTl T n 7 (pCl T n 9 (pG T n (0, 0), pGs T n (0, 0) Z))).1.2 = 0 → SR Y3 c (pTl T n 7 (pCl T n 9 (pG T n (0, 0), pGs T n (0, 0) Z))).2 L m 0) → wp (d + 3) 15 Q 0 0 92 [(0, vR (some 5)), (1, vR (some c)), (2, vI i2)] [] (CH Y3 a3 (pTl T n 7 (pCl T n 9 (pG T n (0, 0), pGs T n (0, 0) Z))).1) := by
    intro i2 L m Y a ha jY hS
    refine r_iconst (v := 0) (pc' := 93) d15_92 rfl (by decide) ?_
    refine r_istore_n (pc' := 94) (ls' := [(2, vI _), (0, vR (some 5)), (1, vR (some c))]) d15_93 rfl rfl (by decide) rfl ?_
    refine wp_pick (ls' := [(0, vR (some 5)), (1, vR (some c)), (2, vI _)]) [1, 2, 0] rfl ?_
    exact lp94 L m 5 0 (pTl T n 7 (pCl T n 9 (pG T n (0, 0), pGs T n (0, 0) Z))) Y a rfl ha jY hS (fun i3 Y3 a3 ha3 j3 h3 => fin i3 Y3 a3 ha3 j3 (fun z => by obtain ⟨e, he⟩ := h3 z; exact ⟨L, m, e, he⟩))
  have rest1 : ∀ (i2 : Int32) (L : Nat) (Y3 : Hp) (a3 : Nat), aok n a3 (pCl T n 9 (pG T n (0, 0), pGs T n (0, 0) Z)).1 → JY h Y3 c → ((pCl T n 9 (pG T n (0, 0), pGs T n (0, 0) Z)).1.2 = 0 → SR Y3 c (pCl T n 9 (pG T n (0, 0), pGs T n (0, 0) Z)).2 L 0 0) → wp (d + 3) 15 Q 0 0 54 [(0, vR (some 5)), (1, vR (some c)), (2, vI i2)] [] (CH Y3 a3 (pCl T n 9 (pG T n (0, 0), pGs T n (0, 0) Z)).1) := by
    intro i2 L Y a ha jY hS
    refine r_iconst (v := 0) (pc' := 55) d15_54 rfl (by decide) ?_
    refine r_istore_n (pc' := 56) (ls' := [(2, vI _), (0, vR (some 5)), (1, vR (some c))]) d15_55 rfl rfl (by decide) rfl ?_
    refine wp_pick (ls' := [(0, vR (some 5)), (1, vR (some c)), (2, vI _)]) [1, 2, 0] rfl ?_
    refine lp56 L 7 0 (pCl T n 9 (pG T n (0, 0), pGs T n (0, 0) Z)) Y a rfl ha jY hS (fun i3 Y3 a3 ha3 j3 h3 => ?_)
    by_cases q3 : (pTl T n 7 (pCl T n 9 (pG T n (0, 0), pGs T n (0, 0) Z))).1.2 = 0
    · obtain ⟨m, hm⟩ := h3 q3
      exact rest2 i3 L m Y3 a3 ha3 j3 (fun _ => hm)
    · exact rest2 i3 L 0 Y3 a3 ha3 j3 (fun z => absurd z q3)
  by_cases q2 : (pCl T n 9 (pG T n (0, 0), pGs T n (0, 0) Z)).1.2 = 0
  · obtain ⟨L, hL⟩ := h2 q2
    exact rest1 i2 L Y2 a2 ha2 j2 (fun _ => hL)
  · exact rest1 i2 0 Y2 a2 ha2 j2 (fun z => absurd z q2)
theorem hr_now2 (H : Hp) (b c : Nat) (v w : Int32) : hr (seti (seti (setr (setr H 0 6 (some b)) 0 5 (some c)) 0 7 v) 0 10 w) 0 5 = some c := by
  show hr (setr (setr H 0 6 (some b)) 0 5 (some c)) 0 5 = some c
  rw [hr_setr, if_pos ⟨rfl, rfl⟩]
theorem hi_yc {Y : Hp} {a b c m : Nat} {σ : Nat × Nat} {u v w : Int32} (hcb : c = 17 ∨ c = 31) (h : hi Y c 8 = nI m) : hi (seti (seti (setr (setr (seti (CH Y a σ) 5 1 u) 0 6 (some b)) 0 5 (some c)) 0 7 v) 0 10 w) c 8 = nI m := by
  rw [hi_seti_ne _ _ _ _ _ (by omega), hi_seti_ne _ _ _ _ _ (by omega)]
  show hi (seti (CH Y a σ) 5 1 u) c 8 = nI m
  rw [hi_seti_ne _ _ _ _ _ (by omega), CH_o (by omega)]; exact h
theorem C_yard {d : Nat} {h : Hp} {Q : Option AV → Hp → Prop} {n b c : Nat} {T Z : Nat → Int32} (hN : hn h = 65) (hC : RC h) (h5 : hr h 0 5 = some b) (h6 : hr h 0 6 = some c) (hb : b = 17 ∨ b = 31) (hcb : c = 17 ∨ c = 31) (hT : KT h c) (hn0 : hi h 5 1 = nI n) (hn1 : n ≤ 160) (e6 : hi h 6 = T) (Z20 : Z 20 = 0) (Z1 : Z 1 = 0) (Z2 : Z 2 = 0)
    (kF : ¬ (pF T n Z).2 = 0 → ∀ Y a, JY h Y c → Q (some (vI (-1000100 - nI (pF T n Z).1))) (seti (CH Y a (pF T n Z)) 5 1 0))
    (kW : (pF T n Z).2 = 0 → ∀ Y a L m e, JY h Y c → SR Y c (pY T n Z).2 L m e → Q (some (vI (nI m))) (seti (seti (setr (setr (seti (CH Y a (pF T n Z)) 5 1 0) 0 6 (some b)) 0 5 (some c)) 0 7 1) 0 10 0)) : Spec (d + 4) 94 [vR (some 0)] h Q := by
  refine spec_intro (by decide +kernel) rfl (Nat.le_of_ble_eq_true rfl) ?_
  refine r_aload_n (pc' := 1) d94_0 rfl rfl rfl ?_
  refine r_getS (pc' := 4) d94_1 rfl o94 sf11_19_11 sh0 (pl hN rfl) (rfc0_1 hC) ?_
  refine r_aload_n (pc' := 5) d94_4 rfl rfl rfl ?_
  refine r_getS (pc' := 8) d94_5 rfl o94 sf11_56_11 sh0 (pl hN rfl) h6 ?_
  refine r_call (pc' := 11) [vR (some 5), vR (some c)] [] d94_8 rfl o94 st11_146_4 (rcv1 sh5 (pl hN rfl)) rfl (by decide) ⟨rfl, rfl⟩ (Nat.le_of_ble_eq_true rfl) rfl (c_readInto hN hC hn0 hn1 e6 hcb hT Z20 Z1 Z2 (fun hF Y a jY => ?_) (fun hF Y a L m e jY hs => ?_))
  · generalize hF9 : pF T n Z = F at hF kF kW ⊢
    have nY : hn Y = 65 := jY.1.trans hN
    have cY : RC Y := jY.rc hcb hC
    have h6Y : hr Y 0 6 = some c := (jY.2.2.1 0 6 (by omega)).trans h6
    have h5Y : hr Y 0 5 = some b := (jY.2.2.1 0 5 (by omega)).trans h5
    refine r_istore_n (pc' := 12) (ls' := [(1, vI _), (0, vR (some 0))]) d94_11 rfl rfl (by decide) rfl ?_
    refine r_aload_n (pc' := 13) d94_12 rfl rfl rfl ?_
    refine r_getS (pc' := 16) d94_13 rfl o94 sf11_19_11 sh0 (pl nY rfl) (rfc0_1 cY) ?_
    refine r_iconst (v := 0) (pc' := 17) d94_16 rfl (by decide) ?_
    refine r_putI (pc' := 20) d94_17 rfl o94 sp11_142_4 sh5 (fun w => absurd w (by decide)) (Or.inl rfl) (pl nY rfl) ?_
    refine r_iload_n (pc' := 21) d94_20 rfl rfl rfl ?_
    refine r_if_ne 35 (pc' := 24) d94_21 rfl rfl (fun c21 => absurd rfl c21) (fun c21 => ?_)
    refine r_ldc (pc' := 26) d94_24 rfl o94 kc11_150 ?_
    refine r_aload_n (pc' := 27) d94_26 rfl rfl rfl ?_
    refine r_getS (pc' := 30) d94_27 rfl o94 sf11_19_11 sh0 (pl nY rfl) (rfc0_1 cY) ?_
    refine r_getI (pc' := 33) d94_30 rfl o94 sf11_151_4 sh5 (pl nY rfl) ?_
    refine wp_v ((up1 (Or.inr (by decide))).trans (QH_g4.trans (if_neg hF))) ?_
    refine r_isub (pc' := 34) d94_33 rfl ?_
    exact r_iretI d94_34 rfl (kF hF Y a jY)
  · generalize hF9 : pF T n Z = F at hF kF kW ⊢
    have nY : hn Y = 65 := jY.1.trans hN
    have cY : RC Y := jY.rc hcb hC
    have h6Y : hr Y 0 6 = some c := (jY.2.2.1 0 6 (by omega)).trans h6
    have h5Y : hr Y 0 5 = some b := (jY.2.2.1 0 5 (by omega)).trans h5
    refine r_istore_n (pc' := 12) (ls' := [(1, vI _), (0, vR (some 0))]) d94_11 rfl rfl (by decide) rfl ?_
    refine r_aload_n (pc' := 13) d94_12 rfl rfl rfl ?_
    refine r_getS (pc' := 16) d94_13 rfl o94 sf11_19_11 sh0 (pl nY rfl) (rfc0_1 cY) ?_
    refine r_iconst (v := 0) (pc' := 17) d94_16 rfl (by decide) ?_
    refine r_putI (pc' := 20) d94_17 rfl o94 sp11_142_4 sh5 (fun w => absurd w (by decide)) (Or.inl rfl) (pl nY rfl) ?_
    refine r_iload_n (pc' := 21) d94_20 rfl rfl rfl ?_
    refine r_if_ne 35 (pc' := 24) d94_21 rfl rfl (fun c21 => ?_) (fun c21 => absurd c21 (by decide))
    refine r_aload_n (pc' := 36) d94_35 rfl rfl rfl ?_
    refine r_getS (pc' := 39) d94_36 rfl o94 sf11_56_11 sh0 (pl nY rfl) h6Y ?_
    refine r_astore_n (pc' := 40) (ls' := [(2, vR (some c)), (1, vI _), (0, vR (some 0))]) d94_39 rfl rfl (by decide) rfl ?_
    refine r_aload_n (pc' := 41) d94_40 rfl rfl rfl ?_
    refine r_aload_n (pc' := 42) d94_41 rfl rfl rfl ?_
    refine r_getS (pc' := 45) d94_42 rfl o94 sf11_52_11 sh0 (pl nY rfl) h5Y ?_
    refine r_putR (pc' := 48) d94_45 rfl o94 sp11_56_11 sh0 (fun w => absurd w (by decide)) (Or.inl ⟨_, rfl⟩) (pl nY rfl) ?_
    refine r_aload_n (pc' := 49) d94_48 rfl rfl rfl ?_
    refine r_aload_n (pc' := 50) d94_49 rfl rfl rfl ?_
    refine r_putR (pc' := 53) d94_50 rfl o94 sp11_52_11 sh0 (fun w => absurd w (by decide)) (Or.inl ⟨_, rfl⟩) (pl nY rfl) ?_
    refine r_aload_n (pc' := 54) d94_53 rfl rfl rfl ?_
    refine r_iconst (v := 1) (pc' := 55) d94_54 rfl (by decide) ?_
    refine r_putI (pc' := 58) d94_55 rfl o94 sp11_154_11 sh0 (fun w => absurd w (by decide)) (Or.inr ⟨rfl, Or.inr rfl⟩) (pl nY rfl) ?_
    refine r_aload_n (pc' := 59) d94_58 rfl rfl rfl ?_
    refine r_iconst (v := 0) (pc' := 60) d94_59 rfl (by decide) ?_
    refine r_putI (pc' := 63) d94_60 rfl o94 sp11_158_11 sh0 (fun w => absurd w (by decide)) (Or.inl rfl) (pl nY rfl) ?_
    refine r_aload_n (pc' := 64) d94_63 rfl rfl rfl ?_
    refine r_getS (pc' := 67) d94_64 rfl o94 sf11_52_11 sh0 (pl nY rfl) (hr_now2 _ _ _ _ _) ?_
    refine r_getI (pc' := 70) d94_67 rfl o94 sf11_161_10 (shY hcb) (plo nY (by omega)) ?_
    refine wp_v (hi_yc hcb (show hi Y c 8 = nI m from hs.1.2.2.2.2.1)) ?_
    exact r_iretI d94_70 rfl (kW hF Y a L m e jY hs)
