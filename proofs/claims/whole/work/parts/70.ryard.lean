/-! the reference: the yard (printed by wip/whole/m70.py) -/
abbrev PX := (Nat × Nat) × (Nat → Int32)
def pCl (T : Nat → Int32) (n : Nat) : Nat → PX → PX
  | 0, X => X
  | r + 1, X => if X.1.2 = 0 ∧ zB T n X.1.1 = 99 then pCl T n r (pC T n (X.2 20).toNatClampNeg X.1, pCs T n (X.2 20).toNatClampNeg X.1 X.2) else X
def pTl (T : Nat → Int32) (n : Nat) : Nat → PX → PX
  | 0, X => X
  | r + 1, X => if X.1.2 = 0 ∧ ¬ srt (zB T n X.1.1) = -1000000 then pTl T n r (pT T n (X.2 1).toNatClampNeg X.2 X.1, pTs T n (X.2 1).toNatClampNeg X.1 X.2) else X
def pEl (T : Nat → Int32) (n : Nat) : Nat → PX → PX
  | 0, X => X
  | r + 1, X => if X.1.2 = 0 ∧ zB T n X.1.1 = 101 then pEl T n r (pE T n (X.2 2).toNatClampNeg X.1, pEs T n (X.2 2).toNatClampNeg X.1 X.2) else X
def pY (T : Nat → Int32) (n : Nat) (Z : Nat → Int32) : PX := pEl T n 5 (pTl T n 7 (pCl T n 9 (pG T n (0, 0), pGs T n (0, 0) Z)))
def pF (T : Nat → Int32) (n : Nat) (Z : Nat → Int32) : Nat × Nat := pM (bI (n ≤ (pY T n Z).1.1)) 1 (pY T n Z).1
theorem pC_ok {T : Nat → Int32} {n L : Nat} {σ : Nat × Nat} (hz : zB T n σ.1 = 99) : okS n (pC T n L σ) := pS_ok (pN_ok (pS_ok (pN_ok (pL_ok hz (by decide))) (by decide))) (by decide)
theorem pT_ok {T : Nat → Int32} {n m : Nat} {s : Nat → Int32} {σ : Nat × Nat} (hz : ¬ srt (zB T n σ.1) = -1000000) : okS n (pT T n m s σ) := pS_ok (pNP_ok (pL_ok rfl (let_0 (srt_l hz)))) (by decide)
theorem pE_ok {T : Nat → Int32} {n e : Nat} {σ : Nat × Nat} (hz : zB T n σ.1 = 101) : okS n (pE T n e σ) := pS_ok (pN_ok (pK_ok (pL_ok hz (by decide)))) (by decide)
theorem pCs_o {T : Nat → Int32} {n L : Nat} {σ : Nat × Nat} {s : Nat → Int32} {i : Nat} (h1 : i ≠ 20) (h2 : i ≠ 21 + L) (h3 : i ≠ 29 + L) : pCs T n L σ s i = s i := by
  unfold pCs; split
  · rw [upd_ne _ _ _ h1, upd_ne _ _ _ h3, upd_ne _ _ _ h2]
  · rfl
theorem pTs_o {T : Nat → Int32} {n m : Nat} {σ : Nat × Nat} {s : Nat → Int32} {i : Nat} (h1 : i ≠ 1) (h2 : i ≠ 5 + m) (h3 : i ≠ 45 + m) : pTs T n m σ s i = s i := by
  unfold pTs; split
  · rw [upd_ne _ _ _ h1, upd_ne _ _ _ h3, upd_ne _ _ _ h2]
  · rfl
theorem pEs_o {T : Nat → Int32} {n e : Nat} {σ : Nat × Nat} {s : Nat → Int32} {i : Nat} (h1 : i ≠ 2) (h2 : i ≠ 11 + e) (h3 : i ≠ 15 + e) (h4 : i ≠ 81 + e) : pEs T n e σ s i = s i := by
  unfold pEs; split
  · rw [upd_ne _ _ _ h1, upd_ne _ _ _ h4, upd_ne _ _ _ h3, upd_ne _ _ _ h2]
  · rfl
theorem pCs_20 {T : Nat → Int32} {n L : Nat} {σ : Nat × Nat} {s : Nat → Int32} (h : (pC T n L σ).2 = 0) : pCs T n L σ s 20 = nI (L + 1) := by unfold pCs; rw [if_pos h]; exact upd_at _ _ _
theorem pTs_1 {T : Nat → Int32} {n m : Nat} {σ : Nat × Nat} {s : Nat → Int32} (h : (pT T n m s σ).2 = 0) : pTs T n m σ s 1 = nI (m + 1) := by unfold pTs; rw [if_pos h]; exact upd_at _ _ _
theorem pEs_2 {T : Nat → Int32} {n e : Nat} {σ : Nat × Nat} {s : Nat → Int32} (h : (pE T n e σ).2 = 0) : pEs T n e σ s 2 = nI (e + 1) := by unfold pEs; rw [if_pos h]; exact upd_at _ _ _
/-- what the three loops keep: the counts, while no fault is found -/
def cOK (X : PX) (a b c : Nat) : Prop := X.1.2 = 0 → X.2 20 = nI a ∧ X.2 1 = nI b ∧ X.2 2 = nI c
theorem pCl_k (T : Nat → Int32) (n : Nat) : ∀ r X L, okS n X.1 → cOK X L 0 0 → L ≤ 8 → L + r = 9 → okS n (pCl T n r X).1 ∧ ∃ L', L' ≤ 8 ∧ cOK (pCl T n r X) L' 0 0 := by
  intro r
  induction r with
  | zero => intro X L h1 h2 h3 _; exact ⟨h1, L, h3, h2⟩
  | succ r ih =>
    intro X L h1 h2 h3 h4
    unfold pCl
    split
    · next z =>
      obtain ⟨c1, c2, c3⟩ := h2 z.1
      rw [c1, nI_clamp (by omega)]
      by_cases hz : (pC T n L X.1).2 = 0
      · have hL := pC_lt hz
        exact ih _ (L + 1) (pC_ok z.2) (fun _ => ⟨pCs_20 hz, by show pCs T n L X.1 X.2 1 = _; rw [pCs_o (by decide) (by omega) (by omega)]; exact c2, by show pCs T n L X.1 X.2 2 = _; rw [pCs_o (by decide) (by omega) (by omega)]; exact c3⟩) (by omega) (by omega)
      · cases r with
        | zero => exact ⟨pC_ok z.2, L, h3, fun y => absurd y hz⟩
        | succ r =>
          unfold pCl
          rw [if_neg (fun y => hz y.1)]
          exact ⟨pC_ok z.2, L, h3, fun y => absurd y hz⟩
    · exact ⟨h1, L, h3, h2⟩
theorem pTl_k (T : Nat → Int32) (n : Nat) : ∀ r X L m, okS n X.1 → cOK X L m 0 → m ≤ 6 → m + r = 7 → okS n (pTl T n r X).1 ∧ ∃ m', m' ≤ 6 ∧ cOK (pTl T n r X) L m' 0 := by
  intro r
  induction r with
  | zero => intro X L m h1 h2 h3 _; exact ⟨h1, m, h3, h2⟩
  | succ r ih =>
    intro X L m h1 h2 h3 h4
    unfold pTl
    split
    · next z =>
      obtain ⟨c1, c2, c3⟩ := h2 z.1
      rw [c2, nI_clamp (by omega)]
      by_cases hz : (pT T n m X.2 X.1).2 = 0
      · have hL := pT_lt hz
        exact ih _ L (m + 1) (pT_ok z.2) (fun _ => ⟨by show pTs T n m X.1 X.2 20 = _; rw [pTs_o (by decide) (by omega) (by omega)]; exact c1, pTs_1 hz, by show pTs T n m X.1 X.2 2 = _; rw [pTs_o (by decide) (by omega) (by omega)]; exact c3⟩) (by omega) (by omega)
      · cases r with
        | zero => exact ⟨pT_ok z.2, m, h3, fun y => absurd y hz⟩
        | succ r =>
          unfold pTl
          rw [if_neg (fun y => hz y.1)]
          exact ⟨pT_ok z.2, m, h3, fun y => absurd y hz⟩
    · exact ⟨h1, m, h3, h2⟩
theorem pEl_k (T : Nat → Int32) (n : Nat) : ∀ r X L m e, okS n X.1 → cOK X L m e → e ≤ 4 → e + r = 5 → okS n (pEl T n r X).1 ∧ ∃ e', e' ≤ 4 ∧ cOK (pEl T n r X) L m e' := by
  intro r
  induction r with
  | zero => intro X L m e h1 h2 h3 _; exact ⟨h1, e, h3, h2⟩
  | succ r ih =>
    intro X L m e h1 h2 h3 h4
    unfold pEl
    split
    · next z =>
      obtain ⟨c1, c2, c3⟩ := h2 z.1
      rw [c3, nI_clamp (by omega)]
      by_cases hz : (pE T n e X.1).2 = 0
      · have hL := pE_lt hz
        exact ih _ L m (e + 1) (pE_ok z.2) (fun _ => ⟨by show pEs T n e X.1 X.2 20 = _; rw [pEs_o (by decide) (by omega) (by omega) (by omega)]; exact c1, by show pEs T n e X.1 X.2 1 = _; rw [pEs_o (by decide) (by omega) (by omega) (by omega)]; exact c2, pEs_2 hz⟩) (by omega) (by omega)
      · cases r with
        | zero => exact ⟨pE_ok z.2, e, h3, fun y => absurd y hz⟩
        | succ r =>
          unfold pEl
          rw [if_neg (fun y => hz y.1)]
          exact ⟨pE_ok z.2, e, h3, fun y => absurd y hz⟩
    · exact ⟨h1, e, h3, h2⟩
theorem zT_0 {T : Nat → Int32} {n p : Nat} : zT T n p = 0 ↔ n ≤ p := by
  constructor
  · intro h
    unfold zT at h
    by_cases z : n ≤ p
    · exact z
    · rw [if_neg z] at h
      split at h
      · split at h <;> exact absurd h (by decide)
      · unfold zk at h
        split at h
        · exact absurd h (by decide)
        · split at h <;> exact absurd h (by decide)
  · intro h; exact if_pos h
theorem RH_in (h : Hp) (s : Nat → Int32) : setw h 59 s = RH h s (hi h 50 11) (hi h 50 12) (hi h 50 13) (hi h 50 14) (hi h 50 15) := by
  unfold RH
  rw [show rV (hi h 50) (hi h 50 11) (hi h 50 12) (hi h 50 13) (hi h 50 14) (hi h 50 15) = hi (setw h 59 s) 50 by
    rw [hi_setw_ne _ _ _ _ (by decide)]; funext i; rw [rV_ap]; by_cases h1 : i = 15
    · simp [h1]
    by_cases h2 : i = 14
    · simp [h2]
    by_cases h3 : i = 13
    · simp [h3]
    by_cases h4 : i = 12
    · simp [h4]
    by_cases h5 : i = 11
    · simp [h5]
    simp [h1, h2, h3, h4, h5], setw_self]
theorem PH_t15 {h : Hp} {n : Nat} {s : Nat → Int32} {σ : Nat × Nat} {v x : Int32} : hi (seti (PH h n s σ v) 50 10 x) 50 15 = nI σ.2 := by
  rw [hi_seti_row, upd_ne _ _ _ (by decide)]; exact RH_g15
theorem zV_0 (h : Hp) (n k : Nat) : upd (mix (fun _ => (0 : Int32)) (hi h 59) 0 k) k 0 = mix (fun _ => 0) (hi h 59) 0 (k + 1) := mix0_v _ _ _ rfl
theorem M_yard {d : Nat} {h : Hp} {Q : Option AV → Hp → Prop} {n : Nat} (hN : hn h = 65) (hM : RM h) (hn0 : hi h 50 10 = nI n) (hn1 : n ≤ 160) (hT : tOK (hi h 58) n) (kF : ¬ (pF (hi h 58) n (mix (fun _ => 0) (hi h 59) 0 85)).2 = 0 → ∀ s v, Q (some (vI (-1000100 - nI (pF (hi h 58) n (mix (fun _ => 0) (hi h 59) 0 85)).1))) (seti (seti (PH h n s (pF (hi h 58) n (mix (fun _ => 0) (hi h 59) 0 85)) v) 50 10 0) 50 16 (nI (pF (hi h 58) n (mix (fun _ => 0) (hi h 59) 0 85)).2)))
    (kW : (pF (hi h 58) n (mix (fun _ => 0) (hi h 59) 0 85)).2 = 0 → ∀ v, Q (some (vI ((pY (hi h 58) n (mix (fun _ => 0) (hi h 59) 0 85)).2 1))) (seti (seti (setw (seti (PH h n (pY (hi h 58) n (mix (fun _ => 0) (hi h 59) 0 85)).2 (pF (hi h 58) n (mix (fun _ => 0) (hi h 59) 0 85)) v) 50 10 0) 51 (mix (pY (hi h 58) n (mix (fun _ => 0) (hi h 59) 0 85)).2 (hi h 51) 0 85)) 51 0 1) 50 4 0)) : Spec (d + 5) 171 [vR (some 50)] h Q := by
  refine spec_intro (by decide +kernel) rfl (Nat.le_of_ble_eq_true rfl) ?_
  refine r_iconst (v := 0) (pc' := 1) d171_0 rfl (by decide) ?_
  refine r_istore_n (pc' := 2) (ls' := [(1, vI _), (0, vR (some 50))]) d171_1 rfl rfl (by decide) rfl ?_
  refine wp_pick (ls' := [(0, vR (some 50)), (1, vI _)]) [1, 0] rfl ?_
  have loop : ∀ (r k : Nat), k + r = 85 → wp (d + 5) 171 Q 0 0 2 [(0, vR (some 50)), (1, vI (nI k))] [] (setw h 59 (mix (fun _ => 0) (hi h 59) 0 k)) := by
    intro r
    induction r with
    | zero =>
      intro k hk
      obtain rfl : k = 85 := by omega
      refine r_iload_n (pc' := 3) d171_2 rfl rfl rfl ?_
      refine r_bipush (v := 85) (pc' := 5) d171_3 rfl (by decide) ?_
      refine r_icmp_ge 21 (pc' := 8) d171_5 rfl rfl (fun c5 => ?_) (fun c5 => absurd (by decide) c5)
      rw [RH_in]
      generalize hZ : mix (fun _ => (0 : Int32)) (hi h 59) 0 85 = Z at kF kW ⊢
      have Z20 : Z 20 = 0 := by rw [← hZ]; exact mix_in _ _ (by omega)
      have Z1 : Z 1 = 0 := by rw [← hZ]; exact mix_in _ _ (by omega)
      have Z2 : Z 2 = 0 := by rw [← hZ]; exact mix_in _ _ (by omega)
      refine r_aload_n (pc' := 22) d171_21 rfl rfl rfl ?_
      refine r_iconst (v := 0) (pc' := 23) d171_22 rfl (by decide) ?_
      refine r_putI (pc' := 26) d171_23 rfl o171 sp12_82_12 sh50 (fun w => absurd w (by decide)) (Or.inl rfl) (pl hN rfl) ?_
      refine r_aload_n (pc' := 27) d171_26 rfl rfl rfl ?_
      refine r_iconst (v := 0) (pc' := 28) d171_27 rfl (by decide) ?_
      refine r_putI (pc' := 31) d171_28 rfl o171 sp12_97_12 sh50 (fun w => absurd w (by decide)) (Or.inl rfl) (pl hN rfl) ?_
      rw [RH_s11, RH_s15]
      refine r_aload_n (pc' := 32) d171_31 rfl rfl rfl ?_
      refine r_call (pc' := 35) [vR (some 50)] [] d171_32 rfl o171 st12_100_12 (rcv1 sh50 (pl hN rfl)) rfl (by decide) ⟨rfl, rfl⟩ (Nat.le_of_ble_eq_true rfl) rfl (s_nextR (p := 0) hN hM hn0 hn1 hT (Nat.zero_le _) ?_)
      generalize hv0 : (if n ≤ 0 then hi h 50 14 else zW (hi h 58) n 0) = v0
      have hv : vok (hi h 58) n (0, 0) v0 := fun _ z => by rw [← hv0]; exact if_neg (Nat.not_le.mpr z)
      refine wp_heap (show _ = PH h n Z (0, 0) v0 from rfl) ?_
      have ok0 : okS n (0, 0) := ⟨Nat.zero_le _, Nat.zero_le _⟩
      refine r_aload_n (pc' := 36) d171_35 rfl rfl rfl ?_
      refine r_call (pc' := 39) [vR (some 50)] [] d171_36 rfl o171 st12_128_12 (rcv1 sh50 (pl hN rfl)) rfl (by decide) ⟨rfl, rfl⟩ (Nat.le_of_ble_eq_true rfl) rfl (s_readGrate hN hM hn0 hn1 hT ok0 hv (fun v9 s9 hv9 hs9 => ?_))
      refine wp_pick (ls' := [(0, vR (some 50))]) [0] rfl ?_
      have ex39 : ∀ (r : Nat) (X : PX) (s : Nat → Int32) (v : Int32), okS n X.1 → vok (hi h 58) n X.1 v → ¬ X.1.2 = 0 → (∀ s2 v2, vok (hi h 58) n (pCl (hi h 58) n r X).1 v2 → ((pCl (hi h 58) n r X).1.2 = 0 → s2 = (pCl (hi h 58) n r X).2) → wp (d + 5) 171 Q 0 0 55 [(0, vR (some 50))] [] (PH h n s2 (pCl (hi h 58) n r X).1 v2)) → wp (d + 5) 171 Q 0 0 39 [(0, vR (some 50))] [] (PH h n s X.1 v) := by
        intro r X s v hσ hv hX kc
        have eX : pCl (hi h 58) n r X = X := by cases r with
            | zero => rfl
            | succ r => unfold pCl; rw [if_neg (fun z => hX z.1)]
        rw [eX] at kc
        refine r_aload_n (pc' := 40) d171_39 rfl rfl rfl ?_
        refine r_bipush (v := 99) (pc' := 42) d171_40 rfl (by decide) ?_
        refine r_call (pc' := 45) [vR (some 50), vI _] [] d171_42 rfl o171 st12_131_12 (rcv1 sh50 (pl hN rfl)) rfl (by decide) ⟨rfl, rfl⟩ (Nat.le_of_ble_eq_true rfl) rfl (s_isLetter hN hσ hv (by decide) ?_)
        refine r_if_eqB 55 (pc' := 48) d171_45 rfl rfl (fun c45 => ?_) (fun c45 => absurd c45 (fun z => hX z.1))
        exact kc s v hv (fun z => absurd z hX)
      have lp39 : ∀ (r : Nat) (X : PX) (s : Nat → Int32) (v : Int32) (L : Nat), okS n X.1 → vok (hi h 58) n X.1 v → (X.1.2 = 0 → s = X.2 ∧ X.2 20 = nI L) → L ≤ 8 → L + r = 9 → (∀ s2 v2, vok (hi h 58) n (pCl (hi h 58) n r X).1 v2 → ((pCl (hi h 58) n r X).1.2 = 0 → s2 = (pCl (hi h 58) n r X).2) → wp (d + 5) 171 Q 0 0 55 [(0, vR (some 50))] [] (PH h n s2 (pCl (hi h 58) n r X).1 v2)) → wp (d + 5) 171 Q 0 0 39 [(0, vR (some 50))] [] (PH h n s X.1 v) := by
        intro r
        induction r with
        | zero => intro X s v L hσ hv hX h8 hr kc; omega
        | succ r ih =>
          intro X s v L hσ hv hX h8 hr kc
          unfold pCl at kc
          refine r_aload_n (pc' := 40) d171_39 rfl rfl rfl ?_
          refine r_bipush (v := 99) (pc' := 42) d171_40 rfl (by decide) ?_
          refine r_call (pc' := 45) [vR (some 50), vI _] [] d171_42 rfl o171 st12_131_12 (rcv1 sh50 (pl hN rfl)) rfl (by decide) ⟨rfl, rfl⟩ (Nat.le_of_ble_eq_true rfl) rfl (s_isLetter hN hσ hv (by decide) ?_)
          refine r_if_eqB 55 (pc' := 48) d171_45 rfl rfl (fun c45 => ?_) (fun c45 => ?_)
          · rw [if_neg c45] at kc
            exact kc s v hv (fun z => (hX z).1)
          · obtain ⟨hsX, hL⟩ := hX c45.1
            rw [if_pos c45, hL, nI_clamp (by omega)] at kc
            rw [← hsX] at hL
            refine r_aload_n (pc' := 49) d171_48 rfl rfl rfl ?_
            refine r_call (pc' := 52) [vR (some 50)] [] d171_49 rfl o171 st12_134_12 (rcv1 sh50 (pl hN rfl)) rfl (by decide) ⟨rfl, rfl⟩ (Nat.le_of_ble_eq_true rfl) rfl (s_readCoal hN hM hn0 hn1 hT hσ hv c45.1 c45.2 hL h8 (fun v9 s9 hv9 hs9 => ?_))
            refine r_goto 39 d171_52 rfl ?_
            rw [hsX] at hs9
            by_cases hz9 : (pC (hi h 58) n L X.1).2 = 0
            · exact ih (pC (hi h 58) n L X.1, pCs (hi h 58) n L X.1 X.2) s9 v9 (L + 1) (pC_ok c45.2) hv9 (fun _ => ⟨hs9, pCs_20 hz9⟩) (by have := pC_lt hz9; omega) (by omega) kc
            · exact ex39 r (pC (hi h 58) n L X.1, pCs (hi h 58) n L X.1 X.2) s9 v9 (pC_ok c45.2) hv9 hz9 kc
      have ex55 : ∀ (r : Nat) (X : PX) (s : Nat → Int32) (v : Int32), okS n X.1 → vok (hi h 58) n X.1 v → ¬ X.1.2 = 0 → (∀ s2 v2, vok (hi h 58) n (pTl (hi h 58) n r X).1 v2 → ((pTl (hi h 58) n r X).1.2 = 0 → s2 = (pTl (hi h 58) n r X).2) → wp (d + 5) 171 Q 0 0 69 [(0, vR (some 50))] [] (PH h n s2 (pTl (hi h 58) n r X).1 v2)) → wp (d + 5) 171 Q 0 0 55 [(0, vR (some 50))] [] (PH h n s X.1 v) := by
        intro r X s v hσ hv hX kc
        have eX : pTl (hi h 58) n r X = X := by cases r with
            | zero => rfl
            | succ r => unfold pTl; rw [if_neg (fun z => hX z.1)]
        rw [eX] at kc
        refine r_aload_n (pc' := 56) d171_55 rfl rfl rfl ?_
        refine r_call (pc' := 59) [vR (some 50)] [] d171_56 rfl o171 st12_124_12 (rcv1 sh50 (pl hN rfl)) rfl (by decide) ⟨rfl, rfl⟩ (Nat.le_of_ble_eq_true rfl) rfl (s_isSort hN hσ hv ?_)
        refine r_if_eqB 69 (pc' := 62) d171_59 rfl rfl (fun c59 => ?_) (fun c59 => absurd c59 (fun z => hX z.1))
        exact kc s v hv (fun z => absurd z hX)
      have lp55 : ∀ (r : Nat) (X : PX) (s : Nat → Int32) (v : Int32) (L : Nat), okS n X.1 → vok (hi h 58) n X.1 v → (X.1.2 = 0 → s = X.2 ∧ X.2 1 = nI L) → L ≤ 6 → L + r = 7 → (∀ s2 v2, vok (hi h 58) n (pTl (hi h 58) n r X).1 v2 → ((pTl (hi h 58) n r X).1.2 = 0 → s2 = (pTl (hi h 58) n r X).2) → wp (d + 5) 171 Q 0 0 69 [(0, vR (some 50))] [] (PH h n s2 (pTl (hi h 58) n r X).1 v2)) → wp (d + 5) 171 Q 0 0 55 [(0, vR (some 50))] [] (PH h n s X.1 v) := by
        intro r
        induction r with
        | zero => intro X s v L hσ hv hX h8 hr kc; omega
        | succ r ih =>
          intro X s v L hσ hv hX h8 hr kc
          unfold pTl at kc
          refine r_aload_n (pc' := 56) d171_55 rfl rfl rfl ?_
          refine r_call (pc' := 59) [vR (some 50)] [] d171_56 rfl o171 st12_124_12 (rcv1 sh50 (pl hN rfl)) rfl (by decide) ⟨rfl, rfl⟩ (Nat.le_of_ble_eq_true rfl) rfl (s_isSort hN hσ hv ?_)
          refine r_if_eqB 69 (pc' := 62) d171_59 rfl rfl (fun c59 => ?_) (fun c59 => ?_)
          · rw [if_neg c59] at kc
            exact kc s v hv (fun z => (hX z).1)
          · obtain ⟨hsX, hL⟩ := hX c59.1
            rw [if_pos c59, hL, nI_clamp (by omega)] at kc
            rw [← hsX] at hL
            refine r_aload_n (pc' := 63) d171_62 rfl rfl rfl ?_
            refine r_call (pc' := 66) [vR (some 50)] [] d171_63 rfl o171 st12_137_12 (rcv1 sh50 (pl hN rfl)) rfl (by decide) ⟨rfl, rfl⟩ (Nat.le_of_ble_eq_true rfl) rfl (s_readThing hN hM hn0 hn1 hT hσ hv c59.1 c59.2 hL h8 (fun v9 s9 hv9 hs9 => ?_))
            refine r_goto 55 d171_66 rfl ?_
            rw [hsX] at hs9
            rw [hsX] at hv9 ⊢
            by_cases hz9 : (pT (hi h 58) n L X.2 X.1).2 = 0
            · exact ih (pT (hi h 58) n L X.2 X.1, pTs (hi h 58) n L X.1 X.2) s9 v9 (L + 1) (pT_ok c59.2) hv9 (fun _ => ⟨hs9, pTs_1 hz9⟩) (by have := pT_lt hz9; omega) (by omega) kc
            · exact ex55 r (pT (hi h 58) n L X.2 X.1, pTs (hi h 58) n L X.1 X.2) s9 v9 (pT_ok c59.2) hv9 hz9 kc
      have ex69 : ∀ (r : Nat) (X : PX) (s : Nat → Int32) (v : Int32), okS n X.1 → vok (hi h 58) n X.1 v → ¬ X.1.2 = 0 → (∀ s2 v2, vok (hi h 58) n (pEl (hi h 58) n r X).1 v2 → ((pEl (hi h 58) n r X).1.2 = 0 → s2 = (pEl (hi h 58) n r X).2) → wp (d + 5) 171 Q 0 0 85 [(0, vR (some 50))] [] (PH h n s2 (pEl (hi h 58) n r X).1 v2)) → wp (d + 5) 171 Q 0 0 69 [(0, vR (some 50))] [] (PH h n s X.1 v) := by
        intro r X s v hσ hv hX kc
        have eX : pEl (hi h 58) n r X = X := by cases r with
            | zero => rfl
            | succ r => unfold pEl; rw [if_neg (fun z => hX z.1)]
        rw [eX] at kc
        refine r_aload_n (pc' := 70) d171_69 rfl rfl rfl ?_
        refine r_bipush (v := 101) (pc' := 72) d171_70 rfl (by decide) ?_
        refine r_call (pc' := 75) [vR (some 50), vI _] [] d171_72 rfl o171 st12_131_12 (rcv1 sh50 (pl hN rfl)) rfl (by decide) ⟨rfl, rfl⟩ (Nat.le_of_ble_eq_true rfl) rfl (s_isLetter hN hσ hv (by decide) ?_)
        refine r_if_eqB 85 (pc' := 78) d171_75 rfl rfl (fun c75 => ?_) (fun c75 => absurd c75 (fun z => hX z.1))
        exact kc s v hv (fun z => absurd z hX)
      have lp69 : ∀ (r : Nat) (X : PX) (s : Nat → Int32) (v : Int32) (L : Nat), okS n X.1 → vok (hi h 58) n X.1 v → (X.1.2 = 0 → s = X.2 ∧ X.2 2 = nI L) → L ≤ 4 → L + r = 5 → (∀ s2 v2, vok (hi h 58) n (pEl (hi h 58) n r X).1 v2 → ((pEl (hi h 58) n r X).1.2 = 0 → s2 = (pEl (hi h 58) n r X).2) → wp (d + 5) 171 Q 0 0 85 [(0, vR (some 50))] [] (PH h n s2 (pEl (hi h 58) n r X).1 v2)) → wp (d + 5) 171 Q 0 0 69 [(0, vR (some 50))] [] (PH h n s X.1 v) := by
        intro r
        induction r with
        | zero => intro X s v L hσ hv hX h8 hr kc; omega
        | succ r ih =>
          intro X s v L hσ hv hX h8 hr kc
          unfold pEl at kc
          refine r_aload_n (pc' := 70) d171_69 rfl rfl rfl ?_
          refine r_bipush (v := 101) (pc' := 72) d171_70 rfl (by decide) ?_
          refine r_call (pc' := 75) [vR (some 50), vI _] [] d171_72 rfl o171 st12_131_12 (rcv1 sh50 (pl hN rfl)) rfl (by decide) ⟨rfl, rfl⟩ (Nat.le_of_ble_eq_true rfl) rfl (s_isLetter hN hσ hv (by decide) ?_)
          refine r_if_eqB 85 (pc' := 78) d171_75 rfl rfl (fun c75 => ?_) (fun c75 => ?_)
          · rw [if_neg c75] at kc
            exact kc s v hv (fun z => (hX z).1)
          · obtain ⟨hsX, hL⟩ := hX c75.1
            rw [if_pos c75, hL, nI_clamp (by omega)] at kc
            rw [← hsX] at hL
            refine r_aload_n (pc' := 79) d171_78 rfl rfl rfl ?_
            refine r_call (pc' := 82) [vR (some 50)] [] d171_79 rfl o171 st12_140_12 (rcv1 sh50 (pl hN rfl)) rfl (by decide) ⟨rfl, rfl⟩ (Nat.le_of_ble_eq_true rfl) rfl (s_readEater hN hM hn0 hn1 hT hσ hv c75.1 c75.2 hL h8 (fun v9 s9 hv9 hs9 => ?_))
            refine r_goto 69 d171_82 rfl ?_
            rw [hsX] at hs9
            by_cases hz9 : (pE (hi h 58) n L X.1).2 = 0
            · exact ih (pE (hi h 58) n L X.1, pEs (hi h 58) n L X.1 X.2) s9 v9 (L + 1) (pE_ok c75.2) hv9 (fun _ => ⟨hs9, pEs_2 hz9⟩) (by have := pE_lt hz9; omega) (by omega) kc
            · exact ex69 r (pE (hi h 58) n L X.1, pEs (hi h 58) n L X.1 X.2) s9 v9 (pE_ok c75.2) hv9 hz9 kc
      have g20 : pGs (hi h 58) n (0, 0) Z 20 = nI 0 := Z20
      have g1 : pGs (hi h 58) n (0, 0) Z 1 = nI 0 := Z1
      have g2 : pGs (hi h 58) n (0, 0) Z 2 = nI 0 := Z2
      have okG : okS n (pG (hi h 58) n (0, 0)) := pS_ok (pN_ok (pS_ok (pN_ok (pS_ok ok0 (by decide))) (by decide))) (by decide)
      obtain ⟨okC, L9, hL9, cC⟩ := pCl_k (hi h 58) n 9 (pG (hi h 58) n (0, 0), pGs (hi h 58) n (0, 0) Z) 0 okG (fun _ => ⟨g20, g1, g2⟩) (by decide) rfl
      obtain ⟨okT, m9, hm9, cT⟩ := pTl_k (hi h 58) n 7 (pCl (hi h 58) n 9 (pG (hi h 58) n (0, 0), pGs (hi h 58) n (0, 0) Z)) L9 0 okC cC (by decide) rfl
      obtain ⟨okE, e9, he9, cE⟩ := pEl_k (hi h 58) n 5 (pTl (hi h 58) n 7 (pCl (hi h 58) n 9 (pG (hi h 58) n (0, 0), pGs (hi h 58) n (0, 0) Z))) L9 m9 0 okT cT (by decide) rfl
      refine lp39 9 (pG (hi h 58) n (0, 0), pGs (hi h 58) n (0, 0) Z) _ _ 0 okG hv9 (fun z => ⟨hs9 z, g20⟩) (by decide) rfl (fun s1 v1 hv1 hs1 => ?_)
      refine lp55 7 _ _ _ 0 okC hv1 (fun z => ⟨hs1 z, (cC z).2.1⟩) (by decide) rfl (fun s2 v2 hv2 hs2 => ?_)
      refine lp69 5 _ _ _ 0 okT hv2 (fun z => ⟨hs2 z, (cT z).2.2⟩) (by decide) rfl (fun s3 v3 hv3 hs3 => ?_)
      generalize hY : pEl (hi h 58) n 5 (pTl (hi h 58) n 7 (pCl (hi h 58) n 9 (pG (hi h 58) n (0, 0), pGs (hi h 58) n (0, 0) Z))) = Y at hv3 hs3 okE cE ⊢
      have ePY : pY (hi h 58) n Z = Y := by unfold pY; exact hY
      unfold pF at kF kW
      rw [ePY] at kF kW
      clear hY ePY cE
      refine r_aload_n (pc' := 86) d171_85 rfl rfl rfl ?_
      refine r_aload_n (pc' := 87) d171_86 rfl rfl rfl ?_
      refine r_getI (pc' := 90) d171_87 rfl o171 sf12_91_12 sh50 (pl hN rfl) ?_
      refine wp_v RH_g13 ?_
      refine r_if_ne 97 (pc' := 93) d171_90 rfl rfl (fun c90 => ?_) (fun c90 => ?_)
      · refine r_iconst (v := 0) (pc' := 98) d171_97 rfl (by decide) ?_
        refine r_iconst (v := 1) (pc' := 99) d171_98 rfl (by decide) ?_
        refine r_call (pc' := 102) [vR (some 50), vI _, vI _] [] d171_99 rfl o171 st12_103_12 (rcv1 sh50 (pl hN rfl)) rfl (by decide) ⟨rfl, rfl⟩ (Nat.le_of_ble_eq_true rfl) rfl (s_mustP (n := n) (num := 1) hN okE.2 ?_)
        rw [b0 (fun z => c90 (zT_0.mpr z))] at kF kW
        have okF : okS n (pM 0 1 Y.1) := okM okE
        have hFY : (pM 0 1 Y.1).2 = 0 → Y.1.2 = 0 := fun z => by unfold pM at z; dsimp only at z; split at z; (exact absurd z (by decide)); (exact z)
        generalize hF9 : pM 0 1 Y.1 = F at kF kW okF hFY ⊢
        refine r_aload_n (pc' := 103) d171_102 rfl rfl rfl ?_
        refine r_getI (pc' := 106) d171_103 rfl o171 sf12_85_12 sh50 (pl hN rfl) ?_
        refine wp_v RH_g12 ?_
        refine r_istore_n (pc' := 107) (ls' := [(1, vI _), (0, vR (some 50))]) d171_106 rfl rfl (by decide) rfl ?_
        refine r_aload_n (pc' := 108) d171_107 rfl rfl rfl ?_
        refine r_iconst (v := 0) (pc' := 109) d171_108 rfl (by decide) ?_
        refine r_putI (pc' := 112) d171_109 rfl o171 sp12_78_12 sh50 (fun w => absurd w (by decide)) (Or.inl rfl) (pl hN rfl) ?_
        refine r_aload_n (pc' := 113) d171_112 rfl rfl rfl ?_
        refine r_getI (pc' := 116) d171_113 rfl o171 sf12_97_12 sh50 (pl hN rfl) ?_
        refine wp_v PH_t15 ?_
        refine r_if_le 132 (pc' := 119) d171_116 rfl rfl (fun c116 => ?_) (fun c116 => ?_)
        · refine r_iconst (v := 0) (pc' := 133) d171_132 rfl (by decide) ?_
          refine r_istore_n (pc' := 134) (ls' := [(2, vI _), (1, vI _), (0, vR (some 50))]) d171_133 rfl rfl (by decide) rfl ?_
          refine wp_pick (ls' := [(0, vR (some 50)), (2, vI _)]) [2, 0] rfl ?_
          have hG0 : F.2 = 0 := by rcases (show F.2 = 0 ∨ F.2 = 1 ∨ F.2 = 2 ∨ F.2 = 3 by have := okF.2; omega) with y | y | y | y; (exact y); (rw [y] at c116; exact absurd c116 (by decide)); (rw [y] at c116; exact absurd c116 (by decide)); (rw [y] at c116; exact absurd c116 (by decide))
          have hGY := hFY hG0
          have e3 := hs3 hGY
          subst e3
          generalize hB : seti (PH h n Y.2 F v3) 50 10 0 = B
          have eB : hi B 51 = hi h 51 := by rw [← hB, hi_seti_ne _ _ _ _ _ (by decide)]; exact RH_o (by decide) (by decide)
          have fB : hi B 59 = Y.2 := by rw [← hB, hi_seti_ne _ _ _ _ _ (by decide)]; exact RH_59
          have nB : hn B = 65 := by rw [← hB]; exact hN
          have mB : RM B := by rw [← hB]; exact hM
          have kW2 := kW hG0 v3
          rw [hB] at kW2
          have loop : ∀ (r k : Nat), k + r = 85 → wp (d + 5) 171 Q 0 0 134 [(0, vR (some 50)), (2, vI (nI k))] [] (setw B 51 (mix Y.2 (hi h 51) 0 k)) := by
            intro r
            induction r with
            | zero =>
              intro k hk
              obtain rfl : k = 85 := by omega
              refine r_iload_n (pc' := 135) d171_134 rfl rfl rfl ?_
              refine r_bipush (v := 85) (pc' := 137) d171_135 rfl (by decide) ?_
              refine r_icmp_ge 158 (pc' := 140) d171_137 rfl rfl (fun c137 => ?_) (fun c137 => absurd (by decide) c137)
              refine r_aload_n (pc' := 159) d171_158 rfl rfl rfl ?_
              refine r_getS (pc' := 162) d171_159 rfl o171 sf12_7_12 sh50 (pl nB rfl) (rfm0 mB) ?_
              refine r_iconst (v := 0) (pc' := 163) d171_162 rfl (by decide) ?_
              refine r_iconst (v := 1) (pc' := 164) d171_163 rfl (by decide) ?_
              refine r_iastN (pc' := 165) (j := 0) d171_164 rfl sh51 (pl nB rfl) rfl (by omega) (by decide) ?_
              refine r_aload_n (pc' := 166) d171_165 rfl rfl rfl ?_
              refine r_iconst (v := 0) (pc' := 167) d171_166 rfl (by decide) ?_
              refine r_putI (pc' := 170) d171_167 rfl o171 sp12_147_12 sh50 (fun w => absurd w (by decide)) (Or.inl rfl) (pl nB rfl) ?_
              refine r_aload_n (pc' := 171) d171_170 rfl rfl rfl ?_
              refine r_getS (pc' := 174) d171_171 rfl o171 sf12_7_12 sh50 (pl nB rfl) (rfm0 mB) ?_
              refine r_iconst (v := 1) (pc' := 175) d171_174 rfl (by decide) ?_
              refine r_ialdN (pc' := 176) (j := 1) d171_175 rfl sh51 (pl nB rfl) rfl (by omega) (by decide) ?_
              exact r_iretI d171_176 rfl (qv (by rw [hi_seti_ne _ _ _ _ _ (by decide), hi_seti_row, upd_ne _ _ _ (by decide), hi_setw_row, mix_in _ _ (by omega)]) kW2)
            | succ r ih =>
              intro k hk
              refine r_iload_n (pc' := 135) d171_134 rfl rfl rfl ?_
              refine r_bipush (v := 85) (pc' := 137) d171_135 rfl (by decide) ?_
              refine r_icmp_ge 158 (pc' := 140) d171_137 rfl rfl (fun c137 => absurd c137 (nI_ge (a := k) (b := 85) (by omega) (by decide))) (fun c137 => ?_)
              refine r_aload_n (pc' := 141) d171_140 rfl rfl rfl ?_
              refine r_getS (pc' := 144) d171_141 rfl o171 sf12_7_12 sh50 (pl nB rfl) (rfm0 mB) ?_
              refine r_iload_n (pc' := 145) d171_144 rfl rfl rfl ?_
              refine r_aload_n (pc' := 146) d171_145 rfl rfl rfl ?_
              refine r_getS (pc' := 149) d171_146 rfl o171 sf12_35_12 sh50 (pl nB rfl) (rfm17 mB) ?_
              refine r_iload_n (pc' := 150) d171_149 rfl rfl rfl ?_
              refine r_ialdN (pc' := 151) (j := k) d171_150 rfl sh59 (pl nB rfl) rfl (by omega) (by decide) ?_
              refine r_iastN (pc' := 152) (j := k) d171_151 rfl sh51 (pl nB rfl) rfl (by omega) (by decide) ?_
              refine r_iinc (v := _ + 1) (pc' := 155) (ls' := [(2, vI _), (0, vR (some 50))]) d171_152 rfl rfl rfl (by decide) rfl ?_
              refine r_goto 134 d171_155 rfl ?_
              refine wp_pick (ls' := [(0, vR (some 50)), (2, vI _)]) [1, 0] rfl ?_
              rw [nI_1, seti_setw, hi_setw_ne _ _ _ _ (by decide), fB, mix0_v _ _ _ rfl]
              exact ih (k + 1) (by omega)
          have z := loop 85 0 rfl
          rw [mix_0, ← eB, setw_self] at z
          exact z
        · refine r_aload_n (pc' := 120) d171_119 rfl rfl rfl ?_
          refine r_aload_n (pc' := 121) d171_120 rfl rfl rfl ?_
          refine r_getI (pc' := 124) d171_121 rfl o171 sf12_97_12 sh50 (pl hN rfl) ?_
          refine wp_v PH_t15 ?_
          refine r_putI (pc' := 127) d171_124 rfl o171 sp12_143_12 sh50 (fun w => absurd w (by decide)) (Or.inl rfl) (pl hN rfl) ?_
          refine r_ldc (pc' := 129) d171_127 rfl o171 kc12_146 ?_
          refine r_iload_n (pc' := 130) d171_129 rfl rfl rfl ?_
          refine r_isub (pc' := 131) d171_130 rfl ?_
          exact r_iretI d171_131 rfl (kF (fun z => c116 (by rw [z]; decide)) s3 v3)
      · refine r_iconst (v := 1) (pc' := 94) d171_93 rfl (by decide) ?_
        refine r_goto 98 d171_94 rfl ?_
        refine r_iconst (v := 1) (pc' := 99) d171_98 rfl (by decide) ?_
        refine r_call (pc' := 102) [vR (some 50), vI _, vI _] [] d171_99 rfl o171 st12_103_12 (rcv1 sh50 (pl hN rfl)) rfl (by decide) ⟨rfl, rfl⟩ (Nat.le_of_ble_eq_true rfl) rfl (s_mustP (n := n) (num := 1) hN okE.2 ?_)
        rw [b1 (zT_0.mp c90)] at kF kW
        have okF : okS n (pM 1 1 Y.1) := okM okE
        have hFY : (pM 1 1 Y.1).2 = 0 → Y.1.2 = 0 := fun z => by unfold pM at z; dsimp only at z; split at z; (exact absurd z (by decide)); (exact z)
        generalize hF9 : pM 1 1 Y.1 = F at kF kW okF hFY ⊢
        refine r_aload_n (pc' := 103) d171_102 rfl rfl rfl ?_
        refine r_getI (pc' := 106) d171_103 rfl o171 sf12_85_12 sh50 (pl hN rfl) ?_
        refine wp_v RH_g12 ?_
        refine r_istore_n (pc' := 107) (ls' := [(1, vI _), (0, vR (some 50))]) d171_106 rfl rfl (by decide) rfl ?_
        refine r_aload_n (pc' := 108) d171_107 rfl rfl rfl ?_
        refine r_iconst (v := 0) (pc' := 109) d171_108 rfl (by decide) ?_
        refine r_putI (pc' := 112) d171_109 rfl o171 sp12_78_12 sh50 (fun w => absurd w (by decide)) (Or.inl rfl) (pl hN rfl) ?_
        refine r_aload_n (pc' := 113) d171_112 rfl rfl rfl ?_
        refine r_getI (pc' := 116) d171_113 rfl o171 sf12_97_12 sh50 (pl hN rfl) ?_
        refine wp_v PH_t15 ?_
        refine r_if_le 132 (pc' := 119) d171_116 rfl rfl (fun c116 => ?_) (fun c116 => ?_)
        · refine r_iconst (v := 0) (pc' := 133) d171_132 rfl (by decide) ?_
          refine r_istore_n (pc' := 134) (ls' := [(2, vI _), (1, vI _), (0, vR (some 50))]) d171_133 rfl rfl (by decide) rfl ?_
          refine wp_pick (ls' := [(0, vR (some 50)), (2, vI _)]) [2, 0] rfl ?_
          have hG0 : F.2 = 0 := by rcases (show F.2 = 0 ∨ F.2 = 1 ∨ F.2 = 2 ∨ F.2 = 3 by have := okF.2; omega) with y | y | y | y; (exact y); (rw [y] at c116; exact absurd c116 (by decide)); (rw [y] at c116; exact absurd c116 (by decide)); (rw [y] at c116; exact absurd c116 (by decide))
          have hGY := hFY hG0
          have e3 := hs3 hGY
          subst e3
          generalize hB : seti (PH h n Y.2 F v3) 50 10 0 = B
          have eB : hi B 51 = hi h 51 := by rw [← hB, hi_seti_ne _ _ _ _ _ (by decide)]; exact RH_o (by decide) (by decide)
          have fB : hi B 59 = Y.2 := by rw [← hB, hi_seti_ne _ _ _ _ _ (by decide)]; exact RH_59
          have nB : hn B = 65 := by rw [← hB]; exact hN
          have mB : RM B := by rw [← hB]; exact hM
          have kW2 := kW hG0 v3
          rw [hB] at kW2
          have loop : ∀ (r k : Nat), k + r = 85 → wp (d + 5) 171 Q 0 0 134 [(0, vR (some 50)), (2, vI (nI k))] [] (setw B 51 (mix Y.2 (hi h 51) 0 k)) := by
            intro r
            induction r with
            | zero =>
              intro k hk
              obtain rfl : k = 85 := by omega
              refine r_iload_n (pc' := 135) d171_134 rfl rfl rfl ?_
              refine r_bipush (v := 85) (pc' := 137) d171_135 rfl (by decide) ?_
              refine r_icmp_ge 158 (pc' := 140) d171_137 rfl rfl (fun c137 => ?_) (fun c137 => absurd (by decide) c137)
              refine r_aload_n (pc' := 159) d171_158 rfl rfl rfl ?_
              refine r_getS (pc' := 162) d171_159 rfl o171 sf12_7_12 sh50 (pl nB rfl) (rfm0 mB) ?_
              refine r_iconst (v := 0) (pc' := 163) d171_162 rfl (by decide) ?_
              refine r_iconst (v := 1) (pc' := 164) d171_163 rfl (by decide) ?_
              refine r_iastN (pc' := 165) (j := 0) d171_164 rfl sh51 (pl nB rfl) rfl (by omega) (by decide) ?_
              refine r_aload_n (pc' := 166) d171_165 rfl rfl rfl ?_
              refine r_iconst (v := 0) (pc' := 167) d171_166 rfl (by decide) ?_
              refine r_putI (pc' := 170) d171_167 rfl o171 sp12_147_12 sh50 (fun w => absurd w (by decide)) (Or.inl rfl) (pl nB rfl) ?_
              refine r_aload_n (pc' := 171) d171_170 rfl rfl rfl ?_
              refine r_getS (pc' := 174) d171_171 rfl o171 sf12_7_12 sh50 (pl nB rfl) (rfm0 mB) ?_
              refine r_iconst (v := 1) (pc' := 175) d171_174 rfl (by decide) ?_
              refine r_ialdN (pc' := 176) (j := 1) d171_175 rfl sh51 (pl nB rfl) rfl (by omega) (by decide) ?_
              exact r_iretI d171_176 rfl (qv (by rw [hi_seti_ne _ _ _ _ _ (by decide), hi_seti_row, upd_ne _ _ _ (by decide), hi_setw_row, mix_in _ _ (by omega)]) kW2)
            | succ r ih =>
              intro k hk
              refine r_iload_n (pc' := 135) d171_134 rfl rfl rfl ?_
              refine r_bipush (v := 85) (pc' := 137) d171_135 rfl (by decide) ?_
              refine r_icmp_ge 158 (pc' := 140) d171_137 rfl rfl (fun c137 => absurd c137 (nI_ge (a := k) (b := 85) (by omega) (by decide))) (fun c137 => ?_)
              refine r_aload_n (pc' := 141) d171_140 rfl rfl rfl ?_
              refine r_getS (pc' := 144) d171_141 rfl o171 sf12_7_12 sh50 (pl nB rfl) (rfm0 mB) ?_
              refine r_iload_n (pc' := 145) d171_144 rfl rfl rfl ?_
              refine r_aload_n (pc' := 146) d171_145 rfl rfl rfl ?_
              refine r_getS (pc' := 149) d171_146 rfl o171 sf12_35_12 sh50 (pl nB rfl) (rfm17 mB) ?_
              refine r_iload_n (pc' := 150) d171_149 rfl rfl rfl ?_
              refine r_ialdN (pc' := 151) (j := k) d171_150 rfl sh59 (pl nB rfl) rfl (by omega) (by decide) ?_
              refine r_iastN (pc' := 152) (j := k) d171_151 rfl sh51 (pl nB rfl) rfl (by omega) (by decide) ?_
              refine r_iinc (v := _ + 1) (pc' := 155) (ls' := [(2, vI _), (0, vR (some 50))]) d171_152 rfl rfl rfl (by decide) rfl ?_
              refine r_goto 134 d171_155 rfl ?_
              refine wp_pick (ls' := [(0, vR (some 50)), (2, vI _)]) [1, 0] rfl ?_
              rw [nI_1, seti_setw, hi_setw_ne _ _ _ _ (by decide), fB, mix0_v _ _ _ rfl]
              exact ih (k + 1) (by omega)
          have z := loop 85 0 rfl
          rw [mix_0, ← eB, setw_self] at z
          exact z
        · refine r_aload_n (pc' := 120) d171_119 rfl rfl rfl ?_
          refine r_aload_n (pc' := 121) d171_120 rfl rfl rfl ?_
          refine r_getI (pc' := 124) d171_121 rfl o171 sf12_97_12 sh50 (pl hN rfl) ?_
          refine wp_v PH_t15 ?_
          refine r_putI (pc' := 127) d171_124 rfl o171 sp12_143_12 sh50 (fun w => absurd w (by decide)) (Or.inl rfl) (pl hN rfl) ?_
          refine r_ldc (pc' := 129) d171_127 rfl o171 kc12_146 ?_
          refine r_iload_n (pc' := 130) d171_129 rfl rfl rfl ?_
          refine r_isub (pc' := 131) d171_130 rfl ?_
          exact r_iretI d171_131 rfl (kF (fun z => c116 (by rw [z]; decide)) s3 v3)
    | succ r ih =>
      intro k hk
      refine r_iload_n (pc' := 3) d171_2 rfl rfl rfl ?_
      refine r_bipush (v := 85) (pc' := 5) d171_3 rfl (by decide) ?_
      refine r_icmp_ge 21 (pc' := 8) d171_5 rfl rfl (fun c5 => absurd c5 (nI_ge (a := k) (b := 85) (by omega) (by decide))) (fun c5 => ?_)
      refine r_aload_n (pc' := 9) d171_8 rfl rfl rfl ?_
      refine r_getS (pc' := 12) d171_9 rfl o171 sf12_35_12 sh50 (pl hN rfl) (rfm17 hM) ?_
      refine r_iload_n (pc' := 13) d171_12 rfl rfl rfl ?_
      refine r_iconst (v := 0) (pc' := 14) d171_13 rfl (by decide) ?_
      refine r_iastN (pc' := 15) (j := k) d171_14 rfl sh59 (pl hN rfl) rfl (by omega) (by decide) ?_
      refine r_iinc (v := _ + 1) (pc' := 18) (ls' := [(1, vI _), (0, vR (some 50))]) d171_15 rfl rfl rfl (by decide) rfl ?_
      refine r_goto 2 d171_18 rfl ?_
      refine wp_pick (ls' := [(0, vR (some 50)), (1, vI _)]) [1, 0] rfl ?_
      rw [nI_1, seti_setw, zV_0 h n k]
      exact ih (k + 1) (by omega)
  have z := loop 85 0 rfl
  rw [mix_0, setw_self] at z
  exact z
