/-! the reference reads a tape: things, eaters, the yard (printed by wip/whole/m69.py) -/
def pNP (T : Nat → Int32) (n : Nat) (p : Prop) [Decidable p] (σ : Nat × Nat) : Nat × Nat := if σ.2 = 0 then (if 1 ≤ zD T n σ.1 ∧ zD T n σ.1 ≤ 2 then (if p then (σ.1 + zD T n σ.1, 0) else (σ.1, 2)) else (σ.1, 1)) else σ
theorem pNP_ok {T : Nat → Int32} {n : Nat} {p : Prop} [Decidable p] {σ : Nat × Nat} (h : okS n σ) : okS n (pNP T n p σ) := by
  have := zD_le T n σ.1
  have h1 := h.1
  unfold pNP; split
  · split
    · split
      · exact ⟨by show σ.1 + zD T n σ.1 ≤ n; omega, by show 0 ≤ 3; omega⟩
      · exact ⟨h.1, by show 2 ≤ 3; omega⟩
    · exact ⟨h.1, by show 1 ≤ 3; omega⟩
  · exact h
theorem pNP_G {T : Nat → Int32} {n : Nat} {p : Prop} [Decidable p] {σ : Nat × Nat} (h : (pNP T n p σ).2 = 0) : σ.2 = 0 := by
  unfold pNP at h; split at h
  · assumption
  · exact h
theorem pNP_v {T : Nat → Int32} {n : Nat} {p : Prop} [Decidable p] {v : Int32} {σ : Nat × Nat} (hv : vok T n σ v) (h : (pNP T n p σ).2 = 0) : v = zV T n σ.1 := by
  have hG := pNP_G h
  unfold pNP at h
  rw [if_pos hG] at h
  by_cases z : 1 ≤ zD T n σ.1 ∧ zD T n σ.1 ≤ 2
  · have hf := zD_f.mp z.1
    have y := hv hG (zF_pos hf)
    unfold zW at y
    rw [if_pos hf] at y
    exact y
  · rw [if_neg z] at h; exact absurd (show (1 : Nat) = 0 from h) (by decide)
theorem pPM1 {T : Nat → Int32} {n : Nat} {p : Prop} [Decidable p] {y v : Int32} {σ : Nat × Nat} (hv : vok T n σ v) (h : zT T n σ.1 = 2) (hy : v = zV T n σ.1 → (y = 0 ↔ ¬ p)) : pA T n (pM y 2 (pM 1 1 σ)) = pNP T n p σ := by
  unfold pM pA pNP
  dsimp only
  rw [if_neg (c := σ.2 = 0 ∧ (1 : Int32) = 0) (fun z => absurd z.2 (by decide))]
  by_cases hG : σ.2 = 0
  · have hp : σ.1 < n := zT_p (by rw [h]; decide)
    have hd := zT_2.mp h
    have hf := zD_f.mp hd.1
    have z : v = zV T n σ.1 := by have z := hv hG hp; unfold zW at z; rw [if_pos hf] at z; exact z
    rw [if_pos (c := σ.2 = 0) hG, if_pos hd]
    by_cases hi0 : p
    · rw [if_pos hi0, if_neg (c := σ.2 = 0 ∧ y = 0) (fun w => (hy z).mp w.2 hi0), if_pos hG, show zC T n σ.1 = σ.1 + zD T n σ.1 by unfold zC; rw [if_neg (Nat.not_le.mpr hp), if_pos hf]]
    · rw [if_neg hi0, if_pos (c := σ.2 = 0 ∧ y = 0) ⟨hG, (hy z).mpr hi0⟩, if_neg (by decide)]
  · rw [if_neg (c := σ.2 = 0) hG, if_neg (c := σ.2 = 0 ∧ y = 0) (fun z => hG z.1), if_neg hG]
theorem pPM0 {T : Nat → Int32} {n : Nat} {p : Prop} [Decidable p] {x : Int32} {σ : Nat × Nat} (h : ¬ zT T n σ.1 = 2) : pA T n (pM x 2 (pM 0 1 σ)) = pNP T n p σ := by
  unfold pM pA pNP
  dsimp only
  by_cases hG : σ.2 = 0
  · rw [if_pos (c := σ.2 = 0 ∧ (0 : Int32) = 0) ⟨hG, rfl⟩, if_pos (c := σ.2 = 0) hG, if_neg (fun z => h (zT_2.mpr z)), if_neg (c := (1 : Nat) = 0 ∧ x = 0) (fun z => absurd z.1 (by decide)), if_neg (by decide)]
  · rw [if_neg (c := σ.2 = 0 ∧ (0 : Int32) = 0) (fun z => hG z.1), if_neg (c := σ.2 = 0 ∧ x = 0) (fun z => hG z.1), if_neg hG, if_neg hG]
abbrev thP (T : Nat → Int32) (n m : Nat) (s : Nat → Int32) (p : Nat) : Prop := (0 ≤ zV T n p ∧ zV T n p ≤ 12) ∧ ¬ tdI s m (zV T n p)
def pT (T : Nat → Int32) (n m : Nat) (s : Nat → Int32) (σ : Nat × Nat) : Nat × Nat := pS T n 59 (pNP T n (thP T n m s (pL (decide (m < 6)) σ).1) (pL (decide (m < 6)) σ))
def pTs (T : Nat → Int32) (n m : Nat) (σ : Nat × Nat) (s : Nat → Int32) : Nat → Int32 := if (pT T n m s σ).2 = 0 then upd (upd (upd s (5 + m) (srt (zB T n σ.1))) (45 + m) (zV T n (pL (decide (m < 6)) σ).1)) 1 (nI (m + 1)) else s
theorem pT_lt {T : Nat → Int32} {n m : Nat} {s : Nat → Int32} {σ : Nat × Nat} (h : (pT T n m s σ).2 = 0) : m < 6 := by
  have z := pNP_G (pS_G h)
  unfold pL at z
  by_cases y : m < 6
  · exact y
  · rw [decide_eq_false y] at z; exact absurd (show (3 : Nat) = 0 from z) (by decide)
theorem pA_3 {T : Nat → Int32} {n p : Nat} : pA T n (p, 3) = (p, 3) := if_neg (show ¬ (3 : Nat) = 0 by decide)
theorem pS_3 {T : Nat → Int32} {n p : Nat} {c : Int32} : pS T n c (p, 3) = (p, 3) := if_neg (show ¬ (3 : Nat) = 0 by decide)
theorem pNP_3 {T : Nat → Int32} {n q : Nat} {p : Prop} [Decidable p] : pNP T n p (q, 3) = (q, 3) := if_neg (show ¬ (3 : Nat) = 0 by decide)
theorem s_readThing {d : Nat} {h : Hp} {Q : Option AV → Hp → Prop} {n : Nat} {s : Nat → Int32} {σ : Nat × Nat} {v : Int32} {m : Nat} (hN : hn h = 65) (hM : RM h) (hn0 : hi h 50 10 = nI n) (hn1 : n ≤ 160) (hT : tOK (hi h 58) n) (hσ : okS n σ) (hv : vok (hi h 58) n σ v) (hG : σ.2 = 0) (hs : ¬ srt (zB (hi h 58) n σ.1) = -1000000) (hm : s 1 = nI m) (hm6 : m ≤ 6) (kk : ∀ v9 s9, vok (hi h 58) n (pT (hi h 58) n m s σ) v9 → s9 = pTs (hi h 58) n m σ s → Q none (PH h n s9 (pT (hi h 58) n m s σ) v9)) : Spec (d + 4) 169 [vR (some 50)] (PH h n s σ v) Q := by
  have hsv : srt v = srt (zB (hi h 58) n σ.1) := by rw [(tok_to (let_f (srt_l hs)) (let_0 (srt_l hs)) hv hG rfl).2]
  refine spec_intro (by decide +kernel) rfl (Nat.le_of_ble_eq_true rfl) ?_
  refine r_aload_n (pc' := 1) d169_0 rfl rfl rfl ?_
  refine r_aload_n (pc' := 2) d169_1 rfl rfl rfl ?_
  refine r_getI (pc' := 5) d169_2 rfl o169 sf12_94_12 sh50 (pl hN rfl) ?_
  refine wp_v RH_g14 ?_
  refine r_call (pc' := 8) [vR (some 50), vI _] [] d169_5 rfl o169 st12_110_12 (rcv1 sh50 (pl hN rfl)) rfl (by decide) ⟨rfl, rfl⟩ (Nat.le_of_ble_eq_true rfl) rfl (s_sortOf ?_)
  refine r_istore_n (pc' := 9) (ls' := [(1, vI _), (0, vR (some 50))]) d169_8 rfl rfl (by decide) rfl ?_
  refine r_aload_n (pc' := 10) d169_9 rfl rfl rfl ?_
  refine r_aload_n (pc' := 11) d169_10 rfl rfl rfl ?_
  refine r_getS (pc' := 14) d169_11 rfl o169 sf12_35_12 sh50 (pl hN rfl) (rfm17 hM) ?_
  refine r_iconst (v := 1) (pc' := 15) d169_14 rfl (by decide) ?_
  refine r_ialdN (pc' := 16) (j := 1) d169_15 rfl sh59 (pl hN rfl) rfl (by omega) (by decide) ?_
  refine wp_v ((congrFun PH_59 1).trans hm) ?_
  refine r_bipush (v := 6) (pc' := 18) d169_16 rfl (by decide) ?_
  refine r_icmp_ge 25 (pc' := 21) d169_18 rfl rfl (fun c18 => ?_) (fun c18 => ?_)
  · refine r_iconst (v := 0) (pc' := 26) d169_25 rfl (by decide) ?_
    refine r_iconst (v := 3) (pc' := 27) d169_26 rfl (by decide) ?_
    refine r_call (pc' := 30) [vR (some 50), vI _, vI _] [] d169_27 rfl o169 st12_103_12 (rcv1 sh50 (pl hN rfl)) rfl (by decide) ⟨rfl, rfl⟩ (Nat.le_of_ble_eq_true rfl) rfl (s_mustP (n := n) (σ := σ) (num := 3) hN hσ.2 ?_)
    refine r_aload_n (pc' := 31) d169_30 rfl rfl rfl ?_
    refine r_call (pc' := 34) [vR (some 50)] [] d169_31 rfl o169 st12_107_12 (rcv1 sh50 (pl hN rfl)) rfl (by decide) ⟨rfl, rfl⟩ (Nat.le_of_ble_eq_true rfl) rfl (s_goesOn hN hM hn0 hn1 hT (okM hσ) (vokM hv) (fun v9 hv9 => ?_))
    have hm7 : ¬ m < 6 := fun z => absurd c18 (nI_ge (a := m) (b := 6) z (by decide))
    have eL : pL (decide (m < 6)) σ = (σ.1, 3) := by rw [decide_eq_false hm7]; rfl
    have e : pA (hi h 58) n (pM 0 3 σ) = (σ.1, 3) := pL_0 hG
    rw [e] at hv9 ⊢
    have ok1 : okS n (σ.1, 3) := ⟨hσ.1, Nat.le_refl _⟩
    refine r_aload_n (pc' := 35) d169_34 rfl rfl rfl ?_
    refine r_getI (pc' := 38) d169_35 rfl o169 sf12_97_12 sh50 (pl hN rfl) ?_
    refine wp_v RH_g15 ?_
    refine r_if_ne 93 (pc' := 41) d169_38 rfl rfl (fun c38 => ?_) (fun c38 => absurd c38 (show ¬ nI 3 = 0 by decide))
    refine r_aload_n (pc' := 94) d169_93 rfl rfl rfl ?_
    refine r_getI (pc' := 97) d169_94 rfl o169 sf12_94_12 sh50 (pl hN rfl) ?_
    refine wp_v RH_g14 ?_
    refine r_istore_n (pc' := 98) (ls' := [(2, vI _), (1, vI _), (0, vR (some 50))]) d169_97 rfl rfl (by decide) rfl ?_
    refine r_aload_n (pc' := 99) d169_98 rfl rfl rfl ?_
    refine r_call (pc' := 102) [vR (some 50)] [] d169_99 rfl o169 st12_107_12 (rcv1 sh50 (pl hN rfl)) rfl (by decide) ⟨rfl, rfl⟩ (Nat.le_of_ble_eq_true rfl) rfl (s_goesOn hN hM hn0 hn1 hT ok1 hv9 (fun v9 hv9 => ?_))
    rw [pA_3] at hv9 ⊢
    refine r_aload_n (pc' := 103) d169_102 rfl rfl rfl ?_
    refine r_bipush (v := 59) (pc' := 105) d169_103 rfl (by decide) ?_
    refine r_call (pc' := 108) [vR (some 50), vI _] [] d169_105 rfl o169 st12_117_12 (rcv1 sh50 (pl hN rfl)) rfl (by decide) ⟨rfl, rfl⟩ (Nat.le_of_ble_eq_true rfl) rfl (s_readSign hN hM hn0 hn1 hT ok1 hv9 (Or.inr rfl) (fun v9 hv9 => ?_))
    rw [pS_3] at hv9 ⊢
    have eT : pT (hi h 58) n m s σ = (σ.1, 3) := by unfold pT; rw [eL, pNP_3, pS_3]
    refine r_aload_n (pc' := 109) d169_108 rfl rfl rfl ?_
    refine r_getI (pc' := 112) d169_109 rfl o169 sf12_97_12 sh50 (pl hN rfl) ?_
    refine wp_v RH_g15 ?_
    refine r_if_ne 154 (pc' := 115) d169_112 rfl rfl (fun c112 => ?_) (fun c112 => absurd c112 (show ¬ nI 3 = 0 by decide))
    exact r_ret d169_154 rfl (by have z := kk v9 s (by rw [eT]; exact hv9) (by unfold pTs; rw [if_neg (by rw [eT]; exact (show ¬ (3 : Nat) = 0 by decide))]); rw [eT] at z; exact z)
  · refine r_iconst (v := 1) (pc' := 22) d169_21 rfl (by decide) ?_
    refine r_goto 26 d169_22 rfl ?_
    refine r_iconst (v := 3) (pc' := 27) d169_26 rfl (by decide) ?_
    refine r_call (pc' := 30) [vR (some 50), vI _, vI _] [] d169_27 rfl o169 st12_103_12 (rcv1 sh50 (pl hN rfl)) rfl (by decide) ⟨rfl, rfl⟩ (Nat.le_of_ble_eq_true rfl) rfl (s_mustP (n := n) (σ := σ) (num := 3) hN hσ.2 ?_)
    refine r_aload_n (pc' := 31) d169_30 rfl rfl rfl ?_
    refine r_call (pc' := 34) [vR (some 50)] [] d169_31 rfl o169 st12_107_12 (rcv1 sh50 (pl hN rfl)) rfl (by decide) ⟨rfl, rfl⟩ (Nat.le_of_ble_eq_true rfl) rfl (s_goesOn hN hM hn0 hn1 hT (okM hσ) (vokM hv) (fun v9 hv9 => ?_))
    have hm7 : m < 6 := Nat.lt_of_not_le (fun z => c18 (nI_le (a := 6) (b := m) z (by omega)))
    have eL : pL (decide (m < 6)) σ = (σ.1 + 1, 0) := by rw [decide_eq_true hm7]; rfl
    have e : pA (hi h 58) n (pM 1 3 σ) = (σ.1 + 1, 0) := (pL_1 (srt_l hs) hG rfl).trans rfl
    rw [e] at hv9 ⊢
    have ok1 : okS n (σ.1 + 1, 0) := eL ▸ pL_ok (b := decide (m < 6)) (σ := σ) (T := hi h 58) (n := n) rfl (let_0 (srt_l hs))
    refine r_aload_n (pc' := 35) d169_34 rfl rfl rfl ?_
    refine r_getI (pc' := 38) d169_35 rfl o169 sf12_97_12 sh50 (pl hN rfl) ?_
    refine wp_v RH_g15 ?_
    refine r_if_ne 93 (pc' := 41) d169_38 rfl rfl (fun c38 => absurd (show nI 0 = 0 from rfl) c38) (fun c38 => ?_)
    have hv10 := hv9
    refine r_aload_n (pc' := 42) d169_41 rfl rfl rfl ?_
    refine r_aload_n (pc' := 43) d169_42 rfl rfl rfl ?_
    refine r_getI (pc' := 46) d169_43 rfl o169 sf12_91_12 sh50 (pl hN rfl) ?_
    refine wp_v RH_g13 ?_
    refine r_iconst (v := 2) (pc' := 47) d169_46 rfl (by decide) ?_
    refine r_icmp_ne 54 (pc' := 50) d169_47 rfl rfl (fun c47 => ?_) (fun c47 => ?_)
    · refine r_iconst (v := 0) (pc' := 55) d169_54 rfl (by decide) ?_
      refine r_iconst (v := 1) (pc' := 56) d169_55 rfl (by decide) ?_
      refine r_call (pc' := 59) [vR (some 50), vI _, vI _] [] d169_56 rfl o169 st12_103_12 (rcv1 sh50 (pl hN rfl)) rfl (by decide) ⟨rfl, rfl⟩ (Nat.le_of_ble_eq_true rfl) rfl (s_mustP (n := n) (num := 1) hN ok1.2 ?_)
      refine r_aload_n (pc' := 60) d169_59 rfl rfl rfl ?_
      refine r_aload_n (pc' := 61) d169_60 rfl rfl rfl ?_
      refine r_getI (pc' := 64) d169_61 rfl o169 sf12_94_12 sh50 (pl hN rfl) ?_
      refine wp_v RH_g14 ?_
      refine r_iconst (v := 0) (pc' := 65) d169_64 rfl (by decide) ?_
      refine r_bipush (v := 12) (pc' := 67) d169_65 rfl (by decide) ?_
      refine r_call (pc' := 70) [vI _, vI _, vI _] [vR (some 50)] d169_67 rfl o169 st12_59 rcv0 rfl (by decide) ⟨rfl, rfl⟩ (Nat.le_of_ble_eq_true rfl) rfl (s_in ?_)
      refine r_if_eqB 88 (pc' := 73) d169_70 rfl rfl (fun c70 => ?_) (fun c70 => ?_)
      · refine r_iconst (v := 0) (pc' := 89) d169_88 rfl (by decide) ?_
        refine r_iconst (v := 2) (pc' := 90) d169_89 rfl (by decide) ?_
        refine r_call (pc' := 93) [vR (some 50), vI _, vI _] [] d169_90 rfl o169 st12_103_12 (rcv1 sh50 (pl hN rfl)) rfl (by decide) ⟨rfl, rfl⟩ (Nat.le_of_ble_eq_true rfl) rfl (s_mustP (n := n) (num := 2) hN (pM_le (by decide) ok1.2) ?_)
        refine r_aload_n (pc' := 94) d169_93 rfl rfl rfl ?_
        refine r_getI (pc' := 97) d169_94 rfl o169 sf12_94_12 sh50 (pl hN rfl) ?_
        refine wp_v RH_g14 ?_
        refine r_istore_n (pc' := 98) (ls' := [(2, vI _), (1, vI _), (0, vR (some 50))]) d169_97 rfl rfl (by decide) rfl ?_
        refine r_aload_n (pc' := 99) d169_98 rfl rfl rfl ?_
        refine r_call (pc' := 102) [vR (some 50)] [] d169_99 rfl o169 st12_107_12 (rcv1 sh50 (pl hN rfl)) rfl (by decide) ⟨rfl, rfl⟩ (Nat.le_of_ble_eq_true rfl) rfl (s_goesOn hN hM hn0 hn1 hT (okM (okM ok1)) (vokM (vokM hv9)) (fun v9 hv9 => ?_))
        have e2 : pA (hi h 58) n (pM 0 2 (pM 0 1 (σ.1 + 1, 0))) = pNP (hi h 58) n (thP (hi h 58) n m s (σ.1 + 1)) (σ.1 + 1, 0) := pPM0 c47
        rw [e2] at hv9 ⊢
        have ok2 := pNP_ok (T := hi h 58) (p := (thP (hi h 58) n m s (σ.1 + 1))) ok1
        refine r_aload_n (pc' := 103) d169_102 rfl rfl rfl ?_
        refine r_bipush (v := 59) (pc' := 105) d169_103 rfl (by decide) ?_
        refine r_call (pc' := 108) [vR (some 50), vI _] [] d169_105 rfl o169 st12_117_12 (rcv1 sh50 (pl hN rfl)) rfl (by decide) ⟨rfl, rfl⟩ (Nat.le_of_ble_eq_true rfl) rfl (s_readSign hN hM hn0 hn1 hT ok2 hv9 (Or.inr rfl) (fun v9 hv9 => ?_))
        have eT : pT (hi h 58) n m s σ = pS (hi h 58) n 59 (pNP (hi h 58) n (thP (hi h 58) n m s (σ.1 + 1)) (σ.1 + 1, 0)) := by unfold pT; rw [eL]
        rw [← eT] at hv9 ⊢
        have ok3 : okS n (pT (hi h 58) n m s σ) := by rw [eT]; exact pS_ok ok2 (by decide)
        refine r_aload_n (pc' := 109) d169_108 rfl rfl rfl ?_
        refine r_getI (pc' := 112) d169_109 rfl o169 sf12_97_12 sh50 (pl hN rfl) ?_
        refine wp_v RH_g15 ?_
        refine r_if_ne 154 (pc' := 115) d169_112 rfl rfl (fun c112 => ?_) (fun c112 => ?_)
        · exact r_ret d169_154 rfl (kk v9 s hv9 (by unfold pTs; rw [if_neg (fun z => c112 (by show nI (pT (hi h 58) n m s σ).2 = 0; rw [z]; rfl))]))
        · have hG3 : (pT (hi h 58) n m s σ).2 = 0 := (nI_z ok3.2).mp c112
          refine r_aload_n (pc' := 116) d169_115 rfl rfl rfl ?_
          refine r_getS (pc' := 119) d169_116 rfl o169 sf12_35_12 sh50 (pl hN rfl) (rfm17 hM) ?_
          refine r_iconst (v := 5) (pc' := 120) d169_119 rfl (by decide) ?_
          refine r_aload_n (pc' := 121) d169_120 rfl rfl rfl ?_
          refine r_getS (pc' := 124) d169_121 rfl o169 sf12_35_12 sh50 (pl hN rfl) (rfm17 hM) ?_
          refine r_iconst (v := 1) (pc' := 125) d169_124 rfl (by decide) ?_
          refine r_ialdN (pc' := 126) (j := 1) d169_125 rfl sh59 (pl hN rfl) rfl (by omega) (by decide) ?_
          refine wp_v ((congrFun PH_59 1).trans hm) ?_
          refine r_iadd (pc' := 127) d169_126 rfl ?_
          refine r_iload_n (pc' := 128) d169_127 rfl rfl rfl ?_
          refine r_iastN (pc' := 129) (j := (5 + m)) d169_128 rfl sh59 (pl hN rfl) (by simp only [lit, nI_add, pk_mul]) (by omega) (by decide) ?_
          rw [PH_r]
          refine r_aload_n (pc' := 130) d169_129 rfl rfl rfl ?_
          refine r_getS (pc' := 133) d169_130 rfl o169 sf12_35_12 sh50 (pl hN rfl) (rfm17 hM) ?_
          refine r_bipush (v := 45) (pc' := 135) d169_133 rfl (by decide) ?_
          refine r_aload_n (pc' := 136) d169_135 rfl rfl rfl ?_
          refine r_getS (pc' := 139) d169_136 rfl o169 sf12_35_12 sh50 (pl hN rfl) (rfm17 hM) ?_
          refine r_iconst (v := 1) (pc' := 140) d169_139 rfl (by decide) ?_
          refine r_ialdN (pc' := 141) (j := 1) d169_140 rfl sh59 (pl hN rfl) rfl (by omega) (by decide) ?_
          refine wp_v ((congrFun PH_59 1).trans ((upd_ne _ _ _ (by omega)).trans hm)) ?_
          refine r_iadd (pc' := 142) d169_141 rfl ?_
          refine r_iload_n (pc' := 143) d169_142 rfl rfl rfl ?_
          refine r_iastN (pc' := 144) (j := (45 + m)) d169_143 rfl sh59 (pl hN rfl) (by simp only [lit, nI_add, pk_mul]) (by omega) (by decide) ?_
          rw [PH_r]
          refine r_aload_n (pc' := 145) d169_144 rfl rfl rfl ?_
          refine r_getS (pc' := 148) d169_145 rfl o169 sf12_35_12 sh50 (pl hN rfl) (rfm17 hM) ?_
          refine r_iconst (v := 1) (pc' := 149) d169_148 rfl (by decide) ?_
          refine r_dup2 (pc' := 150) d169_149 rfl ?_
          refine r_ialdN (pc' := 151) (j := 1) d169_150 rfl sh59 (pl hN rfl) rfl (by omega) (by decide) ?_
          refine wp_v ((congrFun PH_59 1).trans ((upd_ne _ _ _ (by omega)).trans ((upd_ne _ _ _ (by omega)).trans hm))) ?_
          refine r_iconst (v := 1) (pc' := 152) d169_151 rfl (by decide) ?_
          refine r_iadd (pc' := 153) d169_152 rfl ?_
          refine r_iastN (pc' := 154) (j := 1) d169_153 rfl sh59 (pl hN rfl) rfl (by omega) (by decide) ?_
          exact r_ret d169_154 rfl (qh PH_r.symm (kk v9 _ hv9 (by unfold pTs; rw [if_pos hG3, eL, ← hsv, ← pNP_v hv10 (pS_G (eT ▸ hG3)), ← nI_1])))
      · refine r_aload_n (pc' := 74) d169_73 rfl rfl rfl ?_
        refine r_aload_n (pc' := 75) d169_74 rfl rfl rfl ?_
        refine r_getI (pc' := 78) d169_75 rfl o169 sf12_94_12 sh50 (pl hN rfl) ?_
        refine wp_v RH_g14 ?_
        refine r_call (pc' := 81) [vR (some 50), vI _] [vR (some 50)] d169_78 rfl o169 st12_121_12 (rcv1 sh50 (pl hN rfl)) rfl (by decide) ⟨rfl, rfl⟩ (Nat.le_of_ble_eq_true rfl) rfl (s_isTold hN hM hm hm6 ?_)
        refine r_if_neB 88 (pc' := 84) d169_81 rfl rfl (fun c81 => ?_) (fun c81 => ?_)
        · refine r_iconst (v := 0) (pc' := 89) d169_88 rfl (by decide) ?_
          refine r_iconst (v := 2) (pc' := 90) d169_89 rfl (by decide) ?_
          refine r_call (pc' := 93) [vR (some 50), vI _, vI _] [] d169_90 rfl o169 st12_103_12 (rcv1 sh50 (pl hN rfl)) rfl (by decide) ⟨rfl, rfl⟩ (Nat.le_of_ble_eq_true rfl) rfl (s_mustP (n := n) (num := 2) hN (pM_le (by decide) ok1.2) ?_)
          refine r_aload_n (pc' := 94) d169_93 rfl rfl rfl ?_
          refine r_getI (pc' := 97) d169_94 rfl o169 sf12_94_12 sh50 (pl hN rfl) ?_
          refine wp_v RH_g14 ?_
          refine r_istore_n (pc' := 98) (ls' := [(2, vI _), (1, vI _), (0, vR (some 50))]) d169_97 rfl rfl (by decide) rfl ?_
          refine r_aload_n (pc' := 99) d169_98 rfl rfl rfl ?_
          refine r_call (pc' := 102) [vR (some 50)] [] d169_99 rfl o169 st12_107_12 (rcv1 sh50 (pl hN rfl)) rfl (by decide) ⟨rfl, rfl⟩ (Nat.le_of_ble_eq_true rfl) rfl (s_goesOn hN hM hn0 hn1 hT (okM (okM ok1)) (vokM (vokM hv9)) (fun v9 hv9 => ?_))
          have e2 : pA (hi h 58) n (pM 0 2 (pM 0 1 (σ.1 + 1, 0))) = pNP (hi h 58) n (thP (hi h 58) n m s (σ.1 + 1)) (σ.1 + 1, 0) := pPM0 c47
          rw [e2] at hv9 ⊢
          have ok2 := pNP_ok (T := hi h 58) (p := (thP (hi h 58) n m s (σ.1 + 1))) ok1
          refine r_aload_n (pc' := 103) d169_102 rfl rfl rfl ?_
          refine r_bipush (v := 59) (pc' := 105) d169_103 rfl (by decide) ?_
          refine r_call (pc' := 108) [vR (some 50), vI _] [] d169_105 rfl o169 st12_117_12 (rcv1 sh50 (pl hN rfl)) rfl (by decide) ⟨rfl, rfl⟩ (Nat.le_of_ble_eq_true rfl) rfl (s_readSign hN hM hn0 hn1 hT ok2 hv9 (Or.inr rfl) (fun v9 hv9 => ?_))
          have eT : pT (hi h 58) n m s σ = pS (hi h 58) n 59 (pNP (hi h 58) n (thP (hi h 58) n m s (σ.1 + 1)) (σ.1 + 1, 0)) := by unfold pT; rw [eL]
          rw [← eT] at hv9 ⊢
          have ok3 : okS n (pT (hi h 58) n m s σ) := by rw [eT]; exact pS_ok ok2 (by decide)
          refine r_aload_n (pc' := 109) d169_108 rfl rfl rfl ?_
          refine r_getI (pc' := 112) d169_109 rfl o169 sf12_97_12 sh50 (pl hN rfl) ?_
          refine wp_v RH_g15 ?_
          refine r_if_ne 154 (pc' := 115) d169_112 rfl rfl (fun c112 => ?_) (fun c112 => ?_)
          · exact r_ret d169_154 rfl (kk v9 s hv9 (by unfold pTs; rw [if_neg (fun z => c112 (by show nI (pT (hi h 58) n m s σ).2 = 0; rw [z]; rfl))]))
          · have hG3 : (pT (hi h 58) n m s σ).2 = 0 := (nI_z ok3.2).mp c112
            refine r_aload_n (pc' := 116) d169_115 rfl rfl rfl ?_
            refine r_getS (pc' := 119) d169_116 rfl o169 sf12_35_12 sh50 (pl hN rfl) (rfm17 hM) ?_
            refine r_iconst (v := 5) (pc' := 120) d169_119 rfl (by decide) ?_
            refine r_aload_n (pc' := 121) d169_120 rfl rfl rfl ?_
            refine r_getS (pc' := 124) d169_121 rfl o169 sf12_35_12 sh50 (pl hN rfl) (rfm17 hM) ?_
            refine r_iconst (v := 1) (pc' := 125) d169_124 rfl (by decide) ?_
            refine r_ialdN (pc' := 126) (j := 1) d169_125 rfl sh59 (pl hN rfl) rfl (by omega) (by decide) ?_
            refine wp_v ((congrFun PH_59 1).trans hm) ?_
            refine r_iadd (pc' := 127) d169_126 rfl ?_
            refine r_iload_n (pc' := 128) d169_127 rfl rfl rfl ?_
            refine r_iastN (pc' := 129) (j := (5 + m)) d169_128 rfl sh59 (pl hN rfl) (by simp only [lit, nI_add, pk_mul]) (by omega) (by decide) ?_
            rw [PH_r]
            refine r_aload_n (pc' := 130) d169_129 rfl rfl rfl ?_
            refine r_getS (pc' := 133) d169_130 rfl o169 sf12_35_12 sh50 (pl hN rfl) (rfm17 hM) ?_
            refine r_bipush (v := 45) (pc' := 135) d169_133 rfl (by decide) ?_
            refine r_aload_n (pc' := 136) d169_135 rfl rfl rfl ?_
            refine r_getS (pc' := 139) d169_136 rfl o169 sf12_35_12 sh50 (pl hN rfl) (rfm17 hM) ?_
            refine r_iconst (v := 1) (pc' := 140) d169_139 rfl (by decide) ?_
            refine r_ialdN (pc' := 141) (j := 1) d169_140 rfl sh59 (pl hN rfl) rfl (by omega) (by decide) ?_
            refine wp_v ((congrFun PH_59 1).trans ((upd_ne _ _ _ (by omega)).trans hm)) ?_
            refine r_iadd (pc' := 142) d169_141 rfl ?_
            refine r_iload_n (pc' := 143) d169_142 rfl rfl rfl ?_
            refine r_iastN (pc' := 144) (j := (45 + m)) d169_143 rfl sh59 (pl hN rfl) (by simp only [lit, nI_add, pk_mul]) (by omega) (by decide) ?_
            rw [PH_r]
            refine r_aload_n (pc' := 145) d169_144 rfl rfl rfl ?_
            refine r_getS (pc' := 148) d169_145 rfl o169 sf12_35_12 sh50 (pl hN rfl) (rfm17 hM) ?_
            refine r_iconst (v := 1) (pc' := 149) d169_148 rfl (by decide) ?_
            refine r_dup2 (pc' := 150) d169_149 rfl ?_
            refine r_ialdN (pc' := 151) (j := 1) d169_150 rfl sh59 (pl hN rfl) rfl (by omega) (by decide) ?_
            refine wp_v ((congrFun PH_59 1).trans ((upd_ne _ _ _ (by omega)).trans ((upd_ne _ _ _ (by omega)).trans hm))) ?_
            refine r_iconst (v := 1) (pc' := 152) d169_151 rfl (by decide) ?_
            refine r_iadd (pc' := 153) d169_152 rfl ?_
            refine r_iastN (pc' := 154) (j := 1) d169_153 rfl sh59 (pl hN rfl) rfl (by omega) (by decide) ?_
            exact r_ret d169_154 rfl (qh PH_r.symm (kk v9 _ hv9 (by unfold pTs; rw [if_pos hG3, eL, ← hsv, ← pNP_v hv10 (pS_G (eT ▸ hG3)), ← nI_1])))
        · refine r_iconst (v := 1) (pc' := 85) d169_84 rfl (by decide) ?_
          refine r_goto 89 d169_85 rfl ?_
          refine r_iconst (v := 2) (pc' := 90) d169_89 rfl (by decide) ?_
          refine r_call (pc' := 93) [vR (some 50), vI _, vI _] [] d169_90 rfl o169 st12_103_12 (rcv1 sh50 (pl hN rfl)) rfl (by decide) ⟨rfl, rfl⟩ (Nat.le_of_ble_eq_true rfl) rfl (s_mustP (n := n) (num := 2) hN (pM_le (by decide) ok1.2) ?_)
          refine r_aload_n (pc' := 94) d169_93 rfl rfl rfl ?_
          refine r_getI (pc' := 97) d169_94 rfl o169 sf12_94_12 sh50 (pl hN rfl) ?_
          refine wp_v RH_g14 ?_
          refine r_istore_n (pc' := 98) (ls' := [(2, vI _), (1, vI _), (0, vR (some 50))]) d169_97 rfl rfl (by decide) rfl ?_
          refine r_aload_n (pc' := 99) d169_98 rfl rfl rfl ?_
          refine r_call (pc' := 102) [vR (some 50)] [] d169_99 rfl o169 st12_107_12 (rcv1 sh50 (pl hN rfl)) rfl (by decide) ⟨rfl, rfl⟩ (Nat.le_of_ble_eq_true rfl) rfl (s_goesOn hN hM hn0 hn1 hT (okM (okM ok1)) (vokM (vokM hv9)) (fun v9 hv9 => ?_))
          have e2 : pA (hi h 58) n (pM 1 2 (pM 0 1 (σ.1 + 1, 0))) = pNP (hi h 58) n (thP (hi h 58) n m s (σ.1 + 1)) (σ.1 + 1, 0) := pPM0 c47
          rw [e2] at hv9 ⊢
          have ok2 := pNP_ok (T := hi h 58) (p := (thP (hi h 58) n m s (σ.1 + 1))) ok1
          refine r_aload_n (pc' := 103) d169_102 rfl rfl rfl ?_
          refine r_bipush (v := 59) (pc' := 105) d169_103 rfl (by decide) ?_
          refine r_call (pc' := 108) [vR (some 50), vI _] [] d169_105 rfl o169 st12_117_12 (rcv1 sh50 (pl hN rfl)) rfl (by decide) ⟨rfl, rfl⟩ (Nat.le_of_ble_eq_true rfl) rfl (s_readSign hN hM hn0 hn1 hT ok2 hv9 (Or.inr rfl) (fun v9 hv9 => ?_))
          have eT : pT (hi h 58) n m s σ = pS (hi h 58) n 59 (pNP (hi h 58) n (thP (hi h 58) n m s (σ.1 + 1)) (σ.1 + 1, 0)) := by unfold pT; rw [eL]
          rw [← eT] at hv9 ⊢
          have ok3 : okS n (pT (hi h 58) n m s σ) := by rw [eT]; exact pS_ok ok2 (by decide)
          refine r_aload_n (pc' := 109) d169_108 rfl rfl rfl ?_
          refine r_getI (pc' := 112) d169_109 rfl o169 sf12_97_12 sh50 (pl hN rfl) ?_
          refine wp_v RH_g15 ?_
          refine r_if_ne 154 (pc' := 115) d169_112 rfl rfl (fun c112 => ?_) (fun c112 => ?_)
          · exact r_ret d169_154 rfl (kk v9 s hv9 (by unfold pTs; rw [if_neg (fun z => c112 (by show nI (pT (hi h 58) n m s σ).2 = 0; rw [z]; rfl))]))
          · have hG3 : (pT (hi h 58) n m s σ).2 = 0 := (nI_z ok3.2).mp c112
            refine r_aload_n (pc' := 116) d169_115 rfl rfl rfl ?_
            refine r_getS (pc' := 119) d169_116 rfl o169 sf12_35_12 sh50 (pl hN rfl) (rfm17 hM) ?_
            refine r_iconst (v := 5) (pc' := 120) d169_119 rfl (by decide) ?_
            refine r_aload_n (pc' := 121) d169_120 rfl rfl rfl ?_
            refine r_getS (pc' := 124) d169_121 rfl o169 sf12_35_12 sh50 (pl hN rfl) (rfm17 hM) ?_
            refine r_iconst (v := 1) (pc' := 125) d169_124 rfl (by decide) ?_
            refine r_ialdN (pc' := 126) (j := 1) d169_125 rfl sh59 (pl hN rfl) rfl (by omega) (by decide) ?_
            refine wp_v ((congrFun PH_59 1).trans hm) ?_
            refine r_iadd (pc' := 127) d169_126 rfl ?_
            refine r_iload_n (pc' := 128) d169_127 rfl rfl rfl ?_
            refine r_iastN (pc' := 129) (j := (5 + m)) d169_128 rfl sh59 (pl hN rfl) (by simp only [lit, nI_add, pk_mul]) (by omega) (by decide) ?_
            rw [PH_r]
            refine r_aload_n (pc' := 130) d169_129 rfl rfl rfl ?_
            refine r_getS (pc' := 133) d169_130 rfl o169 sf12_35_12 sh50 (pl hN rfl) (rfm17 hM) ?_
            refine r_bipush (v := 45) (pc' := 135) d169_133 rfl (by decide) ?_
            refine r_aload_n (pc' := 136) d169_135 rfl rfl rfl ?_
            refine r_getS (pc' := 139) d169_136 rfl o169 sf12_35_12 sh50 (pl hN rfl) (rfm17 hM) ?_
            refine r_iconst (v := 1) (pc' := 140) d169_139 rfl (by decide) ?_
            refine r_ialdN (pc' := 141) (j := 1) d169_140 rfl sh59 (pl hN rfl) rfl (by omega) (by decide) ?_
            refine wp_v ((congrFun PH_59 1).trans ((upd_ne _ _ _ (by omega)).trans hm)) ?_
            refine r_iadd (pc' := 142) d169_141 rfl ?_
            refine r_iload_n (pc' := 143) d169_142 rfl rfl rfl ?_
            refine r_iastN (pc' := 144) (j := (45 + m)) d169_143 rfl sh59 (pl hN rfl) (by simp only [lit, nI_add, pk_mul]) (by omega) (by decide) ?_
            rw [PH_r]
            refine r_aload_n (pc' := 145) d169_144 rfl rfl rfl ?_
            refine r_getS (pc' := 148) d169_145 rfl o169 sf12_35_12 sh50 (pl hN rfl) (rfm17 hM) ?_
            refine r_iconst (v := 1) (pc' := 149) d169_148 rfl (by decide) ?_
            refine r_dup2 (pc' := 150) d169_149 rfl ?_
            refine r_ialdN (pc' := 151) (j := 1) d169_150 rfl sh59 (pl hN rfl) rfl (by omega) (by decide) ?_
            refine wp_v ((congrFun PH_59 1).trans ((upd_ne _ _ _ (by omega)).trans ((upd_ne _ _ _ (by omega)).trans hm))) ?_
            refine r_iconst (v := 1) (pc' := 152) d169_151 rfl (by decide) ?_
            refine r_iadd (pc' := 153) d169_152 rfl ?_
            refine r_iastN (pc' := 154) (j := 1) d169_153 rfl sh59 (pl hN rfl) rfl (by omega) (by decide) ?_
            exact r_ret d169_154 rfl (qh PH_r.symm (kk v9 _ hv9 (by unfold pTs; rw [if_pos hG3, eL, ← hsv, ← pNP_v hv10 (pS_G (eT ▸ hG3)), ← nI_1])))
    · refine r_iconst (v := 1) (pc' := 51) d169_50 rfl (by decide) ?_
      refine r_goto 55 d169_51 rfl ?_
      refine r_iconst (v := 1) (pc' := 56) d169_55 rfl (by decide) ?_
      refine r_call (pc' := 59) [vR (some 50), vI _, vI _] [] d169_56 rfl o169 st12_103_12 (rcv1 sh50 (pl hN rfl)) rfl (by decide) ⟨rfl, rfl⟩ (Nat.le_of_ble_eq_true rfl) rfl (s_mustP (n := n) (num := 1) hN ok1.2 ?_)
      refine r_aload_n (pc' := 60) d169_59 rfl rfl rfl ?_
      refine r_aload_n (pc' := 61) d169_60 rfl rfl rfl ?_
      refine r_getI (pc' := 64) d169_61 rfl o169 sf12_94_12 sh50 (pl hN rfl) ?_
      refine wp_v RH_g14 ?_
      refine r_iconst (v := 0) (pc' := 65) d169_64 rfl (by decide) ?_
      refine r_bipush (v := 12) (pc' := 67) d169_65 rfl (by decide) ?_
      refine r_call (pc' := 70) [vI _, vI _, vI _] [vR (some 50)] d169_67 rfl o169 st12_59 rcv0 rfl (by decide) ⟨rfl, rfl⟩ (Nat.le_of_ble_eq_true rfl) rfl (s_in ?_)
      refine r_if_eqB 88 (pc' := 73) d169_70 rfl rfl (fun c70 => ?_) (fun c70 => ?_)
      · refine r_iconst (v := 0) (pc' := 89) d169_88 rfl (by decide) ?_
        refine r_iconst (v := 2) (pc' := 90) d169_89 rfl (by decide) ?_
        refine r_call (pc' := 93) [vR (some 50), vI _, vI _] [] d169_90 rfl o169 st12_103_12 (rcv1 sh50 (pl hN rfl)) rfl (by decide) ⟨rfl, rfl⟩ (Nat.le_of_ble_eq_true rfl) rfl (s_mustP (n := n) (num := 2) hN (pM_le (by decide) ok1.2) ?_)
        refine r_aload_n (pc' := 94) d169_93 rfl rfl rfl ?_
        refine r_getI (pc' := 97) d169_94 rfl o169 sf12_94_12 sh50 (pl hN rfl) ?_
        refine wp_v RH_g14 ?_
        refine r_istore_n (pc' := 98) (ls' := [(2, vI _), (1, vI _), (0, vR (some 50))]) d169_97 rfl rfl (by decide) rfl ?_
        refine r_aload_n (pc' := 99) d169_98 rfl rfl rfl ?_
        refine r_call (pc' := 102) [vR (some 50)] [] d169_99 rfl o169 st12_107_12 (rcv1 sh50 (pl hN rfl)) rfl (by decide) ⟨rfl, rfl⟩ (Nat.le_of_ble_eq_true rfl) rfl (s_goesOn hN hM hn0 hn1 hT (okM (okM ok1)) (vokM (vokM hv9)) (fun v9 hv9 => ?_))
        have e2 : pA (hi h 58) n (pM 0 2 (pM 1 1 (σ.1 + 1, 0))) = pNP (hi h 58) n (thP (hi h 58) n m s (σ.1 + 1)) (σ.1 + 1, 0) := pPM1 hv10 c47 (fun z9 => ⟨fun _ z8 => c70 (by rw [z9]; exact z8.1), fun _ => rfl⟩)
        rw [e2] at hv9 ⊢
        have ok2 := pNP_ok (T := hi h 58) (p := (thP (hi h 58) n m s (σ.1 + 1))) ok1
        refine r_aload_n (pc' := 103) d169_102 rfl rfl rfl ?_
        refine r_bipush (v := 59) (pc' := 105) d169_103 rfl (by decide) ?_
        refine r_call (pc' := 108) [vR (some 50), vI _] [] d169_105 rfl o169 st12_117_12 (rcv1 sh50 (pl hN rfl)) rfl (by decide) ⟨rfl, rfl⟩ (Nat.le_of_ble_eq_true rfl) rfl (s_readSign hN hM hn0 hn1 hT ok2 hv9 (Or.inr rfl) (fun v9 hv9 => ?_))
        have eT : pT (hi h 58) n m s σ = pS (hi h 58) n 59 (pNP (hi h 58) n (thP (hi h 58) n m s (σ.1 + 1)) (σ.1 + 1, 0)) := by unfold pT; rw [eL]
        rw [← eT] at hv9 ⊢
        have ok3 : okS n (pT (hi h 58) n m s σ) := by rw [eT]; exact pS_ok ok2 (by decide)
        refine r_aload_n (pc' := 109) d169_108 rfl rfl rfl ?_
        refine r_getI (pc' := 112) d169_109 rfl o169 sf12_97_12 sh50 (pl hN rfl) ?_
        refine wp_v RH_g15 ?_
        refine r_if_ne 154 (pc' := 115) d169_112 rfl rfl (fun c112 => ?_) (fun c112 => ?_)
        · exact r_ret d169_154 rfl (kk v9 s hv9 (by unfold pTs; rw [if_neg (fun z => c112 (by show nI (pT (hi h 58) n m s σ).2 = 0; rw [z]; rfl))]))
        · have hG3 : (pT (hi h 58) n m s σ).2 = 0 := (nI_z ok3.2).mp c112
          refine r_aload_n (pc' := 116) d169_115 rfl rfl rfl ?_
          refine r_getS (pc' := 119) d169_116 rfl o169 sf12_35_12 sh50 (pl hN rfl) (rfm17 hM) ?_
          refine r_iconst (v := 5) (pc' := 120) d169_119 rfl (by decide) ?_
          refine r_aload_n (pc' := 121) d169_120 rfl rfl rfl ?_
          refine r_getS (pc' := 124) d169_121 rfl o169 sf12_35_12 sh50 (pl hN rfl) (rfm17 hM) ?_
          refine r_iconst (v := 1) (pc' := 125) d169_124 rfl (by decide) ?_
          refine r_ialdN (pc' := 126) (j := 1) d169_125 rfl sh59 (pl hN rfl) rfl (by omega) (by decide) ?_
          refine wp_v ((congrFun PH_59 1).trans hm) ?_
          refine r_iadd (pc' := 127) d169_126 rfl ?_
          refine r_iload_n (pc' := 128) d169_127 rfl rfl rfl ?_
          refine r_iastN (pc' := 129) (j := (5 + m)) d169_128 rfl sh59 (pl hN rfl) (by simp only [lit, nI_add, pk_mul]) (by omega) (by decide) ?_
          rw [PH_r]
          refine r_aload_n (pc' := 130) d169_129 rfl rfl rfl ?_
          refine r_getS (pc' := 133) d169_130 rfl o169 sf12_35_12 sh50 (pl hN rfl) (rfm17 hM) ?_
          refine r_bipush (v := 45) (pc' := 135) d169_133 rfl (by decide) ?_
          refine r_aload_n (pc' := 136) d169_135 rfl rfl rfl ?_
          refine r_getS (pc' := 139) d169_136 rfl o169 sf12_35_12 sh50 (pl hN rfl) (rfm17 hM) ?_
          refine r_iconst (v := 1) (pc' := 140) d169_139 rfl (by decide) ?_
          refine r_ialdN (pc' := 141) (j := 1) d169_140 rfl sh59 (pl hN rfl) rfl (by omega) (by decide) ?_
          refine wp_v ((congrFun PH_59 1).trans ((upd_ne _ _ _ (by omega)).trans hm)) ?_
          refine r_iadd (pc' := 142) d169_141 rfl ?_
          refine r_iload_n (pc' := 143) d169_142 rfl rfl rfl ?_
          refine r_iastN (pc' := 144) (j := (45 + m)) d169_143 rfl sh59 (pl hN rfl) (by simp only [lit, nI_add, pk_mul]) (by omega) (by decide) ?_
          rw [PH_r]
          refine r_aload_n (pc' := 145) d169_144 rfl rfl rfl ?_
          refine r_getS (pc' := 148) d169_145 rfl o169 sf12_35_12 sh50 (pl hN rfl) (rfm17 hM) ?_
          refine r_iconst (v := 1) (pc' := 149) d169_148 rfl (by decide) ?_
          refine r_dup2 (pc' := 150) d169_149 rfl ?_
          refine r_ialdN (pc' := 151) (j := 1) d169_150 rfl sh59 (pl hN rfl) rfl (by omega) (by decide) ?_
          refine wp_v ((congrFun PH_59 1).trans ((upd_ne _ _ _ (by omega)).trans ((upd_ne _ _ _ (by omega)).trans hm))) ?_
          refine r_iconst (v := 1) (pc' := 152) d169_151 rfl (by decide) ?_
          refine r_iadd (pc' := 153) d169_152 rfl ?_
          refine r_iastN (pc' := 154) (j := 1) d169_153 rfl sh59 (pl hN rfl) rfl (by omega) (by decide) ?_
          exact r_ret d169_154 rfl (qh PH_r.symm (kk v9 _ hv9 (by unfold pTs; rw [if_pos hG3, eL, ← hsv, ← pNP_v hv10 (pS_G (eT ▸ hG3)), ← nI_1])))
      · refine r_aload_n (pc' := 74) d169_73 rfl rfl rfl ?_
        refine r_aload_n (pc' := 75) d169_74 rfl rfl rfl ?_
        refine r_getI (pc' := 78) d169_75 rfl o169 sf12_94_12 sh50 (pl hN rfl) ?_
        refine wp_v RH_g14 ?_
        refine r_call (pc' := 81) [vR (some 50), vI _] [vR (some 50)] d169_78 rfl o169 st12_121_12 (rcv1 sh50 (pl hN rfl)) rfl (by decide) ⟨rfl, rfl⟩ (Nat.le_of_ble_eq_true rfl) rfl (s_isTold hN hM hm hm6 ?_)
        refine r_if_neB 88 (pc' := 84) d169_81 rfl rfl (fun c81 => ?_) (fun c81 => ?_)
        · refine r_iconst (v := 0) (pc' := 89) d169_88 rfl (by decide) ?_
          refine r_iconst (v := 2) (pc' := 90) d169_89 rfl (by decide) ?_
          refine r_call (pc' := 93) [vR (some 50), vI _, vI _] [] d169_90 rfl o169 st12_103_12 (rcv1 sh50 (pl hN rfl)) rfl (by decide) ⟨rfl, rfl⟩ (Nat.le_of_ble_eq_true rfl) rfl (s_mustP (n := n) (num := 2) hN (pM_le (by decide) ok1.2) ?_)
          refine r_aload_n (pc' := 94) d169_93 rfl rfl rfl ?_
          refine r_getI (pc' := 97) d169_94 rfl o169 sf12_94_12 sh50 (pl hN rfl) ?_
          refine wp_v RH_g14 ?_
          refine r_istore_n (pc' := 98) (ls' := [(2, vI _), (1, vI _), (0, vR (some 50))]) d169_97 rfl rfl (by decide) rfl ?_
          refine r_aload_n (pc' := 99) d169_98 rfl rfl rfl ?_
          refine r_call (pc' := 102) [vR (some 50)] [] d169_99 rfl o169 st12_107_12 (rcv1 sh50 (pl hN rfl)) rfl (by decide) ⟨rfl, rfl⟩ (Nat.le_of_ble_eq_true rfl) rfl (s_goesOn hN hM hn0 hn1 hT (okM (okM ok1)) (vokM (vokM hv9)) (fun v9 hv9 => ?_))
          have e2 : pA (hi h 58) n (pM 0 2 (pM 1 1 (σ.1 + 1, 0))) = pNP (hi h 58) n (thP (hi h 58) n m s (σ.1 + 1)) (σ.1 + 1, 0) := pPM1 hv10 c47 (fun z9 => ⟨fun _ z8 => z8.2 (by rw [← z9]; exact c81), fun _ => rfl⟩)
          rw [e2] at hv9 ⊢
          have ok2 := pNP_ok (T := hi h 58) (p := (thP (hi h 58) n m s (σ.1 + 1))) ok1
          refine r_aload_n (pc' := 103) d169_102 rfl rfl rfl ?_
          refine r_bipush (v := 59) (pc' := 105) d169_103 rfl (by decide) ?_
          refine r_call (pc' := 108) [vR (some 50), vI _] [] d169_105 rfl o169 st12_117_12 (rcv1 sh50 (pl hN rfl)) rfl (by decide) ⟨rfl, rfl⟩ (Nat.le_of_ble_eq_true rfl) rfl (s_readSign hN hM hn0 hn1 hT ok2 hv9 (Or.inr rfl) (fun v9 hv9 => ?_))
          have eT : pT (hi h 58) n m s σ = pS (hi h 58) n 59 (pNP (hi h 58) n (thP (hi h 58) n m s (σ.1 + 1)) (σ.1 + 1, 0)) := by unfold pT; rw [eL]
          rw [← eT] at hv9 ⊢
          have ok3 : okS n (pT (hi h 58) n m s σ) := by rw [eT]; exact pS_ok ok2 (by decide)
          refine r_aload_n (pc' := 109) d169_108 rfl rfl rfl ?_
          refine r_getI (pc' := 112) d169_109 rfl o169 sf12_97_12 sh50 (pl hN rfl) ?_
          refine wp_v RH_g15 ?_
          refine r_if_ne 154 (pc' := 115) d169_112 rfl rfl (fun c112 => ?_) (fun c112 => ?_)
          · exact r_ret d169_154 rfl (kk v9 s hv9 (by unfold pTs; rw [if_neg (fun z => c112 (by show nI (pT (hi h 58) n m s σ).2 = 0; rw [z]; rfl))]))
          · have hG3 : (pT (hi h 58) n m s σ).2 = 0 := (nI_z ok3.2).mp c112
            refine r_aload_n (pc' := 116) d169_115 rfl rfl rfl ?_
            refine r_getS (pc' := 119) d169_116 rfl o169 sf12_35_12 sh50 (pl hN rfl) (rfm17 hM) ?_
            refine r_iconst (v := 5) (pc' := 120) d169_119 rfl (by decide) ?_
            refine r_aload_n (pc' := 121) d169_120 rfl rfl rfl ?_
            refine r_getS (pc' := 124) d169_121 rfl o169 sf12_35_12 sh50 (pl hN rfl) (rfm17 hM) ?_
            refine r_iconst (v := 1) (pc' := 125) d169_124 rfl (by decide) ?_
            refine r_ialdN (pc' := 126) (j := 1) d169_125 rfl sh59 (pl hN rfl) rfl (by omega) (by decide) ?_
            refine wp_v ((congrFun PH_59 1).trans hm) ?_
            refine r_iadd (pc' := 127) d169_126 rfl ?_
            refine r_iload_n (pc' := 128) d169_127 rfl rfl rfl ?_
            refine r_iastN (pc' := 129) (j := (5 + m)) d169_128 rfl sh59 (pl hN rfl) (by simp only [lit, nI_add, pk_mul]) (by omega) (by decide) ?_
            rw [PH_r]
            refine r_aload_n (pc' := 130) d169_129 rfl rfl rfl ?_
            refine r_getS (pc' := 133) d169_130 rfl o169 sf12_35_12 sh50 (pl hN rfl) (rfm17 hM) ?_
            refine r_bipush (v := 45) (pc' := 135) d169_133 rfl (by decide) ?_
            refine r_aload_n (pc' := 136) d169_135 rfl rfl rfl ?_
            refine r_getS (pc' := 139) d169_136 rfl o169 sf12_35_12 sh50 (pl hN rfl) (rfm17 hM) ?_
            refine r_iconst (v := 1) (pc' := 140) d169_139 rfl (by decide) ?_
            refine r_ialdN (pc' := 141) (j := 1) d169_140 rfl sh59 (pl hN rfl) rfl (by omega) (by decide) ?_
            refine wp_v ((congrFun PH_59 1).trans ((upd_ne _ _ _ (by omega)).trans hm)) ?_
            refine r_iadd (pc' := 142) d169_141 rfl ?_
            refine r_iload_n (pc' := 143) d169_142 rfl rfl rfl ?_
            refine r_iastN (pc' := 144) (j := (45 + m)) d169_143 rfl sh59 (pl hN rfl) (by simp only [lit, nI_add, pk_mul]) (by omega) (by decide) ?_
            rw [PH_r]
            refine r_aload_n (pc' := 145) d169_144 rfl rfl rfl ?_
            refine r_getS (pc' := 148) d169_145 rfl o169 sf12_35_12 sh50 (pl hN rfl) (rfm17 hM) ?_
            refine r_iconst (v := 1) (pc' := 149) d169_148 rfl (by decide) ?_
            refine r_dup2 (pc' := 150) d169_149 rfl ?_
            refine r_ialdN (pc' := 151) (j := 1) d169_150 rfl sh59 (pl hN rfl) rfl (by omega) (by decide) ?_
            refine wp_v ((congrFun PH_59 1).trans ((upd_ne _ _ _ (by omega)).trans ((upd_ne _ _ _ (by omega)).trans hm))) ?_
            refine r_iconst (v := 1) (pc' := 152) d169_151 rfl (by decide) ?_
            refine r_iadd (pc' := 153) d169_152 rfl ?_
            refine r_iastN (pc' := 154) (j := 1) d169_153 rfl sh59 (pl hN rfl) rfl (by omega) (by decide) ?_
            exact r_ret d169_154 rfl (qh PH_r.symm (kk v9 _ hv9 (by unfold pTs; rw [if_pos hG3, eL, ← hsv, ← pNP_v hv10 (pS_G (eT ▸ hG3)), ← nI_1])))
        · refine r_iconst (v := 1) (pc' := 85) d169_84 rfl (by decide) ?_
          refine r_goto 89 d169_85 rfl ?_
          refine r_iconst (v := 2) (pc' := 90) d169_89 rfl (by decide) ?_
          refine r_call (pc' := 93) [vR (some 50), vI _, vI _] [] d169_90 rfl o169 st12_103_12 (rcv1 sh50 (pl hN rfl)) rfl (by decide) ⟨rfl, rfl⟩ (Nat.le_of_ble_eq_true rfl) rfl (s_mustP (n := n) (num := 2) hN (pM_le (by decide) ok1.2) ?_)
          refine r_aload_n (pc' := 94) d169_93 rfl rfl rfl ?_
          refine r_getI (pc' := 97) d169_94 rfl o169 sf12_94_12 sh50 (pl hN rfl) ?_
          refine wp_v RH_g14 ?_
          refine r_istore_n (pc' := 98) (ls' := [(2, vI _), (1, vI _), (0, vR (some 50))]) d169_97 rfl rfl (by decide) rfl ?_
          refine r_aload_n (pc' := 99) d169_98 rfl rfl rfl ?_
          refine r_call (pc' := 102) [vR (some 50)] [] d169_99 rfl o169 st12_107_12 (rcv1 sh50 (pl hN rfl)) rfl (by decide) ⟨rfl, rfl⟩ (Nat.le_of_ble_eq_true rfl) rfl (s_goesOn hN hM hn0 hn1 hT (okM (okM ok1)) (vokM (vokM hv9)) (fun v9 hv9 => ?_))
          have e2 : pA (hi h 58) n (pM 1 2 (pM 1 1 (σ.1 + 1, 0))) = pNP (hi h 58) n (thP (hi h 58) n m s (σ.1 + 1)) (σ.1 + 1, 0) := pPM1 hv10 c47 (fun z9 => ⟨fun z8 => absurd z8 (by decide), fun z8 => absurd ⟨by rw [← z9]; exact c70, by rw [← z9]; exact c81⟩ z8⟩)
          rw [e2] at hv9 ⊢
          have ok2 := pNP_ok (T := hi h 58) (p := (thP (hi h 58) n m s (σ.1 + 1))) ok1
          refine r_aload_n (pc' := 103) d169_102 rfl rfl rfl ?_
          refine r_bipush (v := 59) (pc' := 105) d169_103 rfl (by decide) ?_
          refine r_call (pc' := 108) [vR (some 50), vI _] [] d169_105 rfl o169 st12_117_12 (rcv1 sh50 (pl hN rfl)) rfl (by decide) ⟨rfl, rfl⟩ (Nat.le_of_ble_eq_true rfl) rfl (s_readSign hN hM hn0 hn1 hT ok2 hv9 (Or.inr rfl) (fun v9 hv9 => ?_))
          have eT : pT (hi h 58) n m s σ = pS (hi h 58) n 59 (pNP (hi h 58) n (thP (hi h 58) n m s (σ.1 + 1)) (σ.1 + 1, 0)) := by unfold pT; rw [eL]
          rw [← eT] at hv9 ⊢
          have ok3 : okS n (pT (hi h 58) n m s σ) := by rw [eT]; exact pS_ok ok2 (by decide)
          refine r_aload_n (pc' := 109) d169_108 rfl rfl rfl ?_
          refine r_getI (pc' := 112) d169_109 rfl o169 sf12_97_12 sh50 (pl hN rfl) ?_
          refine wp_v RH_g15 ?_
          refine r_if_ne 154 (pc' := 115) d169_112 rfl rfl (fun c112 => ?_) (fun c112 => ?_)
          · exact r_ret d169_154 rfl (kk v9 s hv9 (by unfold pTs; rw [if_neg (fun z => c112 (by show nI (pT (hi h 58) n m s σ).2 = 0; rw [z]; rfl))]))
          · have hG3 : (pT (hi h 58) n m s σ).2 = 0 := (nI_z ok3.2).mp c112
            refine r_aload_n (pc' := 116) d169_115 rfl rfl rfl ?_
            refine r_getS (pc' := 119) d169_116 rfl o169 sf12_35_12 sh50 (pl hN rfl) (rfm17 hM) ?_
            refine r_iconst (v := 5) (pc' := 120) d169_119 rfl (by decide) ?_
            refine r_aload_n (pc' := 121) d169_120 rfl rfl rfl ?_
            refine r_getS (pc' := 124) d169_121 rfl o169 sf12_35_12 sh50 (pl hN rfl) (rfm17 hM) ?_
            refine r_iconst (v := 1) (pc' := 125) d169_124 rfl (by decide) ?_
            refine r_ialdN (pc' := 126) (j := 1) d169_125 rfl sh59 (pl hN rfl) rfl (by omega) (by decide) ?_
            refine wp_v ((congrFun PH_59 1).trans hm) ?_
            refine r_iadd (pc' := 127) d169_126 rfl ?_
            refine r_iload_n (pc' := 128) d169_127 rfl rfl rfl ?_
            refine r_iastN (pc' := 129) (j := (5 + m)) d169_128 rfl sh59 (pl hN rfl) (by simp only [lit, nI_add, pk_mul]) (by omega) (by decide) ?_
            rw [PH_r]
            refine r_aload_n (pc' := 130) d169_129 rfl rfl rfl ?_
            refine r_getS (pc' := 133) d169_130 rfl o169 sf12_35_12 sh50 (pl hN rfl) (rfm17 hM) ?_
            refine r_bipush (v := 45) (pc' := 135) d169_133 rfl (by decide) ?_
            refine r_aload_n (pc' := 136) d169_135 rfl rfl rfl ?_
            refine r_getS (pc' := 139) d169_136 rfl o169 sf12_35_12 sh50 (pl hN rfl) (rfm17 hM) ?_
            refine r_iconst (v := 1) (pc' := 140) d169_139 rfl (by decide) ?_
            refine r_ialdN (pc' := 141) (j := 1) d169_140 rfl sh59 (pl hN rfl) rfl (by omega) (by decide) ?_
            refine wp_v ((congrFun PH_59 1).trans ((upd_ne _ _ _ (by omega)).trans hm)) ?_
            refine r_iadd (pc' := 142) d169_141 rfl ?_
            refine r_iload_n (pc' := 143) d169_142 rfl rfl rfl ?_
            refine r_iastN (pc' := 144) (j := (45 + m)) d169_143 rfl sh59 (pl hN rfl) (by simp only [lit, nI_add, pk_mul]) (by omega) (by decide) ?_
            rw [PH_r]
            refine r_aload_n (pc' := 145) d169_144 rfl rfl rfl ?_
            refine r_getS (pc' := 148) d169_145 rfl o169 sf12_35_12 sh50 (pl hN rfl) (rfm17 hM) ?_
            refine r_iconst (v := 1) (pc' := 149) d169_148 rfl (by decide) ?_
            refine r_dup2 (pc' := 150) d169_149 rfl ?_
            refine r_ialdN (pc' := 151) (j := 1) d169_150 rfl sh59 (pl hN rfl) rfl (by omega) (by decide) ?_
            refine wp_v ((congrFun PH_59 1).trans ((upd_ne _ _ _ (by omega)).trans ((upd_ne _ _ _ (by omega)).trans hm))) ?_
            refine r_iconst (v := 1) (pc' := 152) d169_151 rfl (by decide) ?_
            refine r_iadd (pc' := 153) d169_152 rfl ?_
            refine r_iastN (pc' := 154) (j := 1) d169_153 rfl sh59 (pl hN rfl) rfl (by omega) (by decide) ?_
            exact r_ret d169_154 rfl (qh PH_r.symm (kk v9 _ hv9 (by unfold pTs; rw [if_pos hG3, eL, ← hsv, ← pNP_v hv10 (pS_G (eT ▸ hG3)), ← nI_1])))
def pK (T : Nat → Int32) (n : Nat) (σ : Nat × Nat) : Nat × Nat := if σ.2 = 0 then (if srt (zB T n σ.1) = -1000000 then (σ.1, 1) else (σ.1 + 1, 0)) else σ
theorem pK_ok {T : Nat → Int32} {n : Nat} {σ : Nat × Nat} (h : okS n σ) : okS n (pK T n σ) := by
  unfold pK; split
  · split
    · exact ⟨h.1, by show 1 ≤ 3; omega⟩
    · next z => have := zB_lt (T := T) (n := n) (p := σ.1) rfl (let_0 (srt_l z)); exact ⟨by show σ.1 + 1 ≤ n; omega, by show 0 ≤ 3; omega⟩
  · exact h
theorem pK_G {T : Nat → Int32} {n : Nat} {σ : Nat × Nat} (h : (pK T n σ).2 = 0) : σ.2 = 0 ∧ ¬ srt (zB T n σ.1) = -1000000 := by
  unfold pK at h; split at h
  · next y =>
    split at h
    · exact absurd (show (1 : Nat) = 0 from h) (by decide)
    · next z => exact ⟨y, z⟩
  · next y => exact absurd h y
theorem pKM {T : Nat → Int32} {n : Nat} {σ : Nat × Nat} : pA T n (pM (bI (σ.2 = 0 ∧ ¬ srt (zB T n σ.1) = -1000000)) 1 σ) = pK T n σ := by
  unfold pM pA pK
  dsimp only
  by_cases hG : σ.2 = 0
  · by_cases hs : srt (zB T n σ.1) = -1000000
    · rw [b0 (fun z => z.2 hs), if_pos (c := σ.2 = 0 ∧ (0 : Int32) = 0) ⟨hG, rfl⟩, if_neg (by decide), if_pos hG, if_pos hs]
    · have hp := zB_lt (T := T) (n := n) (p := σ.1) rfl (let_0 (srt_l hs))
      rw [b1 ⟨hG, hs⟩, if_neg (c := σ.2 = 0 ∧ (1 : Int32) = 0) (fun z => absurd z.2 (by decide)), if_pos hG, if_pos hG, if_neg hs, show zC T n σ.1 = σ.1 + 1 by unfold zC; rw [if_neg (Nat.not_le.mpr hp), if_neg (let_f (srt_l hs))]]
  · rw [if_neg (c := σ.2 = 0 ∧ bI (σ.2 = 0 ∧ ¬ srt (zB T n σ.1) = -1000000) = 0) (fun z => hG z.1), if_neg hG, if_neg hG]
def pE (T : Nat → Int32) (n e : Nat) (σ : Nat × Nat) : Nat × Nat := pS T n 59 (pN T n 0 60 (pK T n (pL (decide (e < 4)) σ)))
def pEs (T : Nat → Int32) (n e : Nat) (σ : Nat × Nat) (s : Nat → Int32) : Nat → Int32 := if (pE T n e σ).2 = 0 then upd (upd (upd (upd s (11 + e) (srt (zB T n (pL (decide (e < 4)) σ).1))) (15 + e) (zV T n (pK T n (pL (decide (e < 4)) σ)).1)) (81 + e) (-1000000)) 2 (nI (e + 1)) else s
theorem pE_lt {T : Nat → Int32} {n e : Nat} {σ : Nat × Nat} (h : (pE T n e σ).2 = 0) : e < 4 := by
  have z := (pK_G (pN_G (pS_G h))).1
  unfold pL at z
  by_cases y : e < 4
  · exact y
  · rw [decide_eq_false y] at z; exact absurd (show (3 : Nat) = 0 from z) (by decide)
theorem s_readEater {d : Nat} {h : Hp} {Q : Option AV → Hp → Prop} {n : Nat} {s : Nat → Int32} {σ : Nat × Nat} {v : Int32} {e : Nat} (hN : hn h = 65) (hM : RM h) (hn0 : hi h 50 10 = nI n) (hn1 : n ≤ 160) (hT : tOK (hi h 58) n) (hσ : okS n σ) (hv : vok (hi h 58) n σ v) (hG : σ.2 = 0) (hz : zB (hi h 58) n σ.1 = 101) (he : s 2 = nI e) (he4 : e ≤ 4) (kk : ∀ v9 s9, vok (hi h 58) n (pE (hi h 58) n e σ) v9 → s9 = pEs (hi h 58) n e σ s → Q none (PH h n s9 (pE (hi h 58) n e σ) v9)) : Spec (d + 4) 170 [vR (some 50)] (PH h n s σ v) Q := by
  refine spec_intro (by decide +kernel) rfl (Nat.le_of_ble_eq_true rfl) ?_
  refine r_aload_n (pc' := 1) d170_0 rfl rfl rfl ?_
  refine r_aload_n (pc' := 2) d170_1 rfl rfl rfl ?_
  refine r_getS (pc' := 5) d170_2 rfl o170 sf12_35_12 sh50 (pl hN rfl) (rfm17 hM) ?_
  refine r_iconst (v := 2) (pc' := 6) d170_5 rfl (by decide) ?_
  refine r_ialdN (pc' := 7) (j := 2) d170_6 rfl sh59 (pl hN rfl) rfl (by omega) (by decide) ?_
  refine wp_v ((congrFun PH_59 2).trans he) ?_
  refine r_iconst (v := 4) (pc' := 8) d170_7 rfl (by decide) ?_
  refine r_icmp_ge 15 (pc' := 11) d170_8 rfl rfl (fun c8 => ?_) (fun c8 => ?_)
  · refine r_iconst (v := 0) (pc' := 16) d170_15 rfl (by decide) ?_
    refine r_iconst (v := 3) (pc' := 17) d170_16 rfl (by decide) ?_
    refine r_call (pc' := 20) [vR (some 50), vI _, vI _] [] d170_17 rfl o170 st12_103_12 (rcv1 sh50 (pl hN rfl)) rfl (by decide) ⟨rfl, rfl⟩ (Nat.le_of_ble_eq_true rfl) rfl (s_mustP (n := n) (σ := σ) (num := 3) hN hσ.2 ?_)
    refine r_aload_n (pc' := 21) d170_20 rfl rfl rfl ?_
    refine r_call (pc' := 24) [vR (some 50)] [] d170_21 rfl o170 st12_107_12 (rcv1 sh50 (pl hN rfl)) rfl (by decide) ⟨rfl, rfl⟩ (Nat.le_of_ble_eq_true rfl) rfl (s_goesOn hN hM hn0 hn1 hT (okM hσ) (vokM hv) (fun v9 hv9 => ?_))
    have e9 : pA (hi h 58) n (pM 0 3 σ) = pL (decide (e < 4)) σ := by rw [decide_eq_false (fun z => absurd c8 (nI_ge (a := e) (b := 4) z (by decide)))]; exact pL_0 hG
    rw [e9] at hv9 ⊢
    have ok1 : okS n (pL (decide (e < 4)) σ) := pL_ok hz (by decide)
    have ok2 := pK_ok (T := hi h 58) ok1
    have ok3 := pN_ok (T := hi h 58) (lo := 0) (hi := 60) ok2
    have ok4 := pS_ok (T := hi h 58) (c := 59) ok3 (by decide)
    have hv10 := hv9
    refine r_aload_n (pc' := 25) d170_24 rfl rfl rfl ?_
    refine r_aload_n (pc' := 26) d170_25 rfl rfl rfl ?_
    refine r_call (pc' := 29) [vR (some 50)] [vR (some 50)] d170_26 rfl o170 st12_124_12 (rcv1 sh50 (pl hN rfl)) rfl (by decide) ⟨rfl, rfl⟩ (Nat.le_of_ble_eq_true rfl) rfl (s_isSort hN ok1 hv9 ?_)
    refine r_iconst (v := 1) (pc' := 30) d170_29 rfl (by decide) ?_
    refine r_call (pc' := 33) [vR (some 50), vI _, vI _] [] d170_30 rfl o170 st12_103_12 (rcv1 sh50 (pl hN rfl)) rfl (by decide) ⟨rfl, rfl⟩ (Nat.le_of_ble_eq_true rfl) rfl (s_mustP (n := n) (num := 1) hN ok1.2 ?_)
    refine r_aload_n (pc' := 34) d170_33 rfl rfl rfl ?_
    refine r_getI (pc' := 37) d170_34 rfl o170 sf12_97_12 sh50 (pl hN rfl) ?_
    refine wp_v RH_g15 ?_
    refine r_if_ne 51 (pc' := 40) d170_37 rfl rfl (fun c37 => ?_) (fun c37 => ?_)
    · refine r_ldc (pc' := 53) d170_51 rfl o170 kc12_53 ?_
      refine r_istore_n (pc' := 54) (ls' := [(1, vI _), (0, vR (some 50))]) d170_53 rfl rfl (by decide) rfl ?_
      refine r_aload_n (pc' := 55) d170_54 rfl rfl rfl ?_
      refine r_call (pc' := 58) [vR (some 50)] [] d170_55 rfl o170 st12_107_12 (rcv1 sh50 (pl hN rfl)) rfl (by decide) ⟨rfl, rfl⟩ (Nat.le_of_ble_eq_true rfl) rfl (s_goesOn hN hM hn0 hn1 hT (okM ok1) (vokM hv9) (fun v9 hv9 => ?_))
      rw [pKM] at hv9 ⊢
      refine r_aload_n (pc' := 59) d170_58 rfl rfl rfl ?_
      refine r_iconst (v := 0) (pc' := 60) d170_59 rfl (by decide) ?_
      refine r_bipush (v := 60) (pc' := 62) d170_60 rfl (by decide) ?_
      refine r_call (pc' := 65) [vR (some 50), vI _, vI _] [] d170_62 rfl o170 st12_113_12 (rcv1 sh50 (pl hN rfl)) rfl (by decide) ⟨rfl, rfl⟩ (Nat.le_of_ble_eq_true rfl) rfl (s_readNumber hN hM hn0 hn1 hT ok2 hv9 (fun v9 r1 hv9 hr1 => ?_))
      refine r_istore_n (pc' := 66) (ls' := [(2, vI _), (1, vI _), (0, vR (some 50))]) d170_65 rfl rfl (by decide) rfl ?_
      refine r_aload_n (pc' := 67) d170_66 rfl rfl rfl ?_
      refine r_bipush (v := 59) (pc' := 69) d170_67 rfl (by decide) ?_
      refine r_call (pc' := 72) [vR (some 50), vI _] [] d170_69 rfl o170 st12_117_12 (rcv1 sh50 (pl hN rfl)) rfl (by decide) ⟨rfl, rfl⟩ (Nat.le_of_ble_eq_true rfl) rfl (s_readSign hN hM hn0 hn1 hT ok3 hv9 (Or.inr rfl) (fun v9 hv9 => ?_))
      refine r_aload_n (pc' := 73) d170_72 rfl rfl rfl ?_
      refine r_getI (pc' := 76) d170_73 rfl o170 sf12_97_12 sh50 (pl hN rfl) ?_
      refine wp_v RH_g15 ?_
      refine r_if_ne 135 (pc' := 79) d170_76 rfl rfl (fun c76 => ?_) (fun c76 => ?_)
      · exact r_ret d170_135 rfl (kk v9 s hv9 (by unfold pEs; rw [if_neg (fun z => c76 (by show nI (pE (hi h 58) n e σ).2 = 0; rw [z]; rfl))]))
      · have hG4 : (pE (hi h 58) n e σ).2 = 0 := (nI_z ok4.2).mp c76
        have he4 := pE_lt hG4
        have hK := pK_G (pN_G (pS_G hG4))
        exfalso
        exact c37 (by show nI (pM _ 1 (pL (decide (e < 4)) σ)).2 = 0; unfold pM; rw [b1 hK, if_neg (fun z => absurd z.2 (by decide))]; show nI (pL (decide (e < 4)) σ).2 = 0; rw [hK.1]; rfl)
    · refine r_aload_n (pc' := 41) d170_40 rfl rfl rfl ?_
      refine r_aload_n (pc' := 42) d170_41 rfl rfl rfl ?_
      refine r_getI (pc' := 45) d170_42 rfl o170 sf12_94_12 sh50 (pl hN rfl) ?_
      refine wp_v RH_g14 ?_
      refine r_call (pc' := 48) [vR (some 50), vI _] [] d170_45 rfl o170 st12_110_12 (rcv1 sh50 (pl hN rfl)) rfl (by decide) ⟨rfl, rfl⟩ (Nat.le_of_ble_eq_true rfl) rfl (s_sortOf ?_)
      refine r_goto 53 d170_48 rfl ?_
      refine r_istore_n (pc' := 54) (ls' := [(1, vI _), (0, vR (some 50))]) d170_53 rfl rfl (by decide) rfl ?_
      refine r_aload_n (pc' := 55) d170_54 rfl rfl rfl ?_
      refine r_call (pc' := 58) [vR (some 50)] [] d170_55 rfl o170 st12_107_12 (rcv1 sh50 (pl hN rfl)) rfl (by decide) ⟨rfl, rfl⟩ (Nat.le_of_ble_eq_true rfl) rfl (s_goesOn hN hM hn0 hn1 hT (okM ok1) (vokM hv9) (fun v9 hv9 => ?_))
      rw [pKM] at hv9 ⊢
      refine r_aload_n (pc' := 59) d170_58 rfl rfl rfl ?_
      refine r_iconst (v := 0) (pc' := 60) d170_59 rfl (by decide) ?_
      refine r_bipush (v := 60) (pc' := 62) d170_60 rfl (by decide) ?_
      refine r_call (pc' := 65) [vR (some 50), vI _, vI _] [] d170_62 rfl o170 st12_113_12 (rcv1 sh50 (pl hN rfl)) rfl (by decide) ⟨rfl, rfl⟩ (Nat.le_of_ble_eq_true rfl) rfl (s_readNumber hN hM hn0 hn1 hT ok2 hv9 (fun v9 r1 hv9 hr1 => ?_))
      refine r_istore_n (pc' := 66) (ls' := [(2, vI _), (1, vI _), (0, vR (some 50))]) d170_65 rfl rfl (by decide) rfl ?_
      refine r_aload_n (pc' := 67) d170_66 rfl rfl rfl ?_
      refine r_bipush (v := 59) (pc' := 69) d170_67 rfl (by decide) ?_
      refine r_call (pc' := 72) [vR (some 50), vI _] [] d170_69 rfl o170 st12_117_12 (rcv1 sh50 (pl hN rfl)) rfl (by decide) ⟨rfl, rfl⟩ (Nat.le_of_ble_eq_true rfl) rfl (s_readSign hN hM hn0 hn1 hT ok3 hv9 (Or.inr rfl) (fun v9 hv9 => ?_))
      refine r_aload_n (pc' := 73) d170_72 rfl rfl rfl ?_
      refine r_getI (pc' := 76) d170_73 rfl o170 sf12_97_12 sh50 (pl hN rfl) ?_
      refine wp_v RH_g15 ?_
      refine r_if_ne 135 (pc' := 79) d170_76 rfl rfl (fun c76 => ?_) (fun c76 => ?_)
      · exact r_ret d170_135 rfl (kk v9 s hv9 (by unfold pEs; rw [if_neg (fun z => c76 (by show nI (pE (hi h 58) n e σ).2 = 0; rw [z]; rfl))]))
      · have hG4 : (pE (hi h 58) n e σ).2 = 0 := (nI_z ok4.2).mp c76
        have he4 := pE_lt hG4
        have hK := pK_G (pN_G (pS_G hG4))
        refine r_aload_n (pc' := 80) d170_79 rfl rfl rfl ?_
        refine r_getS (pc' := 83) d170_80 rfl o170 sf12_35_12 sh50 (pl hN rfl) (rfm17 hM) ?_
        refine r_bipush (v := 11) (pc' := 85) d170_83 rfl (by decide) ?_
        refine r_aload_n (pc' := 86) d170_85 rfl rfl rfl ?_
        refine r_getS (pc' := 89) d170_86 rfl o170 sf12_35_12 sh50 (pl hN rfl) (rfm17 hM) ?_
        refine r_iconst (v := 2) (pc' := 90) d170_89 rfl (by decide) ?_
        refine r_ialdN (pc' := 91) (j := 2) d170_90 rfl sh59 (pl hN rfl) rfl (by omega) (by decide) ?_
        refine wp_v ((congrFun PH_59 2).trans he) ?_
        refine r_iadd (pc' := 92) d170_91 rfl ?_
        refine r_iload_n (pc' := 93) d170_92 rfl rfl rfl ?_
        refine r_iastN (pc' := 94) (j := (11 + e)) d170_93 rfl sh59 (pl hN rfl) (by simp only [lit, nI_add, pk_mul]) (by omega) (by decide) ?_
        rw [PH_r]
        refine r_aload_n (pc' := 95) d170_94 rfl rfl rfl ?_
        refine r_getS (pc' := 98) d170_95 rfl o170 sf12_35_12 sh50 (pl hN rfl) (rfm17 hM) ?_
        refine r_bipush (v := 15) (pc' := 100) d170_98 rfl (by decide) ?_
        refine r_aload_n (pc' := 101) d170_100 rfl rfl rfl ?_
        refine r_getS (pc' := 104) d170_101 rfl o170 sf12_35_12 sh50 (pl hN rfl) (rfm17 hM) ?_
        refine r_iconst (v := 2) (pc' := 105) d170_104 rfl (by decide) ?_
        refine r_ialdN (pc' := 106) (j := 2) d170_105 rfl sh59 (pl hN rfl) rfl (by omega) (by decide) ?_
        refine wp_v ((congrFun PH_59 2).trans ((upd_ne _ _ _ (by omega)).trans (he))) ?_
        refine r_iadd (pc' := 107) d170_106 rfl ?_
        refine r_iload_n (pc' := 108) d170_107 rfl rfl rfl ?_
        refine r_iastN (pc' := 109) (j := (15 + e)) d170_108 rfl sh59 (pl hN rfl) (by simp only [lit, nI_add, pk_mul]) (by omega) (by decide) ?_
        rw [PH_r]
        refine r_aload_n (pc' := 110) d170_109 rfl rfl rfl ?_
        refine r_getS (pc' := 113) d170_110 rfl o170 sf12_35_12 sh50 (pl hN rfl) (rfm17 hM) ?_
        refine r_bipush (v := 81) (pc' := 115) d170_113 rfl (by decide) ?_
        refine r_aload_n (pc' := 116) d170_115 rfl rfl rfl ?_
        refine r_getS (pc' := 119) d170_116 rfl o170 sf12_35_12 sh50 (pl hN rfl) (rfm17 hM) ?_
        refine r_iconst (v := 2) (pc' := 120) d170_119 rfl (by decide) ?_
        refine r_ialdN (pc' := 121) (j := 2) d170_120 rfl sh59 (pl hN rfl) rfl (by omega) (by decide) ?_
        refine wp_v ((congrFun PH_59 2).trans ((upd_ne _ _ _ (by omega)).trans ((upd_ne _ _ _ (by omega)).trans (he)))) ?_
        refine r_iadd (pc' := 122) d170_121 rfl ?_
        refine r_ldc (pc' := 124) d170_122 rfl o170 kc12_53 ?_
        refine r_iastN (pc' := 125) (j := (81 + e)) d170_124 rfl sh59 (pl hN rfl) (by simp only [lit, nI_add, pk_mul]) (by omega) (by decide) ?_
        rw [PH_r]
        refine r_aload_n (pc' := 126) d170_125 rfl rfl rfl ?_
        refine r_getS (pc' := 129) d170_126 rfl o170 sf12_35_12 sh50 (pl hN rfl) (rfm17 hM) ?_
        refine r_iconst (v := 2) (pc' := 130) d170_129 rfl (by decide) ?_
        refine r_dup2 (pc' := 131) d170_130 rfl ?_
        refine r_ialdN (pc' := 132) (j := 2) d170_131 rfl sh59 (pl hN rfl) rfl (by omega) (by decide) ?_
        refine wp_v ((congrFun PH_59 2).trans ((upd_ne _ _ _ (by omega)).trans ((upd_ne _ _ _ (by omega)).trans ((upd_ne _ _ _ (by omega)).trans (he))))) ?_
        refine r_iconst (v := 1) (pc' := 133) d170_132 rfl (by decide) ?_
        refine r_iadd (pc' := 134) d170_133 rfl ?_
        refine r_iastN (pc' := 135) (j := 2) d170_134 rfl sh59 (pl hN rfl) rfl (by omega) (by decide) ?_
        exact r_ret d170_135 rfl (qh PH_r.symm (kk v9 _ hv9 (by unfold pEs; rw [if_pos hG4, hr1 (pS_G hG4), (tok_to (let_f (srt_l hK.2)) (let_0 (srt_l hK.2)) hv10 hK.1 rfl).2, ← nI_1])))
  · refine r_iconst (v := 1) (pc' := 12) d170_11 rfl (by decide) ?_
    refine r_goto 16 d170_12 rfl ?_
    refine r_iconst (v := 3) (pc' := 17) d170_16 rfl (by decide) ?_
    refine r_call (pc' := 20) [vR (some 50), vI _, vI _] [] d170_17 rfl o170 st12_103_12 (rcv1 sh50 (pl hN rfl)) rfl (by decide) ⟨rfl, rfl⟩ (Nat.le_of_ble_eq_true rfl) rfl (s_mustP (n := n) (σ := σ) (num := 3) hN hσ.2 ?_)
    refine r_aload_n (pc' := 21) d170_20 rfl rfl rfl ?_
    refine r_call (pc' := 24) [vR (some 50)] [] d170_21 rfl o170 st12_107_12 (rcv1 sh50 (pl hN rfl)) rfl (by decide) ⟨rfl, rfl⟩ (Nat.le_of_ble_eq_true rfl) rfl (s_goesOn hN hM hn0 hn1 hT (okM hσ) (vokM hv) (fun v9 hv9 => ?_))
    have e9 : pA (hi h 58) n (pM 1 3 σ) = pL (decide (e < 4)) σ := by rw [decide_eq_true (Nat.lt_of_not_le (fun z => c8 (nI_le (a := 4) (b := e) z (by omega))))]; exact pL_1 (c := 101) (by decide) hG hz
    rw [e9] at hv9 ⊢
    have ok1 : okS n (pL (decide (e < 4)) σ) := pL_ok hz (by decide)
    have ok2 := pK_ok (T := hi h 58) ok1
    have ok3 := pN_ok (T := hi h 58) (lo := 0) (hi := 60) ok2
    have ok4 := pS_ok (T := hi h 58) (c := 59) ok3 (by decide)
    have hv10 := hv9
    refine r_aload_n (pc' := 25) d170_24 rfl rfl rfl ?_
    refine r_aload_n (pc' := 26) d170_25 rfl rfl rfl ?_
    refine r_call (pc' := 29) [vR (some 50)] [vR (some 50)] d170_26 rfl o170 st12_124_12 (rcv1 sh50 (pl hN rfl)) rfl (by decide) ⟨rfl, rfl⟩ (Nat.le_of_ble_eq_true rfl) rfl (s_isSort hN ok1 hv9 ?_)
    refine r_iconst (v := 1) (pc' := 30) d170_29 rfl (by decide) ?_
    refine r_call (pc' := 33) [vR (some 50), vI _, vI _] [] d170_30 rfl o170 st12_103_12 (rcv1 sh50 (pl hN rfl)) rfl (by decide) ⟨rfl, rfl⟩ (Nat.le_of_ble_eq_true rfl) rfl (s_mustP (n := n) (num := 1) hN ok1.2 ?_)
    refine r_aload_n (pc' := 34) d170_33 rfl rfl rfl ?_
    refine r_getI (pc' := 37) d170_34 rfl o170 sf12_97_12 sh50 (pl hN rfl) ?_
    refine wp_v RH_g15 ?_
    refine r_if_ne 51 (pc' := 40) d170_37 rfl rfl (fun c37 => ?_) (fun c37 => ?_)
    · refine r_ldc (pc' := 53) d170_51 rfl o170 kc12_53 ?_
      refine r_istore_n (pc' := 54) (ls' := [(1, vI _), (0, vR (some 50))]) d170_53 rfl rfl (by decide) rfl ?_
      refine r_aload_n (pc' := 55) d170_54 rfl rfl rfl ?_
      refine r_call (pc' := 58) [vR (some 50)] [] d170_55 rfl o170 st12_107_12 (rcv1 sh50 (pl hN rfl)) rfl (by decide) ⟨rfl, rfl⟩ (Nat.le_of_ble_eq_true rfl) rfl (s_goesOn hN hM hn0 hn1 hT (okM ok1) (vokM hv9) (fun v9 hv9 => ?_))
      rw [pKM] at hv9 ⊢
      refine r_aload_n (pc' := 59) d170_58 rfl rfl rfl ?_
      refine r_iconst (v := 0) (pc' := 60) d170_59 rfl (by decide) ?_
      refine r_bipush (v := 60) (pc' := 62) d170_60 rfl (by decide) ?_
      refine r_call (pc' := 65) [vR (some 50), vI _, vI _] [] d170_62 rfl o170 st12_113_12 (rcv1 sh50 (pl hN rfl)) rfl (by decide) ⟨rfl, rfl⟩ (Nat.le_of_ble_eq_true rfl) rfl (s_readNumber hN hM hn0 hn1 hT ok2 hv9 (fun v9 r1 hv9 hr1 => ?_))
      refine r_istore_n (pc' := 66) (ls' := [(2, vI _), (1, vI _), (0, vR (some 50))]) d170_65 rfl rfl (by decide) rfl ?_
      refine r_aload_n (pc' := 67) d170_66 rfl rfl rfl ?_
      refine r_bipush (v := 59) (pc' := 69) d170_67 rfl (by decide) ?_
      refine r_call (pc' := 72) [vR (some 50), vI _] [] d170_69 rfl o170 st12_117_12 (rcv1 sh50 (pl hN rfl)) rfl (by decide) ⟨rfl, rfl⟩ (Nat.le_of_ble_eq_true rfl) rfl (s_readSign hN hM hn0 hn1 hT ok3 hv9 (Or.inr rfl) (fun v9 hv9 => ?_))
      refine r_aload_n (pc' := 73) d170_72 rfl rfl rfl ?_
      refine r_getI (pc' := 76) d170_73 rfl o170 sf12_97_12 sh50 (pl hN rfl) ?_
      refine wp_v RH_g15 ?_
      refine r_if_ne 135 (pc' := 79) d170_76 rfl rfl (fun c76 => ?_) (fun c76 => ?_)
      · exact r_ret d170_135 rfl (kk v9 s hv9 (by unfold pEs; rw [if_neg (fun z => c76 (by show nI (pE (hi h 58) n e σ).2 = 0; rw [z]; rfl))]))
      · have hG4 : (pE (hi h 58) n e σ).2 = 0 := (nI_z ok4.2).mp c76
        have he4 := pE_lt hG4
        have hK := pK_G (pN_G (pS_G hG4))
        exfalso
        exact c37 (by show nI (pM _ 1 (pL (decide (e < 4)) σ)).2 = 0; unfold pM; rw [b1 hK, if_neg (fun z => absurd z.2 (by decide))]; show nI (pL (decide (e < 4)) σ).2 = 0; rw [hK.1]; rfl)
    · refine r_aload_n (pc' := 41) d170_40 rfl rfl rfl ?_
      refine r_aload_n (pc' := 42) d170_41 rfl rfl rfl ?_
      refine r_getI (pc' := 45) d170_42 rfl o170 sf12_94_12 sh50 (pl hN rfl) ?_
      refine wp_v RH_g14 ?_
      refine r_call (pc' := 48) [vR (some 50), vI _] [] d170_45 rfl o170 st12_110_12 (rcv1 sh50 (pl hN rfl)) rfl (by decide) ⟨rfl, rfl⟩ (Nat.le_of_ble_eq_true rfl) rfl (s_sortOf ?_)
      refine r_goto 53 d170_48 rfl ?_
      refine r_istore_n (pc' := 54) (ls' := [(1, vI _), (0, vR (some 50))]) d170_53 rfl rfl (by decide) rfl ?_
      refine r_aload_n (pc' := 55) d170_54 rfl rfl rfl ?_
      refine r_call (pc' := 58) [vR (some 50)] [] d170_55 rfl o170 st12_107_12 (rcv1 sh50 (pl hN rfl)) rfl (by decide) ⟨rfl, rfl⟩ (Nat.le_of_ble_eq_true rfl) rfl (s_goesOn hN hM hn0 hn1 hT (okM ok1) (vokM hv9) (fun v9 hv9 => ?_))
      rw [pKM] at hv9 ⊢
      refine r_aload_n (pc' := 59) d170_58 rfl rfl rfl ?_
      refine r_iconst (v := 0) (pc' := 60) d170_59 rfl (by decide) ?_
      refine r_bipush (v := 60) (pc' := 62) d170_60 rfl (by decide) ?_
      refine r_call (pc' := 65) [vR (some 50), vI _, vI _] [] d170_62 rfl o170 st12_113_12 (rcv1 sh50 (pl hN rfl)) rfl (by decide) ⟨rfl, rfl⟩ (Nat.le_of_ble_eq_true rfl) rfl (s_readNumber hN hM hn0 hn1 hT ok2 hv9 (fun v9 r1 hv9 hr1 => ?_))
      refine r_istore_n (pc' := 66) (ls' := [(2, vI _), (1, vI _), (0, vR (some 50))]) d170_65 rfl rfl (by decide) rfl ?_
      refine r_aload_n (pc' := 67) d170_66 rfl rfl rfl ?_
      refine r_bipush (v := 59) (pc' := 69) d170_67 rfl (by decide) ?_
      refine r_call (pc' := 72) [vR (some 50), vI _] [] d170_69 rfl o170 st12_117_12 (rcv1 sh50 (pl hN rfl)) rfl (by decide) ⟨rfl, rfl⟩ (Nat.le_of_ble_eq_true rfl) rfl (s_readSign hN hM hn0 hn1 hT ok3 hv9 (Or.inr rfl) (fun v9 hv9 => ?_))
      refine r_aload_n (pc' := 73) d170_72 rfl rfl rfl ?_
      refine r_getI (pc' := 76) d170_73 rfl o170 sf12_97_12 sh50 (pl hN rfl) ?_
      refine wp_v RH_g15 ?_
      refine r_if_ne 135 (pc' := 79) d170_76 rfl rfl (fun c76 => ?_) (fun c76 => ?_)
      · exact r_ret d170_135 rfl (kk v9 s hv9 (by unfold pEs; rw [if_neg (fun z => c76 (by show nI (pE (hi h 58) n e σ).2 = 0; rw [z]; rfl))]))
      · have hG4 : (pE (hi h 58) n e σ).2 = 0 := (nI_z ok4.2).mp c76
        have he4 := pE_lt hG4
        have hK := pK_G (pN_G (pS_G hG4))
        refine r_aload_n (pc' := 80) d170_79 rfl rfl rfl ?_
        refine r_getS (pc' := 83) d170_80 rfl o170 sf12_35_12 sh50 (pl hN rfl) (rfm17 hM) ?_
        refine r_bipush (v := 11) (pc' := 85) d170_83 rfl (by decide) ?_
        refine r_aload_n (pc' := 86) d170_85 rfl rfl rfl ?_
        refine r_getS (pc' := 89) d170_86 rfl o170 sf12_35_12 sh50 (pl hN rfl) (rfm17 hM) ?_
        refine r_iconst (v := 2) (pc' := 90) d170_89 rfl (by decide) ?_
        refine r_ialdN (pc' := 91) (j := 2) d170_90 rfl sh59 (pl hN rfl) rfl (by omega) (by decide) ?_
        refine wp_v ((congrFun PH_59 2).trans he) ?_
        refine r_iadd (pc' := 92) d170_91 rfl ?_
        refine r_iload_n (pc' := 93) d170_92 rfl rfl rfl ?_
        refine r_iastN (pc' := 94) (j := (11 + e)) d170_93 rfl sh59 (pl hN rfl) (by simp only [lit, nI_add, pk_mul]) (by omega) (by decide) ?_
        rw [PH_r]
        refine r_aload_n (pc' := 95) d170_94 rfl rfl rfl ?_
        refine r_getS (pc' := 98) d170_95 rfl o170 sf12_35_12 sh50 (pl hN rfl) (rfm17 hM) ?_
        refine r_bipush (v := 15) (pc' := 100) d170_98 rfl (by decide) ?_
        refine r_aload_n (pc' := 101) d170_100 rfl rfl rfl ?_
        refine r_getS (pc' := 104) d170_101 rfl o170 sf12_35_12 sh50 (pl hN rfl) (rfm17 hM) ?_
        refine r_iconst (v := 2) (pc' := 105) d170_104 rfl (by decide) ?_
        refine r_ialdN (pc' := 106) (j := 2) d170_105 rfl sh59 (pl hN rfl) rfl (by omega) (by decide) ?_
        refine wp_v ((congrFun PH_59 2).trans ((upd_ne _ _ _ (by omega)).trans (he))) ?_
        refine r_iadd (pc' := 107) d170_106 rfl ?_
        refine r_iload_n (pc' := 108) d170_107 rfl rfl rfl ?_
        refine r_iastN (pc' := 109) (j := (15 + e)) d170_108 rfl sh59 (pl hN rfl) (by simp only [lit, nI_add, pk_mul]) (by omega) (by decide) ?_
        rw [PH_r]
        refine r_aload_n (pc' := 110) d170_109 rfl rfl rfl ?_
        refine r_getS (pc' := 113) d170_110 rfl o170 sf12_35_12 sh50 (pl hN rfl) (rfm17 hM) ?_
        refine r_bipush (v := 81) (pc' := 115) d170_113 rfl (by decide) ?_
        refine r_aload_n (pc' := 116) d170_115 rfl rfl rfl ?_
        refine r_getS (pc' := 119) d170_116 rfl o170 sf12_35_12 sh50 (pl hN rfl) (rfm17 hM) ?_
        refine r_iconst (v := 2) (pc' := 120) d170_119 rfl (by decide) ?_
        refine r_ialdN (pc' := 121) (j := 2) d170_120 rfl sh59 (pl hN rfl) rfl (by omega) (by decide) ?_
        refine wp_v ((congrFun PH_59 2).trans ((upd_ne _ _ _ (by omega)).trans ((upd_ne _ _ _ (by omega)).trans (he)))) ?_
        refine r_iadd (pc' := 122) d170_121 rfl ?_
        refine r_ldc (pc' := 124) d170_122 rfl o170 kc12_53 ?_
        refine r_iastN (pc' := 125) (j := (81 + e)) d170_124 rfl sh59 (pl hN rfl) (by simp only [lit, nI_add, pk_mul]) (by omega) (by decide) ?_
        rw [PH_r]
        refine r_aload_n (pc' := 126) d170_125 rfl rfl rfl ?_
        refine r_getS (pc' := 129) d170_126 rfl o170 sf12_35_12 sh50 (pl hN rfl) (rfm17 hM) ?_
        refine r_iconst (v := 2) (pc' := 130) d170_129 rfl (by decide) ?_
        refine r_dup2 (pc' := 131) d170_130 rfl ?_
        refine r_ialdN (pc' := 132) (j := 2) d170_131 rfl sh59 (pl hN rfl) rfl (by omega) (by decide) ?_
        refine wp_v ((congrFun PH_59 2).trans ((upd_ne _ _ _ (by omega)).trans ((upd_ne _ _ _ (by omega)).trans ((upd_ne _ _ _ (by omega)).trans (he))))) ?_
        refine r_iconst (v := 1) (pc' := 133) d170_132 rfl (by decide) ?_
        refine r_iadd (pc' := 134) d170_133 rfl ?_
        refine r_iastN (pc' := 135) (j := 2) d170_134 rfl sh59 (pl hN rfl) rfl (by omega) (by decide) ?_
        exact r_ret d170_135 rfl (qh PH_r.symm (kk v9 _ hv9 (by unfold pEs; rw [if_pos hG4, hr1 (pS_G hG4), (tok_to (let_f (srt_l hK.2)) (let_0 (srt_l hK.2)) hv10 hK.1 rfl).2, ← nI_1])))
