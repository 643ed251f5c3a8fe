/-! the class reads a tape: signs, numbers, sorts (printed by wip/whole/m71.py) -/
def qV (f : Nat → Int32) (a fl fp lf : Int32) : Nat → Int32 := upd (upd (upd (upd f 2 a) 3 fl) 4 fp) 5 lf
theorem qV_ap (f : Nat → Int32) (a fl fp lf : Int32) (i : Nat) : qV f a fl fp lf i = if i = 5 then lf else if i = 4 then fp else if i = 3 then fl else if i = 2 then a else f i := rfl
theorem qV_2 (f : Nat → Int32) (a fl fp lf x : Int32) : upd (qV f a fl fp lf) 2 x = qV f x fl fp lf := by
  funext i; rw [upd_ap, qV_ap, qV_ap]; by_cases h : i = 2 <;> simp [h]
theorem qV_3 (f : Nat → Int32) (a fl fp lf x : Int32) : upd (qV f a fl fp lf) 3 x = qV f a x fp lf := by
  funext i; rw [upd_ap, qV_ap, qV_ap]; by_cases h : i = 3 <;> simp [h]
theorem qV_4 (f : Nat → Int32) (a fl fp lf x : Int32) : upd (qV f a fl fp lf) 4 x = qV f a fl x lf := by
  funext i; rw [upd_ap, qV_ap, qV_ap]; by_cases h : i = 4 <;> simp [h]
theorem qV_5 (f : Nat → Int32) (a fl fp lf x : Int32) : upd (qV f a fl fp lf) 5 x = qV f a fl fp x := by
  funext i; rw [upd_ap, qV_ap, qV_ap]; by_cases h : i = 5 <;> simp [h]
def QH (h : Hp) (a fl fp lf : Int32) : Hp := setw h 5 (qV (hi h 5) a fl fp lf)
section QHs
variable {h : Hp} {a fl fp lf x : Int32}
theorem QH_5 : hi (QH h a fl fp lf) 5 = qV (hi h 5) a fl fp lf := hi_setw_row _ _ _
theorem QH_o {y : Nat} (h1 : y ≠ 5) : hi (QH h a fl fp lf) y = hi h y := hi_setw_ne _ _ _ _ h1
theorem QH_g1 : hi (QH h a fl fp lf) 5 1 = hi h 5 1 := by rw [QH_5]; rfl
theorem QH_g2 : hi (QH h a fl fp lf) 5 2 = a := by rw [QH_5]; rfl
theorem QH_g3 : hi (QH h a fl fp lf) 5 3 = fl := by rw [QH_5]; rfl
theorem QH_g4 : hi (QH h a fl fp lf) 5 4 = fp := by rw [QH_5]; rfl
theorem QH_g5 : hi (QH h a fl fp lf) 5 5 = lf := by rw [QH_5]; rfl
theorem QH_s2 : seti (QH h a fl fp lf) 5 2 x = QH h x fl fp lf := by unfold QH; rw [seti_setw, qV_2]
theorem QH_s3 : seti (QH h a fl fp lf) 5 3 x = QH h a x fp lf := by unfold QH; rw [seti_setw, qV_3]
theorem QH_s4 : seti (QH h a fl fp lf) 5 4 x = QH h a fl x lf := by unfold QH; rw [seti_setw, qV_4]
theorem QH_s5 : seti (QH h a fl fp lf) 5 5 x = QH h a fl fp x := by unfold QH; rw [seti_setw, qV_5]
theorem QH_seti {y j : Nat} (hy : y ≠ 5) : seti (QH h a fl fp lf) y j x = QH (seti h y j x) a fl fp lf := by
  unfold QH
  rw [hi_seti_ne _ _ _ _ _ (Ne.symm hy), seti_w, seti_w, hi_setw_ne _ _ _ _ hy, setw_comm _ _ _ _ _ (Ne.symm hy)]
theorem QH_setw {y : Nat} {g : Nat → Int32} (hy : y ≠ 5) : setw (QH h a fl fp lf) y g = QH (setw h y g) a fl fp lf := by
  unfold QH
  rw [hi_setw_ne _ _ _ _ (Ne.symm hy), setw_comm _ _ _ _ _ (Ne.symm hy)]
theorem QH_setr {y j : Nat} {p : Option Nat} : setr (QH h a fl fp lf) y j p = QH (setr h y j p) a fl fp lf := rfl
end QHs
def CH (h : Hp) (a : Nat) (σ : Nat × Nat) : Hp := QH h (nI a) (if σ.2 = 0 then 0 else 1) (if σ.2 = 0 then hi h 5 4 else nI σ.1) (if σ.2 = 0 then hi h 5 5 else nI σ.2)
def aok (n a : Nat) (σ : Nat × Nat) : Prop := a ≤ n ∧ (σ.2 = 0 → a = σ.1)
theorem CH_0 {h : Hp} {a : Nat} {σ : Nat × Nat} (hG : σ.2 = 0) : CH h a σ = QH h (nI a) 0 (hi h 5 4) (hi h 5 5) := by unfold CH; rw [if_pos hG, if_pos hG, if_pos hG]
theorem CH_1 {h : Hp} {a : Nat} {σ : Nat × Nat} (hG : ¬ σ.2 = 0) : CH h a σ = QH h (nI a) 1 (nI σ.1) (nI σ.2) := by unfold CH; rw [if_neg hG, if_neg hG, if_neg hG]
theorem CH_seti {h : Hp} {a y j : Nat} {σ : Nat × Nat} {x : Int32} (hy : y ≠ 5) : seti (CH h a σ) y j x = CH (seti h y j x) a σ := by
  unfold CH; rw [QH_seti hy, hi_seti_ne _ _ _ _ _ (Ne.symm hy)]
theorem CH_setw {h : Hp} {a y : Nat} {σ : Nat × Nat} {g : Nat → Int32} (hy : y ≠ 5) : setw (CH h a σ) y g = CH (setw h y g) a σ := by
  unfold CH; rw [QH_setw hy, hi_setw_ne _ _ _ _ (Ne.symm hy)]
theorem CH_setr {h : Hp} {a y j : Nat} {σ : Nat × Nat} {p : Option Nat} : setr (CH h a σ) y j p = CH (setr h y j p) a σ := rfl
theorem CH_o {h : Hp} {a y : Nat} {σ : Nat × Nat} (hy : y ≠ 5) : hi (CH h a σ) y = hi h y := QH_o hy
theorem CH_s2 {h : Hp} {a x : Nat} {σ : Nat × Nat} : seti (CH h a σ) 5 2 (nI x) = CH h x σ := QH_s2
def pX (p num : Nat) (σ : Nat × Nat) : Nat × Nat := if σ.2 = 0 then (p, num) else σ
theorem c_nextQ {d : Nat} {h : Hp} {Q : Option AV → Hp → Prop} {n a : Nat} {fl fp lf : Int32} (hN : hn h = 65) (hC : RC h) (hn0 : hi h 5 1 = nI n) (hn1 : n ≤ 160) (ha : a ≤ 1000) (kk : Q (some (vI (zB (hi h 6) n a))) (QH h (nI a) fl fp lf)) : Spec d 20 [vR (some 5)] (QH h (nI a) fl fp lf) Q := by
  refine spec_intro (by decide +kernel) rfl (Nat.le_of_ble_eq_true rfl) ?_
  refine r_aload_n (pc' := 1) d20_0 rfl rfl rfl ?_
  refine r_getI (pc' := 4) d20_1 rfl o20 sf4_19_4 sh5 (pl hN rfl) ?_
  refine wp_v QH_g2 ?_
  refine r_aload_n (pc' := 5) d20_4 rfl rfl rfl ?_
  refine r_getI (pc' := 8) d20_5 rfl o20 sf4_15_4 sh5 (pl hN rfl) ?_
  refine wp_v (QH_g1.trans hn0) ?_
  refine r_icmp_ge 23 (pc' := 11) d20_8 rfl rfl (fun c8 => ?_) (fun c8 => ?_)
  · refine r_iconst (v := (-1)) (pc' := 24) d20_23 rfl (by decide) ?_
    exact r_iretI d20_24 rfl (qv (if_neg (fun z => absurd c8 (nI_ge (a := a) (b := n) z (by omega)))) kk)
  · have han : a < n := Nat.lt_of_not_le (fun z => c8 (nI_le z (by omega)))
    refine r_aload_n (pc' := 12) d20_11 rfl rfl rfl ?_
    refine r_getS (pc' := 15) d20_12 rfl o20 sf4_11_4 sh5 (pl hN rfl) (rfc5_0 hC) ?_
    refine r_aload_n (pc' := 16) d20_15 rfl rfl rfl ?_
    refine r_getI (pc' := 19) d20_16 rfl o20 sf4_19_4 sh5 (pl hN rfl) ?_
    refine wp_v QH_g2 ?_
    refine r_ialdN (pc' := 20) (j := a) d20_19 rfl sh6 (pl hN rfl) rfl (by omega) (by decide) ?_
    refine r_goto 24 d20_20 rfl ?_
    exact r_iretI d20_24 rfl (qv (by rw [QH_o (by decide)]; exact if_pos han) kk)
theorem c_nextC {d : Nat} {h : Hp} {Q : Option AV → Hp → Prop} {n a : Nat} {σ : Nat × Nat} (hN : hn h = 65) (hC : RC h) (hn0 : hi h 5 1 = nI n) (hn1 : n ≤ 160) (ha : a ≤ 1000) (kk : Q (some (vI (zB (hi h 6) n a))) (CH h a σ)) : Spec d 20 [vR (some 5)] (CH h a σ) Q := c_nextQ hN hC hn0 hn1 ha kk
theorem c_failQ {d : Nat} {h : Hp} {Q : Option AV → Hp → Prop} {A num pl9 fl fp lf : Int32} (hN : hn h = 65) (k0 : fl = 0 → Q none (QH h A 1 pl9 num)) (k1 : ¬ fl = 0 → Q none (QH h A fl fp lf)) : Spec d 24 [vR (some 5), vI num, vI pl9] (QH h A fl fp lf) Q := by
  refine spec_intro (by decide +kernel) rfl (Nat.le_of_ble_eq_true rfl) ?_
  refine r_aload_n (pc' := 1) d24_0 rfl rfl rfl ?_
  refine r_getI (pc' := 4) d24_1 rfl o24 sf4_22_4 sh5 (pl hN rfl) ?_
  refine wp_v QH_g3 ?_
  refine r_if_ne 22 (pc' := 7) d24_4 rfl rfl (fun c4 => ?_) (fun c4 => ?_)
  · exact r_ret d24_22 rfl (k1 c4)
  · refine r_aload_n (pc' := 8) d24_7 rfl rfl rfl ?_
    refine r_iconst (v := 1) (pc' := 9) d24_8 rfl (by decide) ?_
    refine r_putI (pc' := 12) d24_9 rfl o24 sp4_22_4 sh5 (fun w => absurd w (by decide)) (Or.inr ⟨rfl, Or.inr rfl⟩) (pl hN rfl) ?_
    rw [QH_s3]
    refine r_aload_n (pc' := 13) d24_12 rfl rfl rfl ?_
    refine r_iload_n (pc' := 14) d24_13 rfl rfl rfl ?_
    refine r_putI (pc' := 17) d24_14 rfl o24 sp4_101_4 sh5 (fun w => absurd w (by decide)) (Or.inl rfl) (pl hN rfl) ?_
    rw [QH_s5]
    refine r_aload_n (pc' := 18) d24_17 rfl rfl rfl ?_
    refine r_iload_n (pc' := 19) d24_18 rfl rfl rfl ?_
    refine r_putI (pc' := 22) d24_19 rfl o24 sp4_104_4 sh5 (fun w => absurd w (by decide)) (Or.inl rfl) (pl hN rfl) ?_
    rw [QH_s4]
    exact r_ret d24_22 rfl (k0 c4)
theorem c_failC {d : Nat} {h : Hp} {Q : Option AV → Hp → Prop} {a p num : Nat} {σ : Nat × Nat} (hN : hn h = 65) (hnum : ¬ num = 0) (kk : Q none (CH h a (pX p num σ))) : Spec d 24 [vR (some 5), vI (nI num), vI (nI p)] (CH h a σ) Q := by
  unfold pX at kk
  by_cases hG : σ.2 = 0
  · rw [if_pos hG, CH_1 (show ¬ ((p, num) : Nat × Nat).2 = 0 from hnum)] at kk
    rw [CH_0 hG]
    exact c_failQ hN (fun _ => kk) (fun z => absurd rfl z)
  · rw [if_neg hG, CH_1 hG] at kk
    rw [CH_1 hG]
    exact c_failQ hN (fun z => absurd z (by decide)) (fun _ => kk)
theorem c_isFigure {d : Nat} {h : Hp} {Q : Option AV → Hp → Prop} {c : Int32} (k : Q (some (vI (bI (zF c)))) h) : Spec d 25 [vI c] h Q := by
  refine spec_intro (by decide +kernel) rfl (Nat.le_of_ble_eq_true rfl) ?_
  refine r_iload_n (pc' := 1) d25_0 rfl rfl rfl ?_
  refine r_bipush (v := 48) (pc' := 3) d25_1 rfl (by decide) ?_
  refine r_icmp_lt 16 (pc' := 6) d25_3 rfl rfl (fun c3 => ?_) (fun c3 => ?_)
  · refine r_iconst (v := 0) (pc' := 17) d25_16 rfl (by decide) ?_
    exact r_iretZ0 d25_17 rfl (qv (b0 (fun z => absurd z.1 (Int32.not_le.mpr c3))) k)
  · refine r_iload_n (pc' := 7) d25_6 rfl rfl rfl ?_
    refine r_bipush (v := 57) (pc' := 9) d25_7 rfl (by decide) ?_
    refine r_icmp_gt 16 (pc' := 12) d25_9 rfl rfl (fun c9 => ?_) (fun c9 => ?_)
    · refine r_iconst (v := 0) (pc' := 17) d25_16 rfl (by decide) ?_
      exact r_iretZ0 d25_17 rfl (qv (b0 (fun z => absurd z.2 (Int32.not_le.mpr c9))) k)
    · refine r_iconst (v := 1) (pc' := 13) d25_12 rfl (by decide) ?_
      refine r_goto 17 d25_13 rfl ?_
      exact r_iretZ1 d25_17 rfl (qv (b1 ⟨Int32.not_lt.mp c3, Int32.not_lt.mp c9⟩) k)
theorem aok_X {n a p num : Nat} {σ : Nat × Nat} (ha : a ≤ n) (hnum : ¬ num = 0) : (pX p num σ).2 = 0 → a = (pX p num σ).1 := by
  unfold pX
  by_cases hG : σ.2 = 0
  · rw [if_pos hG]; exact fun z => absurd z hnum
  · rw [if_neg hG]; exact fun z => absurd z hG
theorem pS_c1 {T : Nat → Int32} {n a : Nat} {c : Int32} {σ : Nat × Nat} (h : aok n a σ) (hz : zB T n a = c) (hc : 0 ≤ c) : aok n (a + 1) (pS T n c σ) ∧ ∀ h, CH h (a + 1) (pS T n c σ) = CH h (a + 1) (if σ.2 = 0 then (a + 1, 0) else σ) := by
  have hp := zB_lt hz hc
  unfold pS
  by_cases hG : σ.2 = 0
  · have e := h.2 hG
    subst e
    rw [if_pos hG, if_pos hz, if_pos hG]
    exact ⟨⟨hp, fun _ => rfl⟩, fun _ => rfl⟩
  · rw [if_neg hG, if_neg hG]
    exact ⟨⟨hp, fun z => absurd z hG⟩, fun _ => rfl⟩
theorem pS_c0 {T : Nat → Int32} {n a : Nat} {c : Int32} {σ : Nat × Nat} (h : aok n a σ) (hz : ¬ zB T n a = c) : pX a 1 σ = pS T n c σ := by
  unfold pS pX
  by_cases hG : σ.2 = 0
  · have e := h.2 hG
    subst e
    rw [if_pos hG, if_pos hG, if_neg hz]
  · rw [if_neg hG, if_neg hG]
theorem CH_adv {h : Hp} {a : Nat} {σ τ : Nat × Nat} (h1 : σ.2 = 0 ↔ τ.2 = 0) (h2 : ¬ σ.2 = 0 → τ = σ) : CH h a σ = CH h a τ := by
  by_cases hG : σ.2 = 0
  · rw [CH_0 hG, CH_0 (h1.mp hG)]
  · rw [h2 hG]
theorem pS_a {T : Nat → Int32} {n a : Nat} {c : Int32} {σ : Nat × Nat} {h : Hp} (ho : aok n a σ) (hz : zB T n a = c) (x : Nat) : CH h x σ = CH h x (pS T n c σ) := by
  refine CH_adv ?_ ?_
  · unfold pS
    by_cases hG : σ.2 = 0
    · have e := ho.2 hG
      subst e
      rw [if_pos hG, if_pos hz]; exact ⟨fun _ => rfl, fun _ => hG⟩
    · rw [if_neg hG]
  · intro hG; unfold pS; rw [if_neg hG]
theorem c_readSign {d : Nat} {h : Hp} {Q : Option AV → Hp → Prop} {n a : Nat} {σ : Nat × Nat} {c : Int32} (hN : hn h = 65) (hC : RC h) (hn0 : hi h 5 1 = nI n) (hn1 : n ≤ 160) (ha : aok n a σ) (hc0 : 0 ≤ c) (kk : ∀ a9, aok n a9 (pS (hi h 6) n c σ) → Q none (CH h a9 (pS (hi h 6) n c σ))) : Spec (d + 1) 21 [vR (some 5), vI c] (CH h a σ) Q := by
  refine spec_intro (by decide +kernel) rfl (Nat.le_of_ble_eq_true rfl) ?_
  refine r_aload_n (pc' := 1) d21_0 rfl rfl rfl ?_
  refine r_call (pc' := 4) [vR (some 5)] [] d21_1 rfl o21 st4_35_4 (rcv1 sh5 (pl hN rfl)) rfl (by decide) ⟨rfl, rfl⟩ (Nat.le_of_ble_eq_true rfl) rfl (c_nextC hN hC hn0 hn1 (by have := ha.1; omega) ?_)
  refine r_iload_n (pc' := 5) d21_4 rfl rfl rfl ?_
  refine r_icmp_ne 21 (pc' := 8) d21_5 rfl rfl (fun c5 => ?_) (fun c5 => ?_)
  · refine r_aload_n (pc' := 22) d21_21 rfl rfl rfl ?_
    refine r_iconst (v := 1) (pc' := 23) d21_22 rfl (by decide) ?_
    refine r_aload_n (pc' := 24) d21_23 rfl rfl rfl ?_
    refine r_getI (pc' := 27) d21_24 rfl o21 sf4_19_4 sh5 (pl hN rfl) ?_
    refine wp_v QH_g2 ?_
    refine r_call (pc' := 30) [vR (some 5), vI _, vI _] [] d21_27 rfl o21 st4_53_4 (rcv1 sh5 (pl hN rfl)) rfl (by decide) ⟨rfl, rfl⟩ (Nat.le_of_ble_eq_true rfl) rfl (c_failC (num := 1) (p := a) hN (by decide) ?_)
    exact r_ret d21_30 rfl (by rw [pS_c0 ha c5]; exact kk a (by rw [← pS_c0 ha c5]; exact ⟨ha.1, aok_X ha.1 (by decide)⟩))
  · refine r_aload_n (pc' := 9) d21_8 rfl rfl rfl ?_
    refine r_dupR (pc' := 10) d21_9 rfl ?_
    refine r_getI (pc' := 13) d21_10 rfl o21 sf4_19_4 sh5 (pl hN rfl) ?_
    refine wp_v QH_g2 ?_
    refine r_iconst (v := 1) (pc' := 14) d21_13 rfl (by decide) ?_
    refine r_iadd (pc' := 15) d21_14 rfl ?_
    refine r_putI (pc' := 18) d21_15 rfl o21 sp4_19_4 sh5 (fun w => absurd w (by decide)) (Or.inl rfl) (pl hN rfl) ?_
    rw [nI_1, CH_s2]
    refine r_goto 30 d21_18 rfl ?_
    exact r_ret d21_30 rfl (by rw [pS_a ha c5]; exact kk (a + 1) (pS_c1 ha c5 hc0).1)
theorem pK_c0 {T : Nat → Int32} {n a : Nat} {σ : Nat × Nat} (h : aok n a σ) (hz : srt (zB T n a) = -1000000) : pX a 1 σ = pK T n σ := by
  unfold pK pX
  by_cases hG : σ.2 = 0
  · have e := h.2 hG
    subst e
    rw [if_pos hG, if_pos hG, if_pos hz]
  · rw [if_neg hG, if_neg hG]
theorem pK_a {T : Nat → Int32} {n a : Nat} {σ : Nat × Nat} {h : Hp} (ho : aok n a σ) (hz : ¬ srt (zB T n a) = -1000000) (x : Nat) : CH h x σ = CH h x (pK T n σ) := by
  refine CH_adv ?_ ?_
  · unfold pK
    by_cases hG : σ.2 = 0
    · have e := ho.2 hG
      subst e
      rw [if_pos hG, if_neg hz]; exact ⟨fun _ => rfl, fun _ => hG⟩
    · rw [if_neg hG]
  · intro hG; unfold pK; rw [if_neg hG]
theorem pK_c1 {T : Nat → Int32} {n a : Nat} {σ : Nat × Nat} (h : aok n a σ) (hz : ¬ srt (zB T n a) = -1000000) : aok n (a + 1) (pK T n σ) := by
  have hp := zB_lt (T := T) (n := n) (p := a) rfl (let_0 (srt_l hz))
  unfold pK
  by_cases hG : σ.2 = 0
  · have e := h.2 hG
    subst e
    rw [if_pos hG, if_neg hz]
    exact ⟨hp, fun _ => rfl⟩
  · rw [if_neg hG]
    exact ⟨hp, fun z => absurd z hG⟩
theorem c_readSort {d : Nat} {h : Hp} {Q : Option AV → Hp → Prop} {n a : Nat} {σ : Nat × Nat} (hN : hn h = 65) (hC : RC h) (hn0 : hi h 5 1 = nI n) (hn1 : n ≤ 160) (ha : aok n a σ) (kk : ∀ a9 r, aok n a9 (pK (hi h 6) n σ) → ((pK (hi h 6) n σ).2 = 0 → r = srt (zB (hi h 6) n σ.1)) → Q (some (vI r)) (CH h a9 (pK (hi h 6) n σ))) : Spec (d + 1) 22 [vR (some 5)] (CH h a σ) Q := by
  refine spec_intro (by decide +kernel) rfl (Nat.le_of_ble_eq_true rfl) ?_
  refine r_aload_n (pc' := 1) d22_0 rfl rfl rfl ?_
  refine r_call (pc' := 4) [vR (some 5)] [] d22_1 rfl o22 st4_35_4 (rcv1 sh5 (pl hN rfl)) rfl (by decide) ⟨rfl, rfl⟩ (Nat.le_of_ble_eq_true rfl) rfl (c_nextC hN hC hn0 hn1 (by have := ha.1; omega) ?_)
  refine r_call (pc' := 7) [vI _] [] d22_4 rfl o22 st4_42 rcv0 rfl (by decide) ⟨rfl, rfl⟩ (Nat.le_of_ble_eq_true rfl) rfl (c_sortOf ?_)
  refine r_istore_n (pc' := 8) (ls' := [(1, vI _), (0, vR (some 5))]) d22_7 rfl rfl (by decide) rfl ?_
  refine r_iload_n (pc' := 9) d22_8 rfl rfl rfl ?_
  refine r_ldc (pc' := 11) d22_9 rfl o22 kc4_46 ?_
  refine r_icmp_ne 25 (pc' := 14) d22_11 rfl rfl (fun c11 => ?_) (fun c11 => ?_)
  · refine r_aload_n (pc' := 26) d22_25 rfl rfl rfl ?_
    refine r_dupR (pc' := 27) d22_26 rfl ?_
    refine r_getI (pc' := 30) d22_27 rfl o22 sf4_19_4 sh5 (pl hN rfl) ?_
    refine wp_v QH_g2 ?_
    refine r_iconst (v := 1) (pc' := 31) d22_30 rfl (by decide) ?_
    refine r_iadd (pc' := 32) d22_31 rfl ?_
    refine r_putI (pc' := 35) d22_32 rfl o22 sp4_19_4 sh5 (fun w => absurd w (by decide)) (Or.inl rfl) (pl hN rfl) ?_
    rw [nI_1, CH_s2]
    refine r_iload_n (pc' := 36) d22_35 rfl rfl rfl ?_
    exact r_iretI d22_36 rfl (by rw [pK_a ha c11]; exact kk (a + 1) _ (pK_c1 ha c11) (fun z => by rw [← ha.2 (pK_G z).1]))
  · refine r_aload_n (pc' := 15) d22_14 rfl rfl rfl ?_
    refine r_iconst (v := 1) (pc' := 16) d22_15 rfl (by decide) ?_
    refine r_aload_n (pc' := 17) d22_16 rfl rfl rfl ?_
    refine r_getI (pc' := 20) d22_17 rfl o22 sf4_19_4 sh5 (pl hN rfl) ?_
    refine wp_v QH_g2 ?_
    refine r_call (pc' := 23) [vR (some 5), vI _, vI _] [] d22_20 rfl o22 st4_53_4 (rcv1 sh5 (pl hN rfl)) rfl (by decide) ⟨rfl, rfl⟩ (Nat.le_of_ble_eq_true rfl) rfl (c_failC (num := 1) (p := a) hN (by decide) ?_)
    refine r_iconst (v := 0) (pc' := 24) d22_23 rfl (by decide) ?_
    exact r_iretI d22_24 rfl (by rw [pK_c0 ha c11]; exact kk a 0 (by rw [← pK_c0 ha c11]; exact ⟨ha.1, aok_X ha.1 (by decide)⟩) (fun z => absurd ((pK_G z).2) (fun y => y (by rw [← ha.2 (pK_G z).1]; exact c11))))
def zm (T : Nat → Int32) (n a : Nat) : Nat := if zD T n a < 3 then zD T n a else 3
def zu (T : Nat → Int32) (n a : Nat) : Nat → Int32
  | 0 => 0
  | k + 1 => zu T n a k * 10 + zB T n (a + k) - 48
theorem zu_1 (T : Nat → Int32) (n a : Nat) : zu T n a 1 = zB T n a - 48 := by
  show (0 : Int32) * 10 + zB T n (a + 0) - 48 = _
  rw [Int32.zero_mul, Int32.zero_add]; rfl
theorem zu_2 (T : Nat → Int32) (n a : Nat) : zu T n a 2 = 10 * (zB T n a - 48) + zB T n (a + 1) - 48 := by
  show zu T n a 1 * 10 + zB T n (a + 1) - 48 = _
  rw [zu_1, Int32.mul_comm]
theorem zu_v {T : Nat → Int32} {n a : Nat} (h1 : 1 ≤ zD T n a) (h2 : zD T n a ≤ 2) : zu T n a (zD T n a) = zV T n a := by
  unfold zV zVi
  rcases (show zD T n a = 1 ∨ zD T n a = 2 by omega) with e | e
  · rw [e, zu_1, if_pos (by decide)]
  · rw [e, zu_2, if_neg (by decide)]
theorem zD_k {T : Nat → Int32} {n a : Nat} : ∀ k, (∀ j, j < k → zF (zB T n (a + j))) → zD T n a = k + zD T n (a + k) := by
  intro k
  induction k with
  | zero => intro _; rw [Nat.add_zero, Nat.zero_add]
  | succ k ih =>
    intro h
    rw [ih (fun j hj => h j (by omega)), zD_s (h k (by omega)), show a + (k + 1) = a + k + 1 by omega]
    omega
theorem pN_c {T : Nat → Int32} {n a : Nat} {lo hi : Int32} {σ : Nat × Nat} (ho : aok n a σ) : (zm T n a < 1 ∨ 2 < zm T n a → pX a 1 σ = pN T n lo hi σ) ∧ (1 ≤ zm T n a → zm T n a ≤ 2 → (zm T n a = zD T n a ∧ ((¬ (lo ≤ zV T n a ∧ zV T n a ≤ hi) → pX a 2 σ = pN T n lo hi σ) ∧ ((lo ≤ zV T n a ∧ zV T n a ≤ hi) → aok n (a + zm T n a) (pN T n lo hi σ) ∧ ∀ h x, CH h x σ = CH h x (pN T n lo hi σ))))) := by
  have hle := zD_le T n a
  have hm : zm T n a = zD T n a ∨ (3 ≤ zD T n a ∧ zm T n a = 3) := by
    unfold zm; split
    · exact Or.inl rfl
    · exact Or.inr ⟨by omega, rfl⟩
  refine ⟨fun hz => ?_, fun h1 h2 => ⟨by omega, fun hv => ?_, fun hv => ⟨?_, fun h x => ?_⟩⟩⟩
  · unfold pX pN
    by_cases hG : σ.2 = 0
    · have e := ho.2 hG
      subst e
      rw [if_pos hG, if_pos hG, if_neg (by omega)]
    · rw [if_neg hG, if_neg hG]
  · unfold pX pN
    by_cases hG : σ.2 = 0
    · have e := ho.2 hG
      subst e
      rw [if_pos hG, if_pos hG, if_pos (by omega), if_neg hv]
    · rw [if_neg hG, if_neg hG]
  · have e9 : zm T n a = zD T n a := by omega
    rw [e9]
    unfold pN
    by_cases hG : σ.2 = 0
    · have e := ho.2 hG
      subst e
      rw [if_pos hG, if_pos (by omega), if_pos hv]
      exact ⟨by have := ho.1; omega, fun _ => rfl⟩
    · rw [if_neg hG]
      exact ⟨by have := ho.1; omega, fun z => absurd z hG⟩
  · refine CH_adv ?_ ?_
    · unfold pN
      by_cases hG : σ.2 = 0
      · have e := ho.2 hG
        subst e
        rw [if_pos hG, if_pos (by omega), if_pos hv]; exact ⟨fun _ => rfl, fun _ => hG⟩
      · rw [if_neg hG]
    · intro hG; unfold pN; rw [if_neg hG]
theorem pX_ne {p num : Nat} {σ : Nat × Nat} (h : ¬ num = 0) : ¬ (pX p num σ).2 = 0 := by
  unfold pX; split
  · exact h
  · assumption
theorem c_readNumber {d : Nat} {h : Hp} {Q : Option AV → Hp → Prop} {n a : Nat} {σ : Nat × Nat} {lo hi0 : Int32} (hN : hn h = 65) (hC : RC h) (hn0 : hi h 5 1 = nI n) (hn1 : n ≤ 160) (ha : aok n a σ) (kk : ∀ a9 r, aok n a9 (pN (hi h 6) n lo hi0 σ) → ((pN (hi h 6) n lo hi0 σ).2 = 0 → r = zV (hi h 6) n σ.1) → Q (some (vI r)) (CH h a9 (pN (hi h 6) n lo hi0 σ))) : Spec (d + 1) 23 [vR (some 5), vI lo, vI hi0] (CH h a σ) Q := by
  refine spec_intro (by decide +kernel) rfl (Nat.le_of_ble_eq_true rfl) ?_
  refine r_aload_n (pc' := 1) d23_0 rfl rfl rfl ?_
  refine r_getI (pc' := 4) d23_1 rfl o23 sf4_19_4 sh5 (pl hN rfl) ?_
  refine wp_v QH_g2 ?_
  refine r_istore_n (pc' := 5) (ls' := [(3, vI _), (0, vR (some 5)), (1, vI _), (2, vI _)]) d23_4 rfl rfl (by decide) rfl ?_
  refine r_iconst (v := 0) (pc' := 6) d23_5 rfl (by decide) ?_
  refine r_istore (pc' := 8) (ls' := [(4, vI _), (3, vI _), (0, vR (some 5)), (1, vI _), (2, vI _)]) d23_6 rfl (by decide) rfl ?_
  refine r_iconst (v := 0) (pc' := 9) d23_8 rfl (by decide) ?_
  refine r_istore (pc' := 11) (ls' := [(5, vI _), (4, vI _), (3, vI _), (0, vR (some 5)), (1, vI _), (2, vI _)]) d23_9 rfl (by decide) rfl ?_
  refine wp_pick (ls' := [(0, vR (some 5)), (1, vI _), (2, vI _), (3, vI _), (4, vI _), (5, vI _)]) [3, 4, 5, 2, 1, 0] rfl ?_
  have hle := zD_le (hi h 6) n a
  have hzm : zm (hi h 6) n a ≤ 3 ∧ a + zm (hi h 6) n a ≤ n := by unfold zm; have := ha.1; split <;> omega
  have tail : ∀ i : Int32, wp (d + 1) 23 Q 0 0 58 [(0, vR (some 5)), (1, vI lo), (2, vI hi0), (3, vI (nI a)), (4, vI (zu (hi h 6) n a (zm (hi h 6) n a))), (5, vI i)] [] (CH h (a + zm (hi h 6) n a) σ) := by
    intro i
    obtain ⟨pc0, pc1⟩ := pN_c (T := (hi h 6)) (lo := lo) (hi := hi0) ha
    refine r_aload_n (pc' := 59) d23_58 rfl rfl rfl ?_
    refine r_getI (pc' := 62) d23_59 rfl o23 sf4_19_4 sh5 (pl hN rfl) ?_
    refine wp_v QH_g2 ?_
    refine r_iload_n (pc' := 63) d23_62 rfl rfl rfl ?_
    refine r_isub (pc' := 64) d23_63 rfl ?_
    rw [nI_subI (by omega), Nat.add_sub_cancel_left]
    refine r_istore (pc' := 66) (ls' := [(5, vI _), (0, vR (some 5)), (1, vI _), (2, vI _), (3, vI _), (4, vI _)]) d23_64 rfl (by decide) rfl ?_
    refine r_iload (pc' := 68) d23_66 rfl rfl ?_
    refine r_iconst (v := 1) (pc' := 69) d23_68 rfl (by decide) ?_
    refine r_icmp_lt 78 (pc' := 72) d23_69 rfl rfl (fun c69 => ?_) (fun c69 => ?_)
    · refine r_aload_n (pc' := 79) d23_78 rfl rfl rfl ?_
      refine r_iconst (v := 1) (pc' := 80) d23_79 rfl (by decide) ?_
      refine r_iload_n (pc' := 81) d23_80 rfl rfl rfl ?_
      refine r_call (pc' := 84) [vR (some 5), vI _, vI _] [] d23_81 rfl o23 st4_53_4 (rcv1 sh5 (pl hN rfl)) rfl (by decide) ⟨rfl, rfl⟩ (Nat.le_of_ble_eq_true rfl) rfl (c_failC (num := 1) (p := a) hN (by decide) ?_)
      refine r_goto 105 d23_84 rfl ?_
      refine r_iload (pc' := 107) d23_105 rfl rfl ?_
      exact r_iretI d23_107 rfl (by have e := pc0 (Or.inl (Nat.lt_of_not_le (fun z => absurd c69 (nI_nlt (a := zm (hi h 6) n a) (b := 1) z (by omega))))); rw [e]; exact kk _ _ (by rw [← e]; exact ⟨hzm.2, aok_X hzm.2 (by decide)⟩) (fun z => absurd z (by rw [← e]; exact pX_ne (by decide))))
    · refine r_iload (pc' := 74) d23_72 rfl rfl ?_
      refine r_iconst (v := 2) (pc' := 75) d23_74 rfl (by decide) ?_
      refine r_icmp_le 87 (pc' := 78) d23_75 rfl rfl (fun c75 => ?_) (fun c75 => ?_)
      · refine r_iload (pc' := 89) d23_87 rfl rfl ?_
        refine r_iload_n (pc' := 90) d23_89 rfl rfl rfl ?_
        refine r_icmp_lt 99 (pc' := 93) d23_90 rfl rfl (fun c90 => ?_) (fun c90 => ?_)
        · refine r_aload_n (pc' := 100) d23_99 rfl rfl rfl ?_
          refine r_iconst (v := 2) (pc' := 101) d23_100 rfl (by decide) ?_
          refine r_iload_n (pc' := 102) d23_101 rfl rfl rfl ?_
          refine r_call (pc' := 105) [vR (some 5), vI _, vI _] [] d23_102 rfl o23 st4_53_4 (rcv1 sh5 (pl hN rfl)) rfl (by decide) ⟨rfl, rfl⟩ (Nat.le_of_ble_eq_true rfl) rfl (c_failC (num := 2) (p := a) hN (by decide) ?_)
          refine r_iload (pc' := 107) d23_105 rfl rfl ?_
          exact r_iretI d23_107 rfl (by have h1 : 1 ≤ zm (hi h 6) n a := Nat.le_of_not_lt (fun z => c69 (nI_lt (a := zm (hi h 6) n a) (b := 1) z (by decide))); have h2 : zm (hi h 6) n a ≤ 2 := Nat.le_of_not_lt (fun z => absurd c75 (nI_ge (a := 2) (b := zm (hi h 6) n a) z (by omega))); obtain ⟨e1, e2, e3⟩ := pc1 h1 h2; have ev : zu (hi h 6) n a (zm (hi h 6) n a) = zV (hi h 6) n a := (by rw [e1]; exact zu_v (by omega) (by omega)); have e := e2 (fun z => absurd z.1 (Int32.not_le.mpr (ev ▸ c90))); rw [e]; exact kk _ _ (by rw [← e]; exact ⟨hzm.2, aok_X hzm.2 (by decide)⟩) (fun z => absurd z (by rw [← e]; exact pX_ne (by decide))))
        · refine r_iload (pc' := 95) d23_93 rfl rfl ?_
          refine r_iload_n (pc' := 96) d23_95 rfl rfl rfl ?_
          refine r_icmp_le 105 (pc' := 99) d23_96 rfl rfl (fun c96 => ?_) (fun c96 => ?_)
          · refine r_iload (pc' := 107) d23_105 rfl rfl ?_
            exact r_iretI d23_107 rfl (by have h1 : 1 ≤ zm (hi h 6) n a := Nat.le_of_not_lt (fun z => c69 (nI_lt (a := zm (hi h 6) n a) (b := 1) z (by decide))); have h2 : zm (hi h 6) n a ≤ 2 := Nat.le_of_not_lt (fun z => absurd c75 (nI_ge (a := 2) (b := zm (hi h 6) n a) z (by omega))); obtain ⟨e1, e2, e3⟩ := pc1 h1 h2; have ev : zu (hi h 6) n a (zm (hi h 6) n a) = zV (hi h 6) n a := (by rw [e1]; exact zu_v (by omega) (by omega)); obtain ⟨a1, a2⟩ := e3 ⟨ev ▸ Int32.not_lt.mp c90, ev ▸ c96⟩; rw [a2]; exact kk _ _ a1 (fun z => by rw [ev, ha.2 (pN_G z)]))
          · refine r_aload_n (pc' := 100) d23_99 rfl rfl rfl ?_
            refine r_iconst (v := 2) (pc' := 101) d23_100 rfl (by decide) ?_
            refine r_iload_n (pc' := 102) d23_101 rfl rfl rfl ?_
            refine r_call (pc' := 105) [vR (some 5), vI _, vI _] [] d23_102 rfl o23 st4_53_4 (rcv1 sh5 (pl hN rfl)) rfl (by decide) ⟨rfl, rfl⟩ (Nat.le_of_ble_eq_true rfl) rfl (c_failC (num := 2) (p := a) hN (by decide) ?_)
            refine r_iload (pc' := 107) d23_105 rfl rfl ?_
            exact r_iretI d23_107 rfl (by have h1 : 1 ≤ zm (hi h 6) n a := Nat.le_of_not_lt (fun z => c69 (nI_lt (a := zm (hi h 6) n a) (b := 1) z (by decide))); have h2 : zm (hi h 6) n a ≤ 2 := Nat.le_of_not_lt (fun z => absurd c75 (nI_ge (a := 2) (b := zm (hi h 6) n a) z (by omega))); obtain ⟨e1, e2, e3⟩ := pc1 h1 h2; have ev : zu (hi h 6) n a (zm (hi h 6) n a) = zV (hi h 6) n a := (by rw [e1]; exact zu_v (by omega) (by omega)); have e := e2 (fun z => c96 (ev ▸ z.2)); rw [e]; exact kk _ _ (by rw [← e]; exact ⟨hzm.2, aok_X hzm.2 (by decide)⟩) (fun z => absurd z (by rw [← e]; exact pX_ne (by decide))))
      · refine r_aload_n (pc' := 79) d23_78 rfl rfl rfl ?_
        refine r_iconst (v := 1) (pc' := 80) d23_79 rfl (by decide) ?_
        refine r_iload_n (pc' := 81) d23_80 rfl rfl rfl ?_
        refine r_call (pc' := 84) [vR (some 5), vI _, vI _] [] d23_81 rfl o23 st4_53_4 (rcv1 sh5 (pl hN rfl)) rfl (by decide) ⟨rfl, rfl⟩ (Nat.le_of_ble_eq_true rfl) rfl (c_failC (num := 1) (p := a) hN (by decide) ?_)
        refine r_goto 105 d23_84 rfl ?_
        refine r_iload (pc' := 107) d23_105 rfl rfl ?_
        exact r_iretI d23_107 rfl (by have e := pc0 (Or.inr (Nat.lt_of_not_le (fun z => c75 (nI_le (a := zm (hi h 6) n a) (b := 2) z (by decide))))); rw [e]; exact kk _ _ (by rw [← e]; exact ⟨hzm.2, aok_X hzm.2 (by decide)⟩) (fun z => absurd z (by rw [← e]; exact pX_ne (by decide))))
  have loop : ∀ (r k : Nat), k + r = 3 → (∀ j, j < k → zF (zB (hi h 6) n (a + j))) → wp (d + 1) 23 Q 0 0 11 [(0, vR (some 5)), (1, vI lo), (2, vI hi0), (3, vI (nI a)), (4, vI (zu (hi h 6) n a k)), (5, vI (nI k))] [] (CH h (a + k) σ) := by
    intro r
    induction r with
    | zero =>
      intro k hk hf
      obtain rfl : k = 3 := by omega
      have e3 : zm (hi h 6) n a = 3 := by have := zD_k 3 hf; unfold zm; rw [if_neg (by omega)]
      have z := tail (nI 3)
      rw [e3] at z
      refine r_iload (pc' := 13) d23_11 rfl rfl ?_
      refine r_iconst (v := 3) (pc' := 14) d23_13 rfl (by decide) ?_
      refine r_icmp_ge 58 (pc' := 17) d23_14 rfl rfl (fun c14 => ?_) (fun c14 => absurd (by decide) c14)
      exact z
    | succ r ih =>
      intro k hk hf
      refine r_iload (pc' := 13) d23_11 rfl rfl ?_
      refine r_iconst (v := 3) (pc' := 14) d23_13 rfl (by decide) ?_
      refine r_icmp_ge 58 (pc' := 17) d23_14 rfl rfl (fun c14 => absurd c14 (nI_ge (a := k) (b := 3) (by omega) (by decide))) (fun c14 => ?_)
      refine r_aload_n (pc' := 18) d23_17 rfl rfl rfl ?_
      refine r_call (pc' := 21) [vR (some 5)] [] d23_18 rfl o23 st4_35_4 (rcv1 sh5 (pl hN rfl)) rfl (by decide) ⟨rfl, rfl⟩ (Nat.le_of_ble_eq_true rfl) rfl (c_nextC hN hC hn0 hn1 (by have := ha.1; omega) ?_)
      refine r_call (pc' := 24) [vI _] [] d23_21 rfl o23 st4_97 rcv0 rfl (by decide) ⟨rfl, rfl⟩ (Nat.le_of_ble_eq_true rfl) rfl (c_isFigure ?_)
      refine r_if_eqB 58 (pc' := 27) d23_24 rfl rfl (fun c24 => ?_) (fun c24 => ?_)
      · have ek : zm (hi h 6) n a = k := by have e := zD_k k hf; rw [zD_0 c24] at e; unfold zm; rw [e, if_pos (by omega)]; rfl
        have z := tail (nI k)
        rw [ek] at z
        exact z
      · refine r_iload (pc' := 29) d23_27 rfl rfl ?_
        refine r_bipush (v := 10) (pc' := 31) d23_29 rfl (by decide) ?_
        refine r_imul (pc' := 32) d23_31 rfl ?_
        refine r_aload_n (pc' := 33) d23_32 rfl rfl rfl ?_
        refine r_call (pc' := 36) [vR (some 5)] [vI _] d23_33 rfl o23 st4_35_4 (rcv1 sh5 (pl hN rfl)) rfl (by decide) ⟨rfl, rfl⟩ (Nat.le_of_ble_eq_true rfl) rfl (c_nextC hN hC hn0 hn1 (by have := ha.1; omega) ?_)
        refine r_iadd (pc' := 37) d23_36 rfl ?_
        refine r_bipush (v := 48) (pc' := 39) d23_37 rfl (by decide) ?_
        refine r_isub (pc' := 40) d23_39 rfl ?_
        refine r_istore (pc' := 42) (ls' := [(4, vI _), (0, vR (some 5)), (1, vI _), (2, vI _), (3, vI _), (5, vI _)]) d23_40 rfl (by decide) rfl ?_
        refine r_aload_n (pc' := 43) d23_42 rfl rfl rfl ?_
        refine r_dupR (pc' := 44) d23_43 rfl ?_
        refine r_getI (pc' := 47) d23_44 rfl o23 sf4_19_4 sh5 (pl hN rfl) ?_
        refine wp_v QH_g2 ?_
        refine r_iconst (v := 1) (pc' := 48) d23_47 rfl (by decide) ?_
        refine r_iadd (pc' := 49) d23_48 rfl ?_
        refine r_putI (pc' := 52) d23_49 rfl o23 sp4_19_4 sh5 (fun w => absurd w (by decide)) (Or.inl rfl) (pl hN rfl) ?_
        rw [nI_1, CH_s2]
        refine r_iinc (v := _ + 1) (pc' := 55) (ls' := [(5, vI _), (4, vI _), (0, vR (some 5)), (1, vI _), (2, vI _), (3, vI _)]) d23_52 rfl rfl rfl (by decide) rfl ?_
        refine r_goto 11 d23_55 rfl ?_
        refine wp_pick (ls' := [(0, vR (some 5)), (1, vI _), (2, vI _), (3, vI _), (4, vI _), (5, vI _)]) [2, 3, 4, 5, 1, 0] rfl ?_
        rw [nI_1]
        exact ih (k + 1) (by omega) (fun j hj => by rcases Nat.lt_or_eq_of_le (Nat.le_of_lt_succ hj) with y | y; (exact hf j y); (rw [y]; exact c24))
  exact loop 3 0 rfl (fun j hj => absurd hj (Nat.not_lt_zero _))
