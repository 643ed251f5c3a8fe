/-! the class reads a tape: grate, coals, things, eaters (printed by wip/whole/m72.py) -/
theorem c_nextT {d : Nat} {h : Hp} {Q : Option AV → Hp → Prop} {n a : Nat} {σ : Nat × Nat} {T : Nat → Int32} (hN : hn h = 65) (hC : RC h) (hn0 : hi h 5 1 = nI n) (hn1 : n ≤ 160) (e6 : hi h 6 = T) (ha : a ≤ 1000) (kk : Q (some (vI (zB T n a))) (CH h a σ)) : Spec d 20 [vR (some 5)] (CH h a σ) Q := by
  subst e6; exact c_nextC hN hC hn0 hn1 ha kk
theorem c_readSignT {d : Nat} {h : Hp} {Q : Option AV → Hp → Prop} {n a : Nat} {σ : Nat × Nat} {T : Nat → Int32} {c : Int32} (hN : hn h = 65) (hC : RC h) (hn0 : hi h 5 1 = nI n) (hn1 : n ≤ 160) (e6 : hi h 6 = T) (ha : aok n a σ) (hc0 : 0 ≤ c) (kk : ∀ a9, aok n a9 (pS T n c σ) → Q none (CH h a9 (pS T n c σ))) : Spec (d + 1) 21 [vR (some 5), vI c] (CH h a σ) Q := by
  subst e6; exact c_readSign hN hC hn0 hn1 ha hc0 kk
theorem c_readSortT {d : Nat} {h : Hp} {Q : Option AV → Hp → Prop} {n a : Nat} {σ : Nat × Nat} {T : Nat → Int32} (hN : hn h = 65) (hC : RC h) (hn0 : hi h 5 1 = nI n) (hn1 : n ≤ 160) (e6 : hi h 6 = T) (ha : aok n a σ) (kk : ∀ a9 r, aok n a9 (pK T n σ) → ((pK T n σ).2 = 0 → r = srt (zB T n σ.1)) → Q (some (vI r)) (CH h a9 (pK T n σ))) : Spec (d + 1) 22 [vR (some 5)] (CH h a σ) Q := by
  subst e6; exact c_readSort hN hC hn0 hn1 ha kk
theorem c_readNumberT {d : Nat} {h : Hp} {Q : Option AV → Hp → Prop} {n a : Nat} {σ : Nat × Nat} {T : Nat → Int32} {lo hi0 : Int32} (hN : hn h = 65) (hC : RC h) (hn0 : hi h 5 1 = nI n) (hn1 : n ≤ 160) (e6 : hi h 6 = T) (ha : aok n a σ) (kk : ∀ a9 r, aok n a9 (pN T n lo hi0 σ) → ((pN T n lo hi0 σ).2 = 0 → r = zV T n σ.1) → Q (some (vI r)) (CH h a9 (pN T n lo hi0 σ))) : Spec (d + 1) 23 [vR (some 5), vI lo, vI hi0] (CH h a σ) Q := by
  subst e6; exact c_readNumber hN hC hn0 hn1 ha kk
theorem pN_3 {T : Nat → Int32} {n p : Nat} {lo hi : Int32} : pN T n lo hi (p, 3) = (p, 3) := if_neg (show ¬ (3 : Nat) = 0 by decide)
def JY (Y Y2 : Hp) (c : Nat) : Prop := hn Y2 = hn Y ∧ (∀ x, ¬ (c ≤ x ∧ x < c + 14) → hi Y2 x = hi Y x) ∧ (∀ x y, ¬ (c + 8 ≤ x ∧ x < c + 14 ∧ y = 1) → hr Y2 x y = hr Y x y) ∧ KT Y2 c ∧ ∀ i, i < 6 → hi Y2 (c + 8 + i) 0 = hi Y (c + 8 + i) 0
theorem JY.rf {Y : Hp} {c : Nat} (h : KT Y c) : JY Y Y c := ⟨rfl, fun _ _ => rfl, fun _ _ _ => rfl, h, fun _ _ => rfl⟩
theorem JY.tr {Y Y2 Y3 : Hp} {c : Nat} (h1 : JY Y Y2 c) (h2 : JY Y2 Y3 c) : JY Y Y3 c := ⟨h2.1.trans h1.1, fun x hx => (h2.2.1 x hx).trans (h1.2.1 x hx), fun x y hx => (h2.2.2.1 x y hx).trans (h1.2.2.1 x y hx), h2.2.2.2.1, fun i hi0 => (h2.2.2.2.2 i hi0).trans (h1.2.2.2.2 i hi0)⟩
theorem JY.si {Y Y2 : Hp} {c x j : Nat} {v : Int32} (h : JY Y Y2 c) (hx : c ≤ x ∧ x < c + 8) : JY Y (seti Y2 x j v) c := ⟨h.1, fun y hy => (hi_seti_ne _ _ _ _ _ (fun z => hy (by omega))).trans (h.2.1 y hy), h.2.2.1, h.2.2.2.1, fun i hi0 => (congrFun (hi_seti_ne _ _ _ _ _ (by omega)) 0).trans (h.2.2.2.2 i hi0)⟩
theorem JY.rc {Y Y2 : Hp} {c : Nat} (h : JY Y Y2 c) (hc : c = 17 ∨ c = 31) (hC : RC Y) : RC Y2 := hC.of (fun x y h1 h2 => h.2.2.1 x y (by omega))
def acH (Y : Hp) (c L : Nat) (x f : Int32) : Hp := seti (seti (seti (seti Y (c + 1) L x) (c + 2) L f) (c + 3) L 0) c 4 (nI (L + 1))
def aeH (Y : Hp) (c z : Nat) (kd mi : Int32) : Hp := seti (seti (seti (seti Y (c + 5) z kd) (c + 6) z mi) (c + 7) z (-1000000)) c 10 (nI (z + 1))
def atH (Y : Hp) (c m : Nat) (kd pl9 : Int32) : Hp := seti (setw (setr Y (c + 8 + m) 1 (some (10 + kO kd))) (c + 8 + m) (coldV pl9 (hi Y (c + 8 + m)))) c 8 (nI (m + 1))
theorem JY.ac {Y : Hp} {c L : Nat} {x f : Int32} (h : KT Y c) : JY Y (acH Y c L x f) c := ((((JY.rf h).si (by omega)).si (by omega)).si (by omega)).si (by omega)
theorem JY.ae {Y : Hp} {c L : Nat} {x f : Int32} (h : KT Y c) : JY Y (aeH Y c L x f) c := ((((JY.rf h).si (by omega)).si (by omega)).si (by omega)).si (by omega)
theorem JY.at {Y : Hp} {c m : Nat} {x f : Int32} (h : KT Y c) (hm : m < 6) : JY Y (atH Y c m x f) c := by
  refine ⟨rfl, fun y hy => ?_, fun x2 y2 h2 => ?_, fun i hi0 => ?_, fun i hi0 => ?_⟩
  · unfold atH
    rw [hi_seti_ne _ _ _ _ _ (by omega), hi_setw_ne _ _ _ _ (by omega)]; rfl
  · show hr (setr Y (c + 8 + m) 1 (some (10 + kO x))) x2 y2 = _
    rw [hr_setr, if_neg (by omega)]
  · have e : ∀ i, hr (atH Y c m x f) (c + 8 + i) 1 = if i = m then some (10 + kO x) else hr Y (c + 8 + i) 1 := by
      intro i
      show hr (setr Y (c + 8 + m) 1 (some (10 + kO x))) (c + 8 + i) 1 = _
      rw [hr_setr]
      by_cases z : i = m
      · rw [if_pos ⟨by omega, rfl⟩, if_pos z]
      · rw [if_neg (by omega), if_neg z]
    have e2 := e i
    unfold kq
    by_cases z : i = m
    · rw [if_pos z] at e2
      rw [e2]
      refine ⟨?_, ?_⟩
      · show some (10 + kO x) = some (10 + (10 + kO x - 10)); rw [Nat.add_sub_cancel_left]
      · show 10 + kO x - 10 < 6; rw [Nat.add_sub_cancel_left]; exact kO_lt _
    · rw [if_neg z] at e2
      rw [e2]
      exact h i hi0
  · by_cases z : i = m
    · rw [z]; unfold atH; rw [hi_seti_ne _ _ _ _ _ (by omega), hi_setw_row]; rfl
    · unfold atH; rw [hi_seti_ne _ _ _ _ _ (by omega), hi_setw_ne _ _ _ _ (by omega)]; rfl
theorem pC_8 {T : Nat → Int32} {n L : Nat} {σ : Nat × Nat} (h : ¬ L < 8) : pC T n L σ = (σ.1, 3) := by
  unfold pC pL; rw [decide_eq_false h]
  show pS T n 59 (pN T n 1 30 (pS T n 44 (pN T n 0 11 (σ.1, 3)))) = _
  rw [pN_3, pS_3, pN_3, pS_3]
theorem pE_4 {T : Nat → Int32} {n e : Nat} {σ : Nat × Nat} (h : ¬ e < 4) : pE T n e σ = (σ.1, 3) := by
  unfold pE pL; rw [decide_eq_false h]
  show pS T n 59 (pN T n 0 60 (pK T n (σ.1, 3))) = _
  rw [show pK T n (σ.1, 3) = (σ.1, 3) from if_neg (show ¬ (3 : Nat) = 0 by decide), pN_3, pS_3]
theorem pT_6 {T : Nat → Int32} {n m : Nat} {s : Nat → Int32} {σ : Nat × Nat} (h : ¬ m < 6) : pT T n m s σ = (σ.1, 3) := by
  unfold pT pL; rw [decide_eq_false h]
  show pS T n 59 (pNP T n _ (σ.1, 3)) = _
  rw [pNP_3, pS_3]
theorem pX_at {σ : Nat × Nat} {n a k : Nat} (hG : σ.2 = 0) (ha : aok n a σ) : pX a k σ = (σ.1, k) := by
  unfold pX; rw [if_pos hG, ha.2 hG]
theorem pS_p {T : Nat → Int32} {n : Nat} {c : Int32} {σ : Nat × Nat} (hG : σ.2 = 0) (hz : zB T n σ.1 = c) : pS T n c σ = pL true σ := by
  unfold pS pL; rw [if_pos hG, if_pos hz]; rfl
theorem pK_p {T : Nat → Int32} {n : Nat} {σ : Nat × Nat} (hG : σ.2 = 0) (hz : ¬ srt (zB T n σ.1) = -1000000) : pK T n σ = pL true σ := by
  unfold pK pL; rw [if_pos hG, if_neg hz]; rfl
theorem c_readGrate {d : Nat} {h : Hp} {Q : Option AV → Hp → Prop} {n a : Nat} {σ : Nat × Nat} {T : Nat → Int32} {c : Nat} (hN : hn h = 65) (hC : RC h) (hn0 : hi h 5 1 = nI n) (hn1 : n ≤ 160) (e6 : hi h 6 = T) (hcb : c = 17 ∨ c = 31) (ha : aok n a σ) (kk : ∀ a9 r1 r2, aok n a9 (pG T n σ) → ((pG T n σ).2 = 0 → r1 = (zV T n (pS T n 103 σ).1) ∧ r2 = (zV T n (pS T n 44 (pN T n 1 30 (pS T n 103 σ))).1)) → Q none (CH (seti (seti h c 1 r1) c 2 r2) a9 (pG T n σ))) : Spec (d + 2) 16 [vR (some 5), vR (some c)] (CH h a σ) Q := by
  refine spec_intro (by decide +kernel) rfl (Nat.le_of_ble_eq_true rfl) ?_
  refine r_aload_n (pc' := 1) d16_0 rfl rfl rfl ?_
  refine r_bipush (v := 103) (pc' := 3) d16_1 rfl (by decide) ?_
  refine r_call (pc' := 6) [vR (some 5), vI _] [] d16_3 rfl o16 st4_57_4 (rcv1 sh5 (pl hN rfl)) rfl (by decide) ⟨rfl, rfl⟩ (Nat.le_of_ble_eq_true rfl) rfl (c_readSignT hN hC hn0 hn1 e6 ha (by decide) (fun a1 ha1 => ?_))
  refine r_aload_n (pc' := 7) d16_6 rfl rfl rfl ?_
  refine r_aload_n (pc' := 8) d16_7 rfl rfl rfl ?_
  refine r_iconst (v := 1) (pc' := 9) d16_8 rfl (by decide) ?_
  refine r_bipush (v := 30) (pc' := 11) d16_9 rfl (by decide) ?_
  refine r_call (pc' := 14) [vR (some 5), vI _, vI _] [vR (some c)] d16_11 rfl o16 st4_61_4 (rcv1 sh5 (pl hN rfl)) rfl (by decide) ⟨rfl, rfl⟩ (Nat.le_of_ble_eq_true rfl) rfl (c_readNumberT hN hC hn0 hn1 e6 ha1 (fun a2 r1 ha2 hr1 => ?_))
  refine r_putI (pc' := 17) d16_14 rfl o16 sp4_65_10 (shY hcb) (fun w => absurd w (by decide)) (Or.inl rfl) (plo hN (by omega)) ?_
  rw [CH_seti (by omega)]
  refine r_aload_n (pc' := 18) d16_17 rfl rfl rfl ?_
  refine r_bipush (v := 44) (pc' := 20) d16_18 rfl (by decide) ?_
  refine r_call (pc' := 23) [vR (some 5), vI _] [] d16_20 rfl o16 st4_57_4 (rcv1 sh5 (pl hN rfl)) rfl (by decide) ⟨rfl, rfl⟩ (Nat.le_of_ble_eq_true rfl) rfl (c_readSignT hN hC ((congrFun (hi_seti_ne _ _ _ _ _ (by omega)) 1).trans hn0) hn1 ((hi_seti_ne _ _ _ _ _ (by omega)).trans e6) ha2 (by decide) (fun a3 ha3 => ?_))
  refine r_aload_n (pc' := 24) d16_23 rfl rfl rfl ?_
  refine r_aload_n (pc' := 25) d16_24 rfl rfl rfl ?_
  refine r_iconst (v := 0) (pc' := 26) d16_25 rfl (by decide) ?_
  refine r_bipush (v := 9) (pc' := 28) d16_26 rfl (by decide) ?_
  refine r_call (pc' := 31) [vR (some 5), vI _, vI _] [vR (some c)] d16_28 rfl o16 st4_61_4 (rcv1 sh5 (pl hN rfl)) rfl (by decide) ⟨rfl, rfl⟩ (Nat.le_of_ble_eq_true rfl) rfl (c_readNumberT hN hC ((congrFun (hi_seti_ne _ _ _ _ _ (by omega)) 1).trans hn0) hn1 ((hi_seti_ne _ _ _ _ _ (by omega)).trans e6) ha3 (fun a4 r2 ha4 hr2 => ?_))
  refine r_putI (pc' := 34) d16_31 rfl o16 sp4_68_10 (shY hcb) (fun w => absurd w (by decide)) (Or.inl rfl) (plo hN (by omega)) ?_
  rw [CH_seti (by omega)]
  refine r_aload_n (pc' := 35) d16_34 rfl rfl rfl ?_
  refine r_bipush (v := 59) (pc' := 37) d16_35 rfl (by decide) ?_
  refine r_call (pc' := 40) [vR (some 5), vI _] [] d16_37 rfl o16 st4_57_4 (rcv1 sh5 (pl hN rfl)) rfl (by decide) ⟨rfl, rfl⟩ (Nat.le_of_ble_eq_true rfl) rfl (c_readSignT hN hC ((congrFun ((hi_seti_ne _ _ _ _ _ (by omega)).trans (hi_seti_ne _ _ _ _ _ (by omega))) 1).trans hn0) hn1 (((hi_seti_ne _ _ _ _ _ (by omega)).trans (hi_seti_ne _ _ _ _ _ (by omega))).trans e6) ha4 (by decide) (fun a5 ha5 => ?_))
  exact r_ret d16_40 rfl (kk a5 r1 r2 ha5 (fun z => ⟨hr1 (pS_G (pN_G (pS_G z))), hr2 (pS_G z)⟩))
theorem c_readCoal {d : Nat} {h : Hp} {Q : Option AV → Hp → Prop} {n a : Nat} {σ : Nat × Nat} {T : Nat → Int32} {c L : Nat} (hN : hn h = 65) (hC : RC h) (hn0 : hi h 5 1 = nI n) (hn1 : n ≤ 160) (e6 : hi h 6 = T) (hcb : c = 17 ∨ c = 31) (hT : KT h c) (ha : aok n a σ) (hG : σ.2 = 0) (hz : zB T n σ.1 = 99) (hL : hi h c 4 = nI L) (hL8 : L ≤ 8) (kk : ∀ a9 Y, aok n a9 (pC T n L σ) → JY h Y c → ((pC T n L σ).2 = 0 → Y = acH h c L (zV T n (pL (decide (L < 8)) σ).1) (zV T n (pS T n 44 (pN T n 0 11 (pL (decide (L < 8)) σ))).1)) → Q none (CH Y a9 (pC T n L σ))) : Spec (d + 2) 17 [vR (some 5), vR (some c)] (CH h a σ) Q := by
  refine spec_intro (by decide +kernel) rfl (Nat.le_of_ble_eq_true rfl) ?_
  refine r_aload_n (pc' := 1) d17_0 rfl rfl rfl ?_
  refine r_getI (pc' := 4) d17_1 rfl o17 sf4_71_10 (shY hcb) (plo hN (by omega)) ?_
  refine wp_v ((congrFun (CH_o (by omega)) 4).trans hL) ?_
  refine r_bipush (v := 8) (pc' := 6) d17_4 rfl (by decide) ?_
  refine r_icmp_lt 19 (pc' := 9) d17_6 rfl rfl (fun c6 => ?_) (fun c6 => ?_)
  · have hL7 : L < 8 := (nI_ltI (a := L) (b := 8) (by omega) (by decide)).mp c6
    refine r_aload_n (pc' := 20) d17_19 rfl rfl rfl ?_
    refine r_bipush (v := 99) (pc' := 22) d17_20 rfl (by decide) ?_
    refine r_call (pc' := 25) [vR (some 5), vI _] [] d17_22 rfl o17 st4_57_4 (rcv1 sh5 (pl hN rfl)) rfl (by decide) ⟨rfl, rfl⟩ (Nat.le_of_ble_eq_true rfl) rfl (c_readSignT hN hC hn0 hn1 e6 ha (by decide) (fun a1 ha1 => ?_))
    rw [pS_p hG hz] at ha1 ⊢
    refine r_aload_n (pc' := 26) d17_25 rfl rfl rfl ?_
    refine r_iconst (v := 0) (pc' := 27) d17_26 rfl (by decide) ?_
    refine r_bipush (v := 11) (pc' := 29) d17_27 rfl (by decide) ?_
    refine r_call (pc' := 32) [vR (some 5), vI _, vI _] [] d17_29 rfl o17 st4_61_4 (rcv1 sh5 (pl hN rfl)) rfl (by decide) ⟨rfl, rfl⟩ (Nat.le_of_ble_eq_true rfl) rfl (c_readNumberT hN hC hn0 hn1 e6 ha1 (fun a2 r1 ha2 hr1 => ?_))
    refine r_istore_n (pc' := 33) (ls' := [(2, vI _), (0, vR (some 5)), (1, vR (some c))]) d17_32 rfl rfl (by decide) rfl ?_
    refine r_aload_n (pc' := 34) d17_33 rfl rfl rfl ?_
    refine r_bipush (v := 44) (pc' := 36) d17_34 rfl (by decide) ?_
    refine r_call (pc' := 39) [vR (some 5), vI _] [] d17_36 rfl o17 st4_57_4 (rcv1 sh5 (pl hN rfl)) rfl (by decide) ⟨rfl, rfl⟩ (Nat.le_of_ble_eq_true rfl) rfl (c_readSignT hN hC hn0 hn1 e6 ha2 (by decide) (fun a3 ha3 => ?_))
    refine r_aload_n (pc' := 40) d17_39 rfl rfl rfl ?_
    refine r_iconst (v := 1) (pc' := 41) d17_40 rfl (by decide) ?_
    refine r_bipush (v := 30) (pc' := 43) d17_41 rfl (by decide) ?_
    refine r_call (pc' := 46) [vR (some 5), vI _, vI _] [] d17_43 rfl o17 st4_61_4 (rcv1 sh5 (pl hN rfl)) rfl (by decide) ⟨rfl, rfl⟩ (Nat.le_of_ble_eq_true rfl) rfl (c_readNumberT hN hC hn0 hn1 e6 ha3 (fun a4 r2 ha4 hr2 => ?_))
    refine r_istore_n (pc' := 47) (ls' := [(3, vI _), (2, vI _), (0, vR (some 5)), (1, vR (some c))]) d17_46 rfl rfl (by decide) rfl ?_
    refine r_aload_n (pc' := 48) d17_47 rfl rfl rfl ?_
    refine r_bipush (v := 59) (pc' := 50) d17_48 rfl (by decide) ?_
    refine r_call (pc' := 53) [vR (some 5), vI _] [] d17_50 rfl o17 st4_57_4 (rcv1 sh5 (pl hN rfl)) rfl (by decide) ⟨rfl, rfl⟩ (Nat.le_of_ble_eq_true rfl) rfl (c_readSignT hN hC hn0 hn1 e6 ha4 (by decide) (fun a5 ha5 => ?_))
    refine r_aload_n (pc' := 54) d17_53 rfl rfl rfl ?_
    refine r_iload_n (pc' := 55) d17_54 rfl rfl rfl ?_
    refine r_iload_n (pc' := 56) d17_55 rfl rfl rfl ?_
    refine r_iconst (v := 0) (pc' := 57) d17_56 rfl (by decide) ?_
    refine r_call (pc' := 60) [vR (some c), vI _, vI _, vI _] [] d17_57 rfl o17 st4_74_10 (rcv1 (shY hcb) (plo hN (by omega))) rfl (by decide) ⟨rfl, rfl⟩ (Nat.le_of_ble_eq_true rfl) rfl (y_addCoal (h := CH h a5 _) hN hC hcb ((congrFun (CH_o (by omega)) 4).trans hL) hL7 ?_)
    rw [CH_seti (by omega), CH_seti (by omega), CH_seti (by omega), CH_seti (by omega)]
    exact r_ret d17_60 rfl (by have e9 : pC T n L σ = pS T n 59 (pN T n 1 30 (pS T n 44 (pN T n 0 11 (pL true σ)))) := (by unfold pC; rw [decide_eq_true hL7]); rw [← e9] at ha5 ⊢; exact kk a5 (acH h c L r1 r2) ha5 (JY.ac hT) (fun z => by rw [e9] at z; rw [hr1 (pS_G (pN_G (pS_G z))), hr2 (pS_G z), decide_eq_true hL7]))
  · refine r_aload_n (pc' := 10) d17_9 rfl rfl rfl ?_
    refine r_iconst (v := 3) (pc' := 11) d17_10 rfl (by decide) ?_
    refine r_aload_n (pc' := 12) d17_11 rfl rfl rfl ?_
    refine r_getI (pc' := 15) d17_12 rfl o17 sf4_19_4 sh5 (pl hN rfl) ?_
    refine wp_v QH_g2 ?_
    refine r_call (pc' := 18) [vR (some 5), vI _, vI _] [] d17_15 rfl o17 st4_53_4 (rcv1 sh5 (pl hN rfl)) rfl (by decide) ⟨rfl, rfl⟩ (Nat.le_of_ble_eq_true rfl) rfl (c_failC (num := 3) (p := a) hN (by decide) ?_)
    exact r_ret d17_18 rfl (by have hL7 : ¬ L < 8 := fun z => c6 (nI_lt (a := L) (b := 8) z (by decide)); rw [pX_at hG ha, ← pC_8 (T := T) (n := n) hL7]; exact kk a h (by rw [pC_8 hL7]; exact ⟨ha.1, fun z => absurd (show (3 : Nat) = 0 from z) (by decide)⟩) (JY.rf hT) (fun z => absurd (pC_lt z) hL7))
theorem c_readEater {d : Nat} {h : Hp} {Q : Option AV → Hp → Prop} {n a : Nat} {σ : Nat × Nat} {T : Nat → Int32} {c e : Nat} (hN : hn h = 65) (hC : RC h) (hn0 : hi h 5 1 = nI n) (hn1 : n ≤ 160) (e6 : hi h 6 = T) (hcb : c = 17 ∨ c = 31) (hT : KT h c) (ha : aok n a σ) (hG : σ.2 = 0) (hz : zB T n σ.1 = 101) (hL : hi h c 10 = nI e) (hL8 : e ≤ 4) (kk : ∀ a9 Y, aok n a9 (pE T n e σ) → JY h Y c → ((pE T n e σ).2 = 0 → Y = aeH h c e (srt (zB T n (pL (decide (e < 4)) σ).1)) (zV T n (pK T n (pL (decide (e < 4)) σ)).1)) → Q none (CH Y a9 (pE T n e σ))) : Spec (d + 2) 19 [vR (some 5), vR (some c)] (CH h a σ) Q := by
  refine spec_intro (by decide +kernel) rfl (Nat.le_of_ble_eq_true rfl) ?_
  refine r_aload_n (pc' := 1) d19_0 rfl rfl rfl ?_
  refine r_getI (pc' := 4) d19_1 rfl o19 sf4_91_10 (shY hcb) (plo hN (by omega)) ?_
  refine wp_v ((congrFun (CH_o (by omega)) 10).trans hL) ?_
  refine r_iconst (v := 4) (pc' := 5) d19_4 rfl (by decide) ?_
  refine r_icmp_lt 18 (pc' := 8) d19_5 rfl rfl (fun c5 => ?_) (fun c5 => ?_)
  · have hL7 : e < 4 := (nI_ltI (a := e) (b := 4) (by omega) (by decide)).mp c5
    refine r_aload_n (pc' := 19) d19_18 rfl rfl rfl ?_
    refine r_bipush (v := 101) (pc' := 21) d19_19 rfl (by decide) ?_
    refine r_call (pc' := 24) [vR (some 5), vI _] [] d19_21 rfl o19 st4_57_4 (rcv1 sh5 (pl hN rfl)) rfl (by decide) ⟨rfl, rfl⟩ (Nat.le_of_ble_eq_true rfl) rfl (c_readSignT hN hC hn0 hn1 e6 ha (by decide) (fun a1 ha1 => ?_))
    rw [pS_p hG hz] at ha1 ⊢
    refine r_aload_n (pc' := 25) d19_24 rfl rfl rfl ?_
    refine r_call (pc' := 28) [vR (some 5)] [] d19_25 rfl o19 st4_81_4 (rcv1 sh5 (pl hN rfl)) rfl (by decide) ⟨rfl, rfl⟩ (Nat.le_of_ble_eq_true rfl) rfl (c_readSortT hN hC hn0 hn1 e6 ha1 (fun a2 r1 ha2 hr1 => ?_))
    refine r_istore_n (pc' := 29) (ls' := [(2, vI _), (0, vR (some 5)), (1, vR (some c))]) d19_28 rfl rfl (by decide) rfl ?_
    refine r_aload_n (pc' := 30) d19_29 rfl rfl rfl ?_
    refine r_iconst (v := 0) (pc' := 31) d19_30 rfl (by decide) ?_
    refine r_bipush (v := 60) (pc' := 33) d19_31 rfl (by decide) ?_
    refine r_call (pc' := 36) [vR (some 5), vI _, vI _] [] d19_33 rfl o19 st4_61_4 (rcv1 sh5 (pl hN rfl)) rfl (by decide) ⟨rfl, rfl⟩ (Nat.le_of_ble_eq_true rfl) rfl (c_readNumberT hN hC hn0 hn1 e6 ha2 (fun a3 r2 ha3 hr2 => ?_))
    refine r_istore_n (pc' := 37) (ls' := [(3, vI _), (2, vI _), (0, vR (some 5)), (1, vR (some c))]) d19_36 rfl rfl (by decide) rfl ?_
    refine r_aload_n (pc' := 38) d19_37 rfl rfl rfl ?_
    refine r_bipush (v := 59) (pc' := 40) d19_38 rfl (by decide) ?_
    refine r_call (pc' := 43) [vR (some 5), vI _] [] d19_40 rfl o19 st4_57_4 (rcv1 sh5 (pl hN rfl)) rfl (by decide) ⟨rfl, rfl⟩ (Nat.le_of_ble_eq_true rfl) rfl (c_readSignT hN hC hn0 hn1 e6 ha3 (by decide) (fun a4 ha4 => ?_))
    refine r_aload_n (pc' := 44) d19_43 rfl rfl rfl ?_
    refine r_iload_n (pc' := 45) d19_44 rfl rfl rfl ?_
    refine r_iload_n (pc' := 46) d19_45 rfl rfl rfl ?_
    refine r_call (pc' := 49) [vR (some c), vI _, vI _] [] d19_46 rfl o19 st4_94_10 (rcv1 (shY hcb) (plo hN (by omega))) rfl (by decide) ⟨rfl, rfl⟩ (Nat.le_of_ble_eq_true rfl) rfl (y_addEater (h := CH h a4 _) hN hC hcb ((congrFun (CH_o (by omega)) 10).trans hL) hL7 ?_)
    rw [CH_seti (by omega), CH_seti (by omega), CH_seti (by omega), CH_seti (by omega)]
    exact r_ret d19_49 rfl (by have e9 : pE T n e σ = pS T n 59 (pN T n 0 60 (pK T n (pL true σ))) := (by unfold pE; rw [decide_eq_true hL7]); rw [← e9] at ha4 ⊢; exact kk a4 (aeH h c e r1 r2) ha4 (JY.ae hT) (fun z => by rw [e9] at z; rw [hr1 (pN_G (pS_G z)), hr2 (pS_G z), decide_eq_true hL7]))
  · refine r_aload_n (pc' := 9) d19_8 rfl rfl rfl ?_
    refine r_iconst (v := 3) (pc' := 10) d19_9 rfl (by decide) ?_
    refine r_aload_n (pc' := 11) d19_10 rfl rfl rfl ?_
    refine r_getI (pc' := 14) d19_11 rfl o19 sf4_19_4 sh5 (pl hN rfl) ?_
    refine wp_v QH_g2 ?_
    refine r_call (pc' := 17) [vR (some 5), vI _, vI _] [] d19_14 rfl o19 st4_53_4 (rcv1 sh5 (pl hN rfl)) rfl (by decide) ⟨rfl, rfl⟩ (Nat.le_of_ble_eq_true rfl) rfl (c_failC (num := 3) (p := a) hN (by decide) ?_)
    exact r_ret d19_17 rfl (by have hL7 : ¬ e < 4 := fun z => c5 (nI_lt (a := e) (b := 4) z (by decide)); rw [pX_at hG ha, ← pE_4 (T := T) (n := n) hL7]; exact kk a h (by rw [pE_4 hL7]; exact ⟨ha.1, fun z => absurd (show (3 : Nat) = 0 from z) (by decide)⟩) (JY.rf hT) (fun z => absurd (pE_lt z) hL7))
theorem told_iff {f s : Nat → Int32} {m : Nat} {cell : Int32} (hf : ∀ i, i < m → f i = s (45 + i)) : tdL s cell m = true ↔ ∃ i, lyF f cell m = some i := by
  have z : ∀ k, k ≤ m → (tdL s cell k = true ↔ ∃ i, lyF f cell k = some i) := by
    intro k
    induction k with
    | zero => intro _; exact ⟨fun h => absurd (show false = true from h) (by decide), fun ⟨i, h⟩ => by cases h⟩
    | succ k ih =>
      intro hk
      have ih := ih (by omega)
      unfold tdL lyF
      rw [Bool.or_eq_true, ih, decide_eq_true_eq, ← hf k (by omega)]
      constructor
      · rintro (⟨i, h⟩ | h)
        · exact ⟨i, by rw [h]⟩
        · cases hq : lyF f cell k with
          | none => exact ⟨k, by dsimp only; rw [if_pos h]⟩
          | some i => exact ⟨i, rfl⟩
      · rintro ⟨i, h⟩
        cases hq : lyF f cell k with
        | none =>
          rw [hq] at h
          dsimp only at h
          by_cases y : f k = cell
          · exact Or.inr y
          · rw [if_neg y] at h; cases h
        | some j => exact Or.inl ⟨j, rfl⟩
  exact z m (Nat.le_refl _)
theorem pNP_n {T : Nat → Int32} {n m : Nat} {s : Nat → Int32} {σ : Nat × Nat} (h : ¬ (pN T n 0 12 σ).2 = 0 ∨ ¬ tdI s m (zV T n σ.1)) : pN T n 0 12 σ = pNP T n (thP T n m s σ.1) σ := by
  unfold pN pNP
  by_cases hG : σ.2 = 0
  · rw [if_pos hG, if_pos hG]
    by_cases hd : 1 ≤ zD T n σ.1 ∧ zD T n σ.1 ≤ 2
    · rw [if_pos hd, if_pos hd]
      by_cases hv : 0 ≤ zV T n σ.1 ∧ zV T n σ.1 ≤ 12
      · rw [if_pos hv]
        rcases h with h | h
        · unfold pN at h
          rw [if_pos hG, if_pos hd, if_pos hv] at h
          exact absurd rfl h
        · rw [if_pos ⟨hv, h⟩]
      · rw [if_neg hv, if_neg (fun z => hv z.1)]
    · rw [if_neg hd, if_neg hd]
  · rw [if_neg hG, if_neg hG]
theorem pNP_t {T : Nat → Int32} {n m : Nat} {s : Nat → Int32} {σ : Nat × Nat} (h0 : (pN T n 0 12 σ).2 = 0) (h : tdI s m (zV T n σ.1)) : pX σ.1 2 (pN T n 0 12 σ) = pNP T n (thP T n m s σ.1) σ := by
  have hG := pN_G h0
  unfold pX
  rw [if_pos h0]
  unfold pNP
  rw [if_pos hG]
  unfold pN at h0
  rw [if_pos hG] at h0
  by_cases hd : 1 ≤ zD T n σ.1 ∧ zD T n σ.1 ≤ 2
  · rw [if_pos hd, if_neg (fun z => z.2 h)]
  · rw [if_neg hd] at h0; exact absurd (show (1 : Nat) = 0 from h0) (by decide)
theorem pN_rg {T : Nat → Int32} {n : Nat} {lo hi : Int32} {σ : Nat × Nat} (h0 : (pN T n lo hi σ).2 = 0) : lo ≤ zV T n σ.1 ∧ zV T n σ.1 ≤ hi := by
  have hG := pN_G h0
  unfold pN at h0
  rw [if_pos hG] at h0
  by_cases hd : 1 ≤ zD T n σ.1 ∧ zD T n σ.1 ≤ 2
  · rw [if_pos hd] at h0
    by_cases hv : lo ≤ zV T n σ.1 ∧ zV T n σ.1 ≤ hi
    · exact hv
    · rw [if_neg hv] at h0; exact absurd (show (2 : Nat) = 0 from h0) (by decide)
  · rw [if_neg hd] at h0; exact absurd (show (1 : Nat) = 0 from h0) (by decide)
theorem le11 {v : Int32} (h : 0 ≤ v ∧ v ≤ 12) (h2 : ¬ v = 12) : 0 ≤ v ∧ v ≤ 11 := by
  obtain ⟨j, hj, rfl⟩ := nat2 (n := 12) h (by decide)
  have : j ≠ 12 := fun z => h2 (by rw [z]; rfl)
  exact ⟨nI_pos' (by omega), nI_le (a := j) (b := 11) (by omega) (by decide)⟩
theorem pNP_G2 {T : Nat → Int32} {n m : Nat} {s : Nat → Int32} {σ : Nat × Nat} (h : (pNP T n (thP T n m s σ.1) σ).2 = 0) : (pN T n 0 12 σ).2 = 0 := by
  have hG := pNP_G h
  unfold pNP at h
  rw [if_pos hG] at h
  unfold pN
  rw [if_pos hG]
  by_cases hd : 1 ≤ zD T n σ.1 ∧ zD T n σ.1 ≤ 2
  · rw [if_pos hd] at h ⊢
    by_cases hv : thP T n m s σ.1
    · rw [if_pos hv.1]
    · rw [if_neg hv] at h; exact absurd (show (2 : Nat) = 0 from h) (by decide)
  · rw [if_neg hd] at h; exact absurd (show (1 : Nat) = 0 from h) (by decide)
theorem c_readThing {d : Nat} {h : Hp} {Q : Option AV → Hp → Prop} {n a : Nat} {σ : Nat × Nat} {T : Nat → Int32} {c L m e : Nat} {s : Nat → Int32} (hN : hn h = 65) (hC : RC h) (hn0 : hi h 5 1 = nI n) (hn1 : n ≤ 160) (e6 : hi h 6 = T) (hcb : c = 17 ∨ c = 31) (hT : KT h c) (ha : aok n a σ) (hG : σ.2 = 0) (hz : ¬ srt (zB T n σ.1) = -1000000) (hm : hi h c 8 = nI m) (hm6 : m ≤ 6) (hL : hi h c 4 = nI L) (hL8 : L ≤ 8) (he : hi h c 10 = nI e) (he4 : e ≤ 4) (hpl : ∀ i, i < m → hi h (c + 8 + i) 2 = s (45 + i)) (kk : ∀ a9 Y, aok n a9 (pT T n m s σ) → JY h Y c → ((pT T n m s σ).2 = 0 → Y = atH h c m (srt (zB T n σ.1)) (zV T n (pL (decide (m < 6)) σ).1)) → Q none (CH Y a9 (pT T n m s σ))) : Spec (d + 2) 18 [vR (some 5), vR (some c)] (CH h a σ) Q := by
  refine spec_intro (by decide +kernel) rfl (Nat.le_of_ble_eq_true rfl) ?_
  refine r_aload_n (pc' := 1) d18_0 rfl rfl rfl ?_
  refine r_getI (pc' := 4) d18_1 rfl o18 sf4_78_10 (shY hcb) (plo hN (by omega)) ?_
  refine wp_v ((congrFun (CH_o (by omega)) 8).trans hm) ?_
  refine r_bipush (v := 6) (pc' := 6) d18_4 rfl (by decide) ?_
  refine r_icmp_lt 19 (pc' := 9) d18_6 rfl rfl (fun c6 => ?_) (fun c6 => ?_)
  · have hm7 : m < 6 := (nI_ltI (a := m) (b := 6) (by omega) (by decide)).mp c6
    refine r_aload_n (pc' := 20) d18_19 rfl rfl rfl ?_
    refine r_call (pc' := 23) [vR (some 5)] [] d18_20 rfl o18 st4_81_4 (rcv1 sh5 (pl hN rfl)) rfl (by decide) ⟨rfl, rfl⟩ (Nat.le_of_ble_eq_true rfl) rfl (c_readSortT hN hC hn0 hn1 e6 ha (fun a1 r1 ha1 hr1 => ?_))
    refine r_istore_n (pc' := 24) (ls' := [(2, vI _), (0, vR (some 5)), (1, vR (some c))]) d18_23 rfl rfl (by decide) rfl ?_
    rw [pK_p hG hz] at ha1 hr1 ⊢
    have e1 : a1 = (pL true σ).1 := ha1.2 rfl
    have hs1 := hr1 rfl
    refine r_aload_n (pc' := 25) d18_24 rfl rfl rfl ?_
    refine r_getI (pc' := 28) d18_25 rfl o18 sf4_19_4 sh5 (pl hN rfl) ?_
    refine wp_v QH_g2 ?_
    refine r_istore_n (pc' := 29) (ls' := [(3, vI _), (2, vI _), (0, vR (some 5)), (1, vR (some c))]) d18_28 rfl rfl (by decide) rfl ?_
    refine r_aload_n (pc' := 30) d18_29 rfl rfl rfl ?_
    refine r_iconst (v := 0) (pc' := 31) d18_30 rfl (by decide) ?_
    refine r_bipush (v := 12) (pc' := 33) d18_31 rfl (by decide) ?_
    refine r_call (pc' := 36) [vR (some 5), vI _, vI _] [] d18_33 rfl o18 st4_61_4 (rcv1 sh5 (pl hN rfl)) rfl (by decide) ⟨rfl, rfl⟩ (Nat.le_of_ble_eq_true rfl) rfl (c_readNumberT hN hC hn0 hn1 e6 ha1 (fun a2 r2 ha2 hr2 => ?_))
    refine r_istore (pc' := 38) (ls' := [(4, vI _), (3, vI _), (2, vI _), (0, vR (some 5)), (1, vR (some c))]) d18_36 rfl (by decide) rfl ?_
    refine r_aload_n (pc' := 39) d18_38 rfl rfl rfl ?_
    refine r_getI (pc' := 42) d18_39 rfl o18 sf4_22_4 sh5 (pl hN rfl) ?_
    refine wp_v QH_g3 ?_
    refine r_if_ne 60 (pc' := 45) d18_42 rfl rfl (fun c42 => ?_) (fun c42 => ?_)
    · have hq : ¬ (pN T n 0 12 (pL true σ)).2 = 0 := fun z => c42 (by rw [z]; rfl)
      have eP : (pN T n 0 12 (pL true σ)) = pNP T n (thP T n m s (pL true σ).1) (pL true σ) := pNP_n (Or.inl hq)
      rw [eP] at ha2 ⊢
      refine r_aload_n (pc' := 61) d18_60 rfl rfl rfl ?_
      refine r_bipush (v := 59) (pc' := 63) d18_61 rfl (by decide) ?_
      refine r_call (pc' := 66) [vR (some 5), vI _] [] d18_63 rfl o18 st4_57_4 (rcv1 sh5 (pl hN rfl)) rfl (by decide) ⟨rfl, rfl⟩ (Nat.le_of_ble_eq_true rfl) rfl (c_readSignT hN hC hn0 hn1 e6 ha2 (by decide) (fun a5 ha5 => ?_))
      refine r_aload_n (pc' := 67) d18_66 rfl rfl rfl ?_
      refine r_iload_n (pc' := 68) d18_67 rfl rfl rfl ?_
      refine r_iload (pc' := 70) d18_68 rfl rfl ?_
      refine r_call (pc' := 73) [vR (some c), vI _, vI _] [] d18_70 rfl o18 st4_88_10 (rcv1 (shY hcb) (plo hN (by omega))) rfl (by decide) ⟨rfl, rfl⟩ (Nat.le_of_ble_eq_true rfl) rfl (y_addThing (h := CH h a5 _) hN hC hcb ((congrFun (CH_o (by omega)) 8).trans hm) hm7 ?_)
      rw [CH_setr, CH_o (by omega), CH_setw (by omega), CH_seti (by omega)]
      exact r_ret d18_73 rfl (by have e9 : pT T n m s σ = pS T n 59 (pNP T n (thP T n m s (pL true σ).1) (pL true σ)) := (by unfold pT; rw [decide_eq_true hm7]); rw [← e9] at ha5 ⊢; exact kk a5 (atH h c m r1 r2) ha5 (JY.at hT hm7) (fun z => by rw [e9] at z; have hq9 := pNP_G2 (pS_G z); rw [hs1, hr2 hq9, decide_eq_true hm7]))
    · refine r_aload_n (pc' := 46) d18_45 rfl rfl rfl ?_
      refine r_iload (pc' := 48) d18_46 rfl rfl ?_
      refine r_call (pc' := 51) [vR (some c), vI _] [] d18_48 rfl o18 st4_84_10 (rcv1 (shY hcb) (plo hN (by omega))) rfl (by decide) ⟨rfl, rfl⟩ (Nat.le_of_ble_eq_true rfl) rfl (y_lyingIn (h := CH h a2 _) (m := m) (L := L) (e := e) hN hC hcb ⟨(congrFun (CH_o (by omega)) 8).trans hm, hm6, (congrFun (CH_o (by omega)) 4).trans hL, hL8, (congrFun (CH_o (by omega)) 10).trans he, he4⟩ (fun hno => ?_) (fun i hi0 hin hly => ?_))
      · refine r_nulN 60 (pc' := 54) d18_51 rfl rfl ?_
        have hq : (pN T n 0 12 (pL true σ)).2 = 0 := by by_cases z : (pN T n 0 12 (pL true σ)).2 = 0; (exact z); (rw [if_neg z] at c42; exact absurd c42 (by decide))
        have eP : (pN T n 0 12 (pL true σ)) = pNP T n (thP T n m s (pL true σ).1) (pL true σ) := pNP_n (Or.inr (fun z => by have hv := pN_rg hq; rw [← hr2 hq] at z hv; obtain ⟨i, hi1⟩ := (told_iff (f := plF (CH h a2 (pN T n 0 12 (pL true σ))) c) (fun i hi0 => by show hi (CH h a2 (pN T n 0 12 (pL true σ))) (c + 8 + i) 2 = _; rw [CH_o (by omega)]; exact hpl i hi0)).mp z.1; rw [hno (le11 hv z.2)] at hi1; cases hi1))
        rw [eP] at ha2 ⊢
        refine r_aload_n (pc' := 61) d18_60 rfl rfl rfl ?_
        refine r_bipush (v := 59) (pc' := 63) d18_61 rfl (by decide) ?_
        refine r_call (pc' := 66) [vR (some 5), vI _] [] d18_63 rfl o18 st4_57_4 (rcv1 sh5 (pl hN rfl)) rfl (by decide) ⟨rfl, rfl⟩ (Nat.le_of_ble_eq_true rfl) rfl (c_readSignT hN hC hn0 hn1 e6 ha2 (by decide) (fun a5 ha5 => ?_))
        refine r_aload_n (pc' := 67) d18_66 rfl rfl rfl ?_
        refine r_iload_n (pc' := 68) d18_67 rfl rfl rfl ?_
        refine r_iload (pc' := 70) d18_68 rfl rfl ?_
        refine r_call (pc' := 73) [vR (some c), vI _, vI _] [] d18_70 rfl o18 st4_88_10 (rcv1 (shY hcb) (plo hN (by omega))) rfl (by decide) ⟨rfl, rfl⟩ (Nat.le_of_ble_eq_true rfl) rfl (y_addThing (h := CH h a5 _) hN hC hcb ((congrFun (CH_o (by omega)) 8).trans hm) hm7 ?_)
        rw [CH_setr, CH_o (by omega), CH_setw (by omega), CH_seti (by omega)]
        exact r_ret d18_73 rfl (by have e9 : pT T n m s σ = pS T n 59 (pNP T n (thP T n m s (pL true σ).1) (pL true σ)) := (by unfold pT; rw [decide_eq_true hm7]); rw [← e9] at ha5 ⊢; exact kk a5 (atH h c m r1 r2) ha5 (JY.at hT hm7) (fun z => by rw [e9] at z; have hq9 := pNP_G2 (pS_G z); rw [hs1, hr2 hq9, decide_eq_true hm7]))
      · refine r_nulS 60 (pc' := 54) d18_51 rfl rfl ?_
        refine r_aload_n (pc' := 55) d18_54 rfl rfl rfl ?_
        refine r_iconst (v := 2) (pc' := 56) d18_55 rfl (by decide) ?_
        refine r_iload_n (pc' := 57) d18_56 rfl rfl rfl ?_
        refine r_call (pc' := 60) [vR (some 5), vI _, vI _] [] d18_57 rfl o18 st4_53_4 (rcv1 sh5 (pl hN rfl)) rfl (by decide) ⟨rfl, rfl⟩ (Nat.le_of_ble_eq_true rfl) rfl (c_failC (num := 2) (p := a1) hN (by decide) ?_)
        have hq : (pN T n 0 12 (pL true σ)).2 = 0 := by by_cases z : (pN T n 0 12 (pL true σ)).2 = 0; (exact z); (rw [if_neg z] at c42; exact absurd c42 (by decide))
        have eP : pX a1 2 (pN T n 0 12 (pL true σ)) = pNP T n (thP T n m s (pL true σ).1) (pL true σ) := by rw [e1]; exact pNP_t hq (by rw [← hr2 hq]; exact ⟨(told_iff (f := plF (CH h a2 (pN T n 0 12 (pL true σ))) c) (fun i hi0 => by show hi (CH h a2 (pN T n 0 12 (pL true σ))) (c + 8 + i) 2 = _; rw [CH_o (by omega)]; exact hpl i hi0)).mpr ⟨_, hly⟩, fun z => by rw [z] at hin; exact absurd hin.2 (by decide)⟩)
        have ha2 : aok n a2 (pX a1 2 (pN T n 0 12 (pL true σ))) := ⟨ha2.1, aok_X ha2.1 (by decide)⟩
        rw [eP] at ha2 ⊢
        refine r_aload_n (pc' := 61) d18_60 rfl rfl rfl ?_
        refine r_bipush (v := 59) (pc' := 63) d18_61 rfl (by decide) ?_
        refine r_call (pc' := 66) [vR (some 5), vI _] [] d18_63 rfl o18 st4_57_4 (rcv1 sh5 (pl hN rfl)) rfl (by decide) ⟨rfl, rfl⟩ (Nat.le_of_ble_eq_true rfl) rfl (c_readSignT hN hC hn0 hn1 e6 ha2 (by decide) (fun a5 ha5 => ?_))
        refine r_aload_n (pc' := 67) d18_66 rfl rfl rfl ?_
        refine r_iload_n (pc' := 68) d18_67 rfl rfl rfl ?_
        refine r_iload (pc' := 70) d18_68 rfl rfl ?_
        refine r_call (pc' := 73) [vR (some c), vI _, vI _] [] d18_70 rfl o18 st4_88_10 (rcv1 (shY hcb) (plo hN (by omega))) rfl (by decide) ⟨rfl, rfl⟩ (Nat.le_of_ble_eq_true rfl) rfl (y_addThing (h := CH h a5 _) hN hC hcb ((congrFun (CH_o (by omega)) 8).trans hm) hm7 ?_)
        rw [CH_setr, CH_o (by omega), CH_setw (by omega), CH_seti (by omega)]
        exact r_ret d18_73 rfl (by have e9 : pT T n m s σ = pS T n 59 (pNP T n (thP T n m s (pL true σ).1) (pL true σ)) := (by unfold pT; rw [decide_eq_true hm7]); rw [← e9] at ha5 ⊢; exact kk a5 (atH h c m r1 r2) ha5 (JY.at hT hm7) (fun z => by rw [e9] at z; have hq9 := pNP_G2 (pS_G z); rw [hs1, hr2 hq9, decide_eq_true hm7]))
  · refine r_aload_n (pc' := 10) d18_9 rfl rfl rfl ?_
    refine r_iconst (v := 3) (pc' := 11) d18_10 rfl (by decide) ?_
    refine r_aload_n (pc' := 12) d18_11 rfl rfl rfl ?_
    refine r_getI (pc' := 15) d18_12 rfl o18 sf4_19_4 sh5 (pl hN rfl) ?_
    refine wp_v QH_g2 ?_
    refine r_call (pc' := 18) [vR (some 5), vI _, vI _] [] d18_15 rfl o18 st4_53_4 (rcv1 sh5 (pl hN rfl)) rfl (by decide) ⟨rfl, rfl⟩ (Nat.le_of_ble_eq_true rfl) rfl (c_failC (num := 3) (p := a) hN (by decide) ?_)
    exact r_ret d18_18 rfl (by have hL7 : ¬ m < 6 := fun z => c6 (nI_lt (a := m) (b := 6) z (by decide)); rw [pX_at hG ha, ← pT_6 (T := T) (n := n) (s := s) hL7]; exact kk a h (by rw [pT_6 hL7]; exact ⟨ha.1, fun z => absurd (show (3 : Nat) = 0 from z) (by decide)⟩) (JY.rf hT) (fun z => absurd (pT_lt z) hL7))
