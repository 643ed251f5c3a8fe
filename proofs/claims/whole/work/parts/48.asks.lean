/-! the reference: asks, images (printed by wip/whole/m48.py) -/
def trA (h : Hp) (a : Nat) : List Nat → Hp
  | [] => h
  | b :: t => trA (seti (seti h 64 a (nI b)) 50 23 (nI (a + 1))) (a + 1) t
def mkL (so : Int32) : List Nat := if so = 2 then [24, 21, 20] else if so = 3 then [22, 21, 20] else [21, 20]
def mkV (s : Nat → Int32) (x : Nat) : Int32 := if s (5 + x) = 2 then 2 * (nI x + belowI s x) else if s (5 + x) = 3 then (nI x + belowI s x) - 1000 else nI x + belowI s x
def chL (so : Int32) : List Nat := if so = 5 then [14, 13, 10] else [13, 10]
def chV (s : Nat → Int32) (x : Nat) : Int32 := if s (5 + x) = 5 then 2 * (s (51 + x) - 100) else s (51 + x) - 100
def asL (so what : Int32) : List Nat := if what = 0 then (if 4 ≤ so ∧ so ≤ 5 then chL so else if so = 2 then 12 :: 11 :: 10 :: mkL so else 11 :: 10 :: mkL so) else (if 4 ≤ so ∧ so ≤ 5 then 23 :: 20 :: chL so else mkL so)
def asV (s : Nat → Int32) (x : Nat) (what : Int32) : Int32 := if what = 0 then (if 4 ≤ s (5 + x) ∧ s (5 + x) ≤ 5 then chV s x else if s (5 + x) = 2 then -(s (51 + x) + mkV s x) else s (51 + x) + mkV s x) else (if 4 ≤ s (5 + x) ∧ s (5 + x) ≤ 5 then nI x - chV s x else mkV s x)
theorem s_begins {d : Nat} {h : Hp} {Q : Option AV → Hp → Prop} {a b : Nat} (hN : hn h = 65) (hM : RM h) (ha : hi h 50 23 = nI a) (ha16 : a < 16) (k : Q none (trA h a [b])) : Spec d 234 [vR (some 50), vI (nI b)] h Q := by
  refine spec_intro (by decide +kernel) rfl (Nat.le_of_ble_eq_true rfl) ?_
  refine r_aload_n (pc' := 1) d234_0 rfl rfl rfl ?_
  refine r_getI (pc' := 4) d234_1 rfl o234 sf12_261_12 sh50 (pl hN rfl) ?_
  refine wp_v ha ?_
  refine r_bipush (v := 16) (pc' := 6) d234_4 rfl (by decide) ?_
  refine r_icmp_ge 29 (pc' := 9) d234_6 rfl rfl (fun c6 => absurd c6 (nI_ge (a := a) (b := 16) (by omega) (by decide))) (fun c6 => ?_)
  refine r_aload_n (pc' := 10) d234_9 rfl rfl rfl ?_
  refine r_getS (pc' := 13) d234_10 rfl o234 sf12_50_12 sh50 (pl hN rfl) (rfm22 hM) ?_
  refine r_aload_n (pc' := 14) d234_13 rfl rfl rfl ?_
  refine r_getI (pc' := 17) d234_14 rfl o234 sf12_261_12 sh50 (pl hN rfl) ?_
  refine wp_v ha ?_
  refine r_iload_n (pc' := 18) d234_17 rfl rfl rfl ?_
  refine r_iastN (pc' := 19) (j := a) d234_18 rfl sh64 (pl hN rfl) rfl (by omega) (by decide) ?_
  refine r_aload_n (pc' := 20) d234_19 rfl rfl rfl ?_
  refine r_dupR (pc' := 21) d234_20 rfl ?_
  refine r_getI (pc' := 24) d234_21 rfl o234 sf12_261_12 sh50 (pl hN rfl) ?_
  refine wp_v ha ?_
  refine r_iconst (v := 1) (pc' := 25) d234_24 rfl (by decide) ?_
  refine r_iadd (pc' := 26) d234_25 rfl ?_
  refine r_putI (pc' := 29) d234_26 rfl o234 sp12_261_12 sh50 (fun w => absurd w (by decide)) (Or.inl rfl) (pl hN rfl) ?_
  exact r_ret d234_29 rfl (qh (congrArg (seti _ 50 23) (nI_1 a).symm) k)
theorem s_lentSize {d : Nat} {h : Hp} {Q : Option AV → Hp → Prop} {a x : Nat} (hN : hn h = 65) (hM : RM h) (ha : hi h 50 23 = nI a) (ha9 : a ≤ 9) (hx : x < 6) (k : Q (some (vI (hi h 51 (51 + x)))) (trA h a [10])) : Spec (d + 1) 235 [vR (some 50), vI (nI x)] h Q := by
  refine spec_intro (by decide +kernel) rfl (Nat.le_of_ble_eq_true rfl) ?_
  refine r_aload_n (pc' := 1) d235_0 rfl rfl rfl ?_
  refine r_bipush (v := 10) (pc' := 3) d235_1 rfl (by decide) ?_
  refine r_call (pc' := 6) [vR (some 50), vI _] [] d235_3 rfl o235 st12_264_12 (rcv1 sh50 (pl hN rfl)) rfl (by decide) ⟨rfl, rfl⟩ (Nat.le_of_ble_eq_true rfl) rfl (s_begins (a := a) (b := 10) hN hM ha (by omega) ?_)
  refine r_aload_n (pc' := 7) d235_6 rfl rfl rfl ?_
  refine r_getS (pc' := 10) d235_7 rfl o235 sf12_7_12 sh50 (pl hN rfl) (rfm0 hM) ?_
  refine r_bipush (v := 51) (pc' := 12) d235_10 rfl (by decide) ?_
  refine r_iload_n (pc' := 13) d235_12 rfl rfl rfl ?_
  refine r_iadd (pc' := 14) d235_13 rfl ?_
  refine r_ialdN (pc' := 15) (j := (51 + x)) d235_14 rfl sh51 (pl hN rfl) (by simp only [lit, nI_add, pk_mul]) (by omega) (by decide) ?_
  exact r_iretI d235_15 rfl k
theorem s_lentMark {d : Nat} {h : Hp} {Q : Option AV → Hp → Prop} {a x : Nat} (hN : hn h = 65) (hM : RM h) (ha : hi h 50 23 = nI a) (ha9 : a ≤ 14) (hx : x < 6) (k : Q (some (vI (nI x))) (trA h a [20])) : Spec (d + 1) 236 [vR (some 50), vI (nI x)] h Q := by
  refine spec_intro (by decide +kernel) rfl (Nat.le_of_ble_eq_true rfl) ?_
  refine r_aload_n (pc' := 1) d236_0 rfl rfl rfl ?_
  refine r_bipush (v := 20) (pc' := 3) d236_1 rfl (by decide) ?_
  refine r_call (pc' := 6) [vR (some 50), vI _] [] d236_3 rfl o236 st12_264_12 (rcv1 sh50 (pl hN rfl)) rfl (by decide) ⟨rfl, rfl⟩ (Nat.le_of_ble_eq_true rfl) rfl (s_begins (a := a) (b := 20) hN hM ha (by omega) ?_)
  refine r_iload_n (pc' := 7) d236_6 rfl rfl rfl ?_
  exact r_iretI d236_7 rfl k
theorem s_sausageMark {d : Nat} {h : Hp} {Q : Option AV → Hp → Prop} {a x : Nat} (hN : hn h = 65) (hM : RM h) (ha : hi h 50 23 = nI a) (ha9 : a ≤ 13) (hx : x < 6) (k : Q (some (vI (nI x + belowI (hi h 51) x))) (trA h a [21, 20])) : Spec (d + 2) 237 [vR (some 50), vI (nI x)] h Q := by
  refine spec_intro (by decide +kernel) rfl (Nat.le_of_ble_eq_true rfl) ?_
  refine r_aload_n (pc' := 1) d237_0 rfl rfl rfl ?_
  refine r_bipush (v := 21) (pc' := 3) d237_1 rfl (by decide) ?_
  refine r_call (pc' := 6) [vR (some 50), vI _] [] d237_3 rfl o237 st12_264_12 (rcv1 sh50 (pl hN rfl)) rfl (by decide) ⟨rfl, rfl⟩ (Nat.le_of_ble_eq_true rfl) rfl (s_begins (a := a) (b := 21) hN hM ha (by omega) ?_)
  refine r_aload_n (pc' := 7) d237_6 rfl rfl rfl ?_
  refine r_iload_n (pc' := 8) d237_7 rfl rfl rfl ?_
  refine r_call (pc' := 11) [vR (some 50), vI _] [] d237_8 rfl o237 st12_267_12 (rcv1 sh50 (pl hN rfl)) rfl (by decide) ⟨rfl, rfl⟩ (Nat.le_of_ble_eq_true rfl) rfl (s_lentMark (a := a + 1) hN hM rfl (by omega) hx ?_)
  refine r_aload_n (pc' := 12) d237_11 rfl rfl rfl ?_
  refine r_iload_n (pc' := 13) d237_12 rfl rfl rfl ?_
  refine r_call (pc' := 16) [vR (some 50), vI _] [vI _] d237_13 rfl o237 st12_160_12 (rcv1 sh50 (pl hN rfl)) rfl (by decide) ⟨rfl, rfl⟩ (Nat.le_of_ble_eq_true rfl) rfl (s_below hN hM hx ?_)
  refine r_iadd (pc' := 17) d237_16 rfl ?_
  exact r_iretI d237_17 rfl k
theorem s_markOfSausages {d : Nat} {h : Hp} {Q : Option AV → Hp → Prop} {a x : Nat} (hN : hn h = 65) (hM : RM h) (ha : hi h 50 23 = nI a) (ha9 : a ≤ 12) (hx : x < 6) (k : Q (some (vI (mkV (hi h 51) x))) (trA h a (mkL (hi h 51 (5 + x))))) : Spec (d + 3) 238 [vR (some 50), vI (nI x)] h Q := by
  refine spec_intro (by decide +kernel) rfl (Nat.le_of_ble_eq_true rfl) ?_
  refine r_aload_n (pc' := 1) d238_0 rfl rfl rfl ?_
  refine r_getS (pc' := 4) d238_1 rfl o238 sf12_7_12 sh50 (pl hN rfl) (rfm0 hM) ?_
  refine r_iconst (v := 5) (pc' := 5) d238_4 rfl (by decide) ?_
  refine r_iload_n (pc' := 6) d238_5 rfl rfl rfl ?_
  refine r_iadd (pc' := 7) d238_6 rfl ?_
  refine r_ialdN (pc' := 8) (j := (5 + x)) d238_7 rfl sh51 (pl hN rfl) (by simp only [lit, nI_add, pk_mul]) (by omega) (by decide) ?_
  refine r_istore_n (pc' := 9) (ls' := [(2, vI _), (0, vR (some 50)), (1, vI _)]) d238_8 rfl rfl (by decide) rfl ?_
  refine r_iload_n (pc' := 10) d238_9 rfl rfl rfl ?_
  refine r_iconst (v := 2) (pc' := 11) d238_10 rfl (by decide) ?_
  refine r_icmp_ne 28 (pc' := 14) d238_11 rfl rfl (fun c11 => ?_) (fun c11 => ?_)
  · refine r_iload_n (pc' := 29) d238_28 rfl rfl rfl ?_
    refine r_iconst (v := 3) (pc' := 30) d238_29 rfl (by decide) ?_
    refine r_icmp_ne 49 (pc' := 33) d238_30 rfl rfl (fun c30 => ?_) (fun c30 => ?_)
    · refine r_aload_n (pc' := 50) d238_49 rfl rfl rfl ?_
      refine r_iload_n (pc' := 51) d238_50 rfl rfl rfl ?_
      refine r_call (pc' := 54) [vR (some 50), vI _] [] d238_51 rfl o238 st12_270_12 (rcv1 sh50 (pl hN rfl)) rfl (by decide) ⟨rfl, rfl⟩ (Nat.le_of_ble_eq_true rfl) rfl (s_sausageMark (a := a) hN hM ha (by omega) hx ?_)
      exact r_iretI d238_54 rfl (by have w := k; rw [mkV, mkL, if_neg c11, if_neg c11, if_neg c30, if_neg c30] at w; exact w)
    · refine r_aload_n (pc' := 34) d238_33 rfl rfl rfl ?_
      refine r_bipush (v := 22) (pc' := 36) d238_34 rfl (by decide) ?_
      refine r_call (pc' := 39) [vR (some 50), vI _] [] d238_36 rfl o238 st12_264_12 (rcv1 sh50 (pl hN rfl)) rfl (by decide) ⟨rfl, rfl⟩ (Nat.le_of_ble_eq_true rfl) rfl (s_begins (a := a) (b := 22) hN hM ha (by omega) ?_)
      refine r_aload_n (pc' := 40) d238_39 rfl rfl rfl ?_
      refine r_iload_n (pc' := 41) d238_40 rfl rfl rfl ?_
      refine r_call (pc' := 44) [vR (some 50), vI _] [] d238_41 rfl o238 st12_270_12 (rcv1 sh50 (pl hN rfl)) rfl (by decide) ⟨rfl, rfl⟩ (Nat.le_of_ble_eq_true rfl) rfl (s_sausageMark (a := a + 1) hN hM rfl (by omega) hx ?_)
      refine r_sipush (v := 1000) (pc' := 47) d238_44 rfl (by decide) ?_
      refine r_isub (pc' := 48) d238_47 rfl ?_
      exact r_iretI d238_48 rfl (by have w := k; rw [mkV, mkL, if_neg c11, if_neg c11, if_pos c30, if_pos c30] at w; exact w)
  · refine r_aload_n (pc' := 15) d238_14 rfl rfl rfl ?_
    refine r_bipush (v := 24) (pc' := 17) d238_15 rfl (by decide) ?_
    refine r_call (pc' := 20) [vR (some 50), vI _] [] d238_17 rfl o238 st12_264_12 (rcv1 sh50 (pl hN rfl)) rfl (by decide) ⟨rfl, rfl⟩ (Nat.le_of_ble_eq_true rfl) rfl (s_begins (a := a) (b := 24) hN hM ha (by omega) ?_)
    refine r_iconst (v := 2) (pc' := 21) d238_20 rfl (by decide) ?_
    refine r_aload_n (pc' := 22) d238_21 rfl rfl rfl ?_
    refine r_iload_n (pc' := 23) d238_22 rfl rfl rfl ?_
    refine r_call (pc' := 26) [vR (some 50), vI _] [vI _] d238_23 rfl o238 st12_270_12 (rcv1 sh50 (pl hN rfl)) rfl (by decide) ⟨rfl, rfl⟩ (Nat.le_of_ble_eq_true rfl) rfl (s_sausageMark (a := a + 1) hN hM rfl (by omega) hx ?_)
    refine r_imul (pc' := 27) d238_26 rfl ?_
    exact r_iretI d238_27 rfl (by have w := k; rw [mkV, mkL, if_pos c11, if_pos c11] at w; exact w)
theorem s_sausageSize {d : Nat} {h : Hp} {Q : Option AV → Hp → Prop} {a x : Nat} (hN : hn h = 65) (hM : RM h) (ha : hi h 50 23 = nI a) (ha9 : a ≤ 8) (hx : x < 6) (k : Q (some (vI (hi h 51 (51 + x) + mkV (hi h 51) x))) (trA h a (11 :: 10 :: mkL (hi h 51 (5 + x))))) : Spec (d + 4) 239 [vR (some 50), vI (nI x)] h Q := by
  refine spec_intro (by decide +kernel) rfl (Nat.le_of_ble_eq_true rfl) ?_
  refine r_aload_n (pc' := 1) d239_0 rfl rfl rfl ?_
  refine r_bipush (v := 11) (pc' := 3) d239_1 rfl (by decide) ?_
  refine r_call (pc' := 6) [vR (some 50), vI _] [] d239_3 rfl o239 st12_264_12 (rcv1 sh50 (pl hN rfl)) rfl (by decide) ⟨rfl, rfl⟩ (Nat.le_of_ble_eq_true rfl) rfl (s_begins (a := a) (b := 11) hN hM ha (by omega) ?_)
  refine r_aload_n (pc' := 7) d239_6 rfl rfl rfl ?_
  refine r_iload_n (pc' := 8) d239_7 rfl rfl rfl ?_
  refine r_call (pc' := 11) [vR (some 50), vI _] [] d239_8 rfl o239 st12_273_12 (rcv1 sh50 (pl hN rfl)) rfl (by decide) ⟨rfl, rfl⟩ (Nat.le_of_ble_eq_true rfl) rfl (s_lentSize (a := a + 1) hN hM rfl (by omega) hx ?_)
  refine r_istore_n (pc' := 12) (ls' := [(2, vI _), (0, vR (some 50)), (1, vI _)]) d239_11 rfl rfl (by decide) rfl ?_
  refine r_iload_n (pc' := 13) d239_12 rfl rfl rfl ?_
  refine r_aload_n (pc' := 14) d239_13 rfl rfl rfl ?_
  refine r_iload_n (pc' := 15) d239_14 rfl rfl rfl ?_
  refine r_call (pc' := 18) [vR (some 50), vI _] [vI _] d239_15 rfl o239 st12_276_12 (rcv1 sh50 (pl hN rfl)) rfl (by decide) ⟨rfl, rfl⟩ (Nat.le_of_ble_eq_true rfl) rfl (s_markOfSausages (a := a + 2) hN hM rfl (by omega) hx ?_)
  refine r_iadd (pc' := 19) d239_18 rfl ?_
  exact r_iretI d239_19 rfl k
theorem s_cheeseSize {d : Nat} {h : Hp} {Q : Option AV → Hp → Prop} {a x : Nat} (hN : hn h = 65) (hM : RM h) (ha : hi h 50 23 = nI a) (ha9 : a ≤ 8) (hx : x < 6) (k : Q (some (vI (hi h 51 (51 + x) - 100))) (trA h a [13, 10])) : Spec (d + 2) 240 [vR (some 50), vI (nI x)] h Q := by
  refine spec_intro (by decide +kernel) rfl (Nat.le_of_ble_eq_true rfl) ?_
  refine r_aload_n (pc' := 1) d240_0 rfl rfl rfl ?_
  refine r_bipush (v := 13) (pc' := 3) d240_1 rfl (by decide) ?_
  refine r_call (pc' := 6) [vR (some 50), vI _] [] d240_3 rfl o240 st12_264_12 (rcv1 sh50 (pl hN rfl)) rfl (by decide) ⟨rfl, rfl⟩ (Nat.le_of_ble_eq_true rfl) rfl (s_begins (a := a) (b := 13) hN hM ha (by omega) ?_)
  refine r_aload_n (pc' := 7) d240_6 rfl rfl rfl ?_
  refine r_iload_n (pc' := 8) d240_7 rfl rfl rfl ?_
  refine r_call (pc' := 11) [vR (some 50), vI _] [] d240_8 rfl o240 st12_273_12 (rcv1 sh50 (pl hN rfl)) rfl (by decide) ⟨rfl, rfl⟩ (Nat.le_of_ble_eq_true rfl) rfl (s_lentSize (a := a + 1) hN hM rfl (by omega) hx ?_)
  refine r_bipush (v := 100) (pc' := 13) d240_11 rfl (by decide) ?_
  refine r_isub (pc' := 14) d240_13 rfl ?_
  exact r_iretI d240_14 rfl k
theorem s_sizeOfCheese {d : Nat} {h : Hp} {Q : Option AV → Hp → Prop} {a x : Nat} (hN : hn h = 65) (hM : RM h) (ha : hi h 50 23 = nI a) (ha9 : a ≤ 7) (hx : x < 6) (k : Q (some (vI (chV (hi h 51) x))) (trA h a (chL (hi h 51 (5 + x))))) : Spec (d + 3) 241 [vR (some 50), vI (nI x)] h Q := by
  refine spec_intro (by decide +kernel) rfl (Nat.le_of_ble_eq_true rfl) ?_
  refine r_aload_n (pc' := 1) d241_0 rfl rfl rfl ?_
  refine r_getS (pc' := 4) d241_1 rfl o241 sf12_7_12 sh50 (pl hN rfl) (rfm0 hM) ?_
  refine r_iconst (v := 5) (pc' := 5) d241_4 rfl (by decide) ?_
  refine r_iload_n (pc' := 6) d241_5 rfl rfl rfl ?_
  refine r_iadd (pc' := 7) d241_6 rfl ?_
  refine r_ialdN (pc' := 8) (j := (5 + x)) d241_7 rfl sh51 (pl hN rfl) (by simp only [lit, nI_add, pk_mul]) (by omega) (by decide) ?_
  refine r_iconst (v := 5) (pc' := 9) d241_8 rfl (by decide) ?_
  refine r_icmp_ne 26 (pc' := 12) d241_9 rfl rfl (fun c9 => ?_) (fun c9 => ?_)
  · refine r_aload_n (pc' := 27) d241_26 rfl rfl rfl ?_
    refine r_iload_n (pc' := 28) d241_27 rfl rfl rfl ?_
    refine r_call (pc' := 31) [vR (some 50), vI _] [] d241_28 rfl o241 st12_279_12 (rcv1 sh50 (pl hN rfl)) rfl (by decide) ⟨rfl, rfl⟩ (Nat.le_of_ble_eq_true rfl) rfl (s_cheeseSize (a := a) hN hM ha (by omega) hx ?_)
    exact r_iretI d241_31 rfl (by have w := k; rw [chV, chL, if_neg c9, if_neg c9] at w; exact w)
  · refine r_aload_n (pc' := 13) d241_12 rfl rfl rfl ?_
    refine r_bipush (v := 14) (pc' := 15) d241_13 rfl (by decide) ?_
    refine r_call (pc' := 18) [vR (some 50), vI _] [] d241_15 rfl o241 st12_264_12 (rcv1 sh50 (pl hN rfl)) rfl (by decide) ⟨rfl, rfl⟩ (Nat.le_of_ble_eq_true rfl) rfl (s_begins (a := a) (b := 14) hN hM ha (by omega) ?_)
    refine r_iconst (v := 2) (pc' := 19) d241_18 rfl (by decide) ?_
    refine r_aload_n (pc' := 20) d241_19 rfl rfl rfl ?_
    refine r_iload_n (pc' := 21) d241_20 rfl rfl rfl ?_
    refine r_call (pc' := 24) [vR (some 50), vI _] [vI _] d241_21 rfl o241 st12_279_12 (rcv1 sh50 (pl hN rfl)) rfl (by decide) ⟨rfl, rfl⟩ (Nat.le_of_ble_eq_true rfl) rfl (s_cheeseSize (a := a + 1) hN hM rfl (by omega) hx ?_)
    refine r_imul (pc' := 25) d241_24 rfl ?_
    exact r_iretI d241_25 rfl (by have w := k; rw [chV, chL, if_pos c9, if_pos c9] at w; exact w)
theorem s_sizeOf {d : Nat} {h : Hp} {Q : Option AV → Hp → Prop} {x : Nat} (hN : hn h = 65) (hM : RM h) (ha : hi h 50 23 = nI 0) (hx : x < 6) (k : Q (some (vI (asV (hi h 51) x 0))) (trA h 0 (asL (hi h 51 (5 + x)) 0))) : Spec (d + 5) 242 [vR (some 50), vI (nI x)] h Q := by
  refine spec_intro (by decide +kernel) rfl (Nat.le_of_ble_eq_true rfl) ?_
  refine r_aload_n (pc' := 1) d242_0 rfl rfl rfl ?_
  refine r_getS (pc' := 4) d242_1 rfl o242 sf12_7_12 sh50 (pl hN rfl) (rfm0 hM) ?_
  refine r_iconst (v := 5) (pc' := 5) d242_4 rfl (by decide) ?_
  refine r_iload_n (pc' := 6) d242_5 rfl rfl rfl ?_
  refine r_iadd (pc' := 7) d242_6 rfl ?_
  refine r_ialdN (pc' := 8) (j := (5 + x)) d242_7 rfl sh51 (pl hN rfl) (by simp only [lit, nI_add, pk_mul]) (by omega) (by decide) ?_
  refine r_iconst (v := 4) (pc' := 9) d242_8 rfl (by decide) ?_
  refine r_iconst (v := 5) (pc' := 10) d242_9 rfl (by decide) ?_
  refine r_call (pc' := 13) [vI _, vI _, vI _] [] d242_10 rfl o242 st12_59 rcv0 rfl (by decide) ⟨rfl, rfl⟩ (Nat.le_of_ble_eq_true rfl) rfl (s_in ?_)
  refine r_if_eqB 22 (pc' := 16) d242_13 rfl rfl (fun c13 => ?_) (fun c13 => ?_)
  · refine r_aload_n (pc' := 23) d242_22 rfl rfl rfl ?_
    refine r_getS (pc' := 26) d242_23 rfl o242 sf12_7_12 sh50 (pl hN rfl) (rfm0 hM) ?_
    refine r_iconst (v := 5) (pc' := 27) d242_26 rfl (by decide) ?_
    refine r_iload_n (pc' := 28) d242_27 rfl rfl rfl ?_
    refine r_iadd (pc' := 29) d242_28 rfl ?_
    refine r_ialdN (pc' := 30) (j := (5 + x)) d242_29 rfl sh51 (pl hN rfl) (by simp only [lit, nI_add, pk_mul]) (by omega) (by decide) ?_
    refine r_iconst (v := 2) (pc' := 31) d242_30 rfl (by decide) ?_
    refine r_icmp_ne 47 (pc' := 34) d242_31 rfl rfl (fun c31 => ?_) (fun c31 => ?_)
    · refine r_aload_n (pc' := 48) d242_47 rfl rfl rfl ?_
      refine r_iload_n (pc' := 49) d242_48 rfl rfl rfl ?_
      refine r_call (pc' := 52) [vR (some 50), vI _] [] d242_49 rfl o242 st12_285_12 (rcv1 sh50 (pl hN rfl)) rfl (by decide) ⟨rfl, rfl⟩ (Nat.le_of_ble_eq_true rfl) rfl (s_sausageSize (a := 0) hN hM ha (by omega) hx ?_)
      exact r_iretI d242_52 rfl (by have w := k; rw [asV, asL, if_pos rfl, if_pos rfl, if_neg c13, if_neg c13, if_neg c31, if_neg c31] at w; exact w)
    · refine r_aload_n (pc' := 35) d242_34 rfl rfl rfl ?_
      refine r_bipush (v := 12) (pc' := 37) d242_35 rfl (by decide) ?_
      refine r_call (pc' := 40) [vR (some 50), vI _] [] d242_37 rfl o242 st12_264_12 (rcv1 sh50 (pl hN rfl)) rfl (by decide) ⟨rfl, rfl⟩ (Nat.le_of_ble_eq_true rfl) rfl (s_begins (a := 0) (b := 12) hN hM ha (by omega) ?_)
      refine r_aload_n (pc' := 41) d242_40 rfl rfl rfl ?_
      refine r_iload_n (pc' := 42) d242_41 rfl rfl rfl ?_
      refine r_call (pc' := 45) [vR (some 50), vI _] [] d242_42 rfl o242 st12_285_12 (rcv1 sh50 (pl hN rfl)) rfl (by decide) ⟨rfl, rfl⟩ (Nat.le_of_ble_eq_true rfl) rfl (s_sausageSize (a := 1) hN hM rfl (by omega) hx ?_)
      refine r_ineg (pc' := 46) d242_45 rfl ?_
      exact r_iretI d242_46 rfl (by have w := k; rw [asV, asL, if_pos rfl, if_pos rfl, if_neg c13, if_neg c13, if_pos c31, if_pos c31] at w; exact w)
  · refine r_aload_n (pc' := 17) d242_16 rfl rfl rfl ?_
    refine r_iload_n (pc' := 18) d242_17 rfl rfl rfl ?_
    refine r_call (pc' := 21) [vR (some 50), vI _] [] d242_18 rfl o242 st12_282_12 (rcv1 sh50 (pl hN rfl)) rfl (by decide) ⟨rfl, rfl⟩ (Nat.le_of_ble_eq_true rfl) rfl (s_sizeOfCheese (a := 0) hN hM ha (by omega) hx ?_)
    exact r_iretI d242_21 rfl (by have w := k; rw [asV, asL, if_pos rfl, if_pos rfl, if_pos c13, if_pos c13] at w; exact w)
theorem s_markOf {d : Nat} {h : Hp} {Q : Option AV → Hp → Prop} {x : Nat} (hN : hn h = 65) (hM : RM h) (ha : hi h 50 23 = nI 0) (hx : x < 6) (k : Q (some (vI (asV (hi h 51) x 1))) (trA h 0 (asL (hi h 51 (5 + x)) 1))) : Spec (d + 5) 243 [vR (some 50), vI (nI x)] h Q := by
  refine spec_intro (by decide +kernel) rfl (Nat.le_of_ble_eq_true rfl) ?_
  refine r_aload_n (pc' := 1) d243_0 rfl rfl rfl ?_
  refine r_getS (pc' := 4) d243_1 rfl o243 sf12_7_12 sh50 (pl hN rfl) (rfm0 hM) ?_
  refine r_iconst (v := 5) (pc' := 5) d243_4 rfl (by decide) ?_
  refine r_iload_n (pc' := 6) d243_5 rfl rfl rfl ?_
  refine r_iadd (pc' := 7) d243_6 rfl ?_
  refine r_ialdN (pc' := 8) (j := (5 + x)) d243_7 rfl sh51 (pl hN rfl) (by simp only [lit, nI_add, pk_mul]) (by omega) (by decide) ?_
  refine r_iconst (v := 4) (pc' := 9) d243_8 rfl (by decide) ?_
  refine r_iconst (v := 5) (pc' := 10) d243_9 rfl (by decide) ?_
  refine r_call (pc' := 13) [vI _, vI _, vI _] [] d243_10 rfl o243 st12_59 rcv0 rfl (by decide) ⟨rfl, rfl⟩ (Nat.le_of_ble_eq_true rfl) rfl (s_in ?_)
  refine r_if_neB 22 (pc' := 16) d243_13 rfl rfl (fun c13 => ?_) (fun c13 => ?_)
  · refine r_aload_n (pc' := 23) d243_22 rfl rfl rfl ?_
    refine r_bipush (v := 23) (pc' := 25) d243_23 rfl (by decide) ?_
    refine r_call (pc' := 28) [vR (some 50), vI _] [] d243_25 rfl o243 st12_264_12 (rcv1 sh50 (pl hN rfl)) rfl (by decide) ⟨rfl, rfl⟩ (Nat.le_of_ble_eq_true rfl) rfl (s_begins (a := 0) (b := 23) hN hM ha (by omega) ?_)
    refine r_aload_n (pc' := 29) d243_28 rfl rfl rfl ?_
    refine r_iload_n (pc' := 30) d243_29 rfl rfl rfl ?_
    refine r_call (pc' := 33) [vR (some 50), vI _] [] d243_30 rfl o243 st12_267_12 (rcv1 sh50 (pl hN rfl)) rfl (by decide) ⟨rfl, rfl⟩ (Nat.le_of_ble_eq_true rfl) rfl (s_lentMark (a := 1) hN hM rfl (by omega) hx ?_)
    refine r_istore_n (pc' := 34) (ls' := [(2, vI _), (0, vR (some 50)), (1, vI _)]) d243_33 rfl rfl (by decide) rfl ?_
    refine r_iload_n (pc' := 35) d243_34 rfl rfl rfl ?_
    refine r_aload_n (pc' := 36) d243_35 rfl rfl rfl ?_
    refine r_iload_n (pc' := 37) d243_36 rfl rfl rfl ?_
    refine r_call (pc' := 40) [vR (some 50), vI _] [vI _] d243_37 rfl o243 st12_282_12 (rcv1 sh50 (pl hN rfl)) rfl (by decide) ⟨rfl, rfl⟩ (Nat.le_of_ble_eq_true rfl) rfl (s_sizeOfCheese (a := 2) hN hM rfl (by omega) hx ?_)
    refine r_isub (pc' := 41) d243_40 rfl ?_
    exact r_iretI d243_41 rfl (by have w := k; rw [asV, asL, if_neg (show ¬ (1 : Int32) = 0 by decide), if_neg (show ¬ (1 : Int32) = 0 by decide), if_pos c13, if_pos c13] at w; exact w)
  · refine r_aload_n (pc' := 17) d243_16 rfl rfl rfl ?_
    refine r_iload_n (pc' := 18) d243_17 rfl rfl rfl ?_
    refine r_call (pc' := 21) [vR (some 50), vI _] [] d243_18 rfl o243 st12_276_12 (rcv1 sh50 (pl hN rfl)) rfl (by decide) ⟨rfl, rfl⟩ (Nat.le_of_ble_eq_true rfl) rfl (s_markOfSausages (a := 0) hN hM ha (by omega) hx ?_)
    exact r_iretI d243_21 rfl (by have w := k; rw [asV, asL, if_neg (show ¬ (1 : Int32) = 0 by decide), if_neg (show ¬ (1 : Int32) = 0 by decide), if_neg c13, if_neg c13] at w; exact w)
theorem one_of {x : Int32} (h : 0 ≤ x ∧ x ≤ 1) (h0 : ¬ x = 0) : x = 1 := by
  obtain ⟨j, hj, rfl⟩ := nat2 (n := 1) h (by decide)
  rcases (show j = 0 ∨ j = 1 by omega) with rfl | rfl
  · exact absurd rfl h0
  · rfl
theorem M_ask {d : Nat} {h : Hp} {Q : Option AV → Hp → Prop} {m L e : Nat} {t what : Int32} (hN : hn h = 65) (hM : RM h) (hc : Cnt (hi h 51) m L e) (kB : (¬ inR t m ∨ ¬ (0 ≤ what ∧ what ≤ 1)) → Q (some (vI (-1000001))) h)
    (kW : ∀ j : Nat, j < m → t = nI j → (0 ≤ what ∧ what ≤ 1) → Q (some (vI (asV (hi h 51) j what))) (trA (seti h 50 23 0) 0 (asL (hi h 51 (5 + j)) what))) : Spec (d + 6) 244 [vR (some 50), vI t, vI what] h Q := by
  obtain ⟨hc1, hc2, hc3, hc4, hc5, hc6⟩ := id hc
  refine spec_intro (by decide +kernel) rfl (Nat.le_of_ble_eq_true rfl) ?_
  refine r_aload_n (pc' := 1) d244_0 rfl rfl rfl ?_
  refine r_iload_n (pc' := 2) d244_1 rfl rfl rfl ?_
  refine r_call (pc' := 5) [vR (some 50), vI _] [] d244_2 rfl o244 st12_194_12 (rcv1 sh50 (pl hN rfl)) rfl (by decide) ⟨rfl, rfl⟩ (Nat.le_of_ble_eq_true rfl) rfl (s_isThingC hN hM hc ?_)
  refine r_if_eqB 17 (pc' := 8) d244_5 rfl rfl (fun c5 => ?_) (fun c5 => ?_)
  · refine r_ldc (pc' := 19) d244_17 rfl o244 kc12_67 ?_
    exact r_iretI d244_19 rfl (kB (by first | exact Or.inl c5 | exact Or.inr c14))
  · refine r_iload_n (pc' := 9) d244_8 rfl rfl rfl ?_
    refine r_iconst (v := 0) (pc' := 10) d244_9 rfl (by decide) ?_
    refine r_iconst (v := 1) (pc' := 11) d244_10 rfl (by decide) ?_
    refine r_call (pc' := 14) [vI _, vI _, vI _] [] d244_11 rfl o244 st12_59 rcv0 rfl (by decide) ⟨rfl, rfl⟩ (Nat.le_of_ble_eq_true rfl) rfl (s_in ?_)
    refine r_if_neB 20 (pc' := 17) d244_14 rfl rfl (fun c14 => ?_) (fun c14 => ?_)
    · obtain ⟨j, hj, rfl⟩ := inR_of c5 (by omega)
      refine r_aload_n (pc' := 21) d244_20 rfl rfl rfl ?_
      refine r_iconst (v := 0) (pc' := 22) d244_21 rfl (by decide) ?_
      refine r_putI (pc' := 25) d244_22 rfl o244 sp12_261_12 sh50 (fun w => absurd w (by decide)) (Or.inl rfl) (pl hN rfl) ?_
      refine r_iload_n (pc' := 26) d244_25 rfl rfl rfl ?_
      refine r_if_ne 37 (pc' := 29) d244_26 rfl rfl (fun c26 => ?_) (fun c26 => ?_)
      · refine r_aload_n (pc' := 38) d244_37 rfl rfl rfl ?_
        refine r_iload_n (pc' := 39) d244_38 rfl rfl rfl ?_
        refine r_call (pc' := 42) [vR (some 50), vI _] [] d244_39 rfl o244 st12_291_12 (rcv1 sh50 (pl hN rfl)) rfl (by decide) ⟨rfl, rfl⟩ (Nat.le_of_ble_eq_true rfl) rfl (s_markOf hN hM rfl (by omega) ?_)
        exact r_iretI d244_42 rfl (by have w := kW j hj rfl c14; rw [show what = 1 from one_of c14 c26] at w; exact w)
      · refine r_aload_n (pc' := 30) d244_29 rfl rfl rfl ?_
        refine r_iload_n (pc' := 31) d244_30 rfl rfl rfl ?_
        refine r_call (pc' := 34) [vR (some 50), vI _] [] d244_31 rfl o244 st12_288_12 (rcv1 sh50 (pl hN rfl)) rfl (by decide) ⟨rfl, rfl⟩ (Nat.le_of_ble_eq_true rfl) rfl (s_sizeOf hN hM rfl (by omega) ?_)
        refine r_goto 42 d244_34 rfl ?_
        exact r_iretI d244_42 rfl (by have w := kW j hj rfl c14; rw [c26] at w; exact w)
    · refine r_ldc (pc' := 19) d244_17 rfl o244 kc12_67 ?_
      exact r_iretI d244_19 rfl (kB (by first | exact Or.inl c5 | exact Or.inr c14))
theorem M_image {d : Nat} {h : Hp} {Q : Option AV → Hp → Prop} {u : Int32} (hN : hn h = 65) (hM : RM h) (kB : ¬ (0 ≤ u ∧ u ≤ 1) → Q (some (vI (-1000001))) h) (kS : (0 ≤ u ∧ u ≤ 1) → ¬ hi h 51 0 = 1 → Q (some (vI (-1000002))) h)
    (kW : hi h 51 0 = 1 → ∀ k : Nat, k ≤ 1 → u = nI k → Q (some (vI 1)) (seti (setw h 52 (mix (fun i => hi h 51 (i - 85 * k)) (hi h 52) (85 * k) 85)) 53 k 1)) : Spec (d + 1) 230 [vR (some 50), vI u] h Q := by
  refine spec_intro (by decide +kernel) rfl (Nat.le_of_ble_eq_true rfl) ?_
  refine r_iload_n (pc' := 1) d230_0 rfl rfl rfl ?_
  refine r_iconst (v := 0) (pc' := 2) d230_1 rfl (by decide) ?_
  refine r_iconst (v := 1) (pc' := 3) d230_2 rfl (by decide) ?_
  refine r_call (pc' := 6) [vI _, vI _, vI _] [] d230_3 rfl o230 st12_59 rcv0 rfl (by decide) ⟨rfl, rfl⟩ (Nat.le_of_ble_eq_true rfl) rfl (s_in ?_)
  refine r_if_neB 12 (pc' := 9) d230_6 rfl rfl (fun c6 => ?_) (fun c6 => ?_)
  · refine r_aload_n (pc' := 13) d230_12 rfl rfl rfl ?_
    refine r_call (pc' := 16) [vR (some 50)] [] d230_13 rfl o230 st12_184_12 (rcv1 sh50 (pl hN rfl)) rfl (by decide) ⟨rfl, rfl⟩ (Nat.le_of_ble_eq_true rfl) rfl (s_isYard hN hM ?_)
    refine r_if_neB 22 (pc' := 19) d230_16 rfl rfl (fun c16 => ?_) (fun c16 => ?_)
    · obtain ⟨k, hk, rfl⟩ := nat2 (n := 1) c6 (by decide)
      refine r_iconst (v := 0) (pc' := 23) d230_22 rfl (by decide) ?_
      refine r_istore_n (pc' := 24) (ls' := [(2, vI _), (0, vR (some 50)), (1, vI _)]) d230_23 rfl rfl (by decide) rfl ?_
      refine wp_pick (ls' := [(0, vR (some 50)), (1, vI _), (2, vI _)]) [1, 2, 0] rfl ?_
      have loop : ∀ (r q : Nat), q + r = 85 → wp (d + 1) 230 Q 0 0 24 [(0, vR (some 50)), (1, vI (nI k)), (2, vI (nI q))] [] (setw h 52 (mix (fun i => hi h 51 (i - 85 * k)) (hi h 52) (85 * k) q)) := by
        intro r
        induction r with
        | zero =>
          intro q hq
          obtain rfl : q = 85 := by omega
          refine r_iload_n (pc' := 25) d230_24 rfl rfl rfl ?_
          refine r_bipush (v := 85) (pc' := 27) d230_25 rfl (by decide) ?_
          refine r_icmp_ge 53 (pc' := 30) d230_27 rfl rfl (fun c27 => ?_) (fun c27 => absurd (by decide) c27)
          refine r_aload_n (pc' := 54) d230_53 rfl rfl rfl ?_
          refine r_getS (pc' := 57) d230_54 rfl o230 sf12_16_12 sh50 (pl hN rfl) (rfm2 hM) ?_
          refine r_iload_n (pc' := 58) d230_57 rfl rfl rfl ?_
          refine r_iconst (v := 1) (pc' := 59) d230_58 rfl (by decide) ?_
          refine r_bastN (pc' := 60) (j := k) d230_59 rfl sh53 (pl hN rfl) rfl (by omega) (by decide) (Or.inr rfl) ?_
          refine r_iconst (v := 1) (pc' := 61) d230_60 rfl (by decide) ?_
          exact r_iretI d230_61 rfl (kW c16 k hk rfl)
        | succ r ih =>
          intro q hq
          refine r_iload_n (pc' := 25) d230_24 rfl rfl rfl ?_
          refine r_bipush (v := 85) (pc' := 27) d230_25 rfl (by decide) ?_
          refine r_icmp_ge 53 (pc' := 30) d230_27 rfl rfl (fun c27 => absurd c27 (nI_ge (a := q) (b := 85) (by omega) (by decide))) (fun c27 => ?_)
          refine r_aload_n (pc' := 31) d230_30 rfl rfl rfl ?_
          refine r_getS (pc' := 34) d230_31 rfl o230 sf12_13_12 sh50 (pl hN rfl) (rfm1 hM) ?_
          refine r_bipush (v := 85) (pc' := 36) d230_34 rfl (by decide) ?_
          refine r_iload_n (pc' := 37) d230_36 rfl rfl rfl ?_
          refine r_imul (pc' := 38) d230_37 rfl ?_
          refine r_iload_n (pc' := 39) d230_38 rfl rfl rfl ?_
          refine r_iadd (pc' := 40) d230_39 rfl ?_
          refine r_aload_n (pc' := 41) d230_40 rfl rfl rfl ?_
          refine r_getS (pc' := 44) d230_41 rfl o230 sf12_7_12 sh50 (pl hN rfl) (rfm0 hM) ?_
          refine r_iload_n (pc' := 45) d230_44 rfl rfl rfl ?_
          refine r_ialdN (pc' := 46) (j := q) d230_45 rfl sh51 (pl hN rfl) rfl (by omega) (by decide) ?_
          refine r_iastN (pc' := 47) (j := ((85 * k) + q)) d230_46 rfl sh52 (pl hN rfl) (by simp only [lit, nI_add, pk_mul]) (by omega) (by decide) ?_
          refine r_iinc (v := _ + 1) (pc' := 50) (ls' := [(2, vI _), (0, vR (some 50)), (1, vI _)]) d230_47 rfl rfl rfl (by decide) rfl ?_
          refine r_goto 24 d230_50 rfl ?_
          refine wp_pick (ls' := [(0, vR (some 50)), (1, vI _), (2, vI _)]) [1, 2, 0] rfl ?_
          refine wp_heap (h' := (setw h 52 (mix (fun i => hi h 51 (i - 85 * k)) (hi h 52) (85 * k) (q + 1)))) ((seti_setw _ _ _ _ _).trans (congrArg (setw _ _) (mixv (fun i => hi h 51 (i - 85 * k)) (hi h 52) (85 * k) q (by show hi h 51 q = hi h 51 (85 * k + q - 85 * k); rw [Nat.add_sub_cancel_left])))) ?_
          rw [nI_1]
          exact ih (q + 1) (by omega)
      refine wp_heap (h' := (setw h 52 (mix (fun i => hi h 51 (i - 85 * k)) (hi h 52) (85 * k) 0))) (by rw [mix_0]; exact (setw_self _ _).symm) ?_
      exact loop 85 0 rfl
    · refine r_ldc (pc' := 21) d230_19 rfl o230 kc12_187 ?_
      exact r_iretI d230_21 rfl (kS c6 c16)
  · refine r_ldc (pc' := 11) d230_9 rfl o230 kc12_67 ?_
    exact r_iretI d230_11 rfl (kB c6)
theorem M_restore {d : Nat} {h : Hp} {Q : Option AV → Hp → Prop} {u : Int32} (hN : hn h = 65) (hM : RM h) (kB : ¬ (0 ≤ u ∧ u ≤ 1) → Q (some (vI (-1000001))) h) (kS : ∀ k : Nat, k ≤ 1 → u = nI k → hi h 53 k = 0 → Q (some (vI (-1000002))) h)
    (kW : ∀ k : Nat, k ≤ 1 → u = nI k → ¬ hi h 53 k = 0 → Q (some (vI 1)) (seti (setw h 51 (mix (fun i => hi h 52 (85 * k + i)) (hi h 51) 0 85)) 50 4 0)) : Spec (d + 1) 231 [vR (some 50), vI u] h Q := by
  refine spec_intro (by decide +kernel) rfl (Nat.le_of_ble_eq_true rfl) ?_
  refine r_iload_n (pc' := 1) d231_0 rfl rfl rfl ?_
  refine r_iconst (v := 0) (pc' := 2) d231_1 rfl (by decide) ?_
  refine r_iconst (v := 1) (pc' := 3) d231_2 rfl (by decide) ?_
  refine r_call (pc' := 6) [vI _, vI _, vI _] [] d231_3 rfl o231 st12_59 rcv0 rfl (by decide) ⟨rfl, rfl⟩ (Nat.le_of_ble_eq_true rfl) rfl (s_in ?_)
  refine r_if_neB 12 (pc' := 9) d231_6 rfl rfl (fun c6 => ?_) (fun c6 => ?_)
  · obtain ⟨k, hk, rfl⟩ := nat2 (n := 1) c6 (by decide)
    refine r_aload_n (pc' := 13) d231_12 rfl rfl rfl ?_
    refine r_getS (pc' := 16) d231_13 rfl o231 sf12_16_12 sh50 (pl hN rfl) (rfm2 hM) ?_
    refine r_iload_n (pc' := 17) d231_16 rfl rfl rfl ?_
    refine r_baldN (pc' := 18) (j := k) d231_17 rfl sh53 (pl hN rfl) rfl (by omega) (by decide) ?_
    refine r_if_ne 24 (pc' := 21) d231_18 rfl rfl (fun c18 => ?_) (fun c18 => ?_)
    · refine r_iconst (v := 0) (pc' := 25) d231_24 rfl (by decide) ?_
      refine r_istore_n (pc' := 26) (ls' := [(2, vI _), (0, vR (some 50)), (1, vI _)]) d231_25 rfl rfl (by decide) rfl ?_
      refine wp_pick (ls' := [(0, vR (some 50)), (1, vI _), (2, vI _)]) [1, 2, 0] rfl ?_
      have loop : ∀ (r q : Nat), q + r = 85 → wp (d + 1) 231 Q 0 0 26 [(0, vR (some 50)), (1, vI (nI k)), (2, vI (nI q))] [] (setw h 51 (mix (fun i => hi h 52 (85 * k + i)) (hi h 51) 0 q)) := by
        intro r
        induction r with
        | zero =>
          intro q hq
          obtain rfl : q = 85 := by omega
          refine r_iload_n (pc' := 27) d231_26 rfl rfl rfl ?_
          refine r_bipush (v := 85) (pc' := 29) d231_27 rfl (by decide) ?_
          refine r_icmp_ge 55 (pc' := 32) d231_29 rfl rfl (fun c29 => ?_) (fun c29 => absurd (by decide) c29)
          refine r_aload_n (pc' := 56) d231_55 rfl rfl rfl ?_
          refine r_iconst (v := 0) (pc' := 57) d231_56 rfl (by decide) ?_
          refine r_putI (pc' := 60) d231_57 rfl o231 sp12_147_12 sh50 (fun w => absurd w (by decide)) (Or.inl rfl) (pl hN rfl) ?_
          refine r_iconst (v := 1) (pc' := 61) d231_60 rfl (by decide) ?_
          exact r_iretI d231_61 rfl (kW k hk rfl c18)
        | succ r ih =>
          intro q hq
          refine r_iload_n (pc' := 27) d231_26 rfl rfl rfl ?_
          refine r_bipush (v := 85) (pc' := 29) d231_27 rfl (by decide) ?_
          refine r_icmp_ge 55 (pc' := 32) d231_29 rfl rfl (fun c29 => absurd c29 (nI_ge (a := q) (b := 85) (by omega) (by decide))) (fun c29 => ?_)
          refine r_aload_n (pc' := 33) d231_32 rfl rfl rfl ?_
          refine r_getS (pc' := 36) d231_33 rfl o231 sf12_7_12 sh50 (pl hN rfl) (rfm0 hM) ?_
          refine r_iload_n (pc' := 37) d231_36 rfl rfl rfl ?_
          refine r_aload_n (pc' := 38) d231_37 rfl rfl rfl ?_
          refine r_getS (pc' := 41) d231_38 rfl o231 sf12_13_12 sh50 (pl hN rfl) (rfm1 hM) ?_
          refine r_bipush (v := 85) (pc' := 43) d231_41 rfl (by decide) ?_
          refine r_iload_n (pc' := 44) d231_43 rfl rfl rfl ?_
          refine r_imul (pc' := 45) d231_44 rfl ?_
          refine r_iload_n (pc' := 46) d231_45 rfl rfl rfl ?_
          refine r_iadd (pc' := 47) d231_46 rfl ?_
          refine r_ialdN (pc' := 48) (j := ((85 * k) + q)) d231_47 rfl sh52 (pl hN rfl) (by simp only [lit, nI_add, pk_mul]) (by omega) (by decide) ?_
          refine r_iastN (pc' := 49) (j := q) d231_48 rfl sh51 (pl hN rfl) rfl (by omega) (by decide) ?_
          refine r_iinc (v := _ + 1) (pc' := 52) (ls' := [(2, vI _), (0, vR (some 50)), (1, vI _)]) d231_49 rfl rfl rfl (by decide) rfl ?_
          refine r_goto 26 d231_52 rfl ?_
          refine wp_pick (ls' := [(0, vR (some 50)), (1, vI _), (2, vI _)]) [1, 2, 0] rfl ?_
          refine wp_heap (h' := (setw h 51 (mix (fun i => hi h 52 (85 * k + i)) (hi h 51) 0 (q + 1)))) ((seti_setw _ _ _ _ _).trans (congrArg (setw _ _) (mix0_v (fun i => hi h 52 (85 * k + i)) (hi h 51) q rfl))) ?_
          rw [nI_1]
          exact ih (q + 1) (by omega)
      refine wp_heap (h' := (setw h 51 (mix (fun i => hi h 52 (85 * k + i)) (hi h 51) 0 0))) (by rw [mix_0]; exact (setw_self _ _).symm) ?_
      exact loop 85 0 rfl
    · refine r_ldc (pc' := 23) d231_21 rfl o231 kc12_187 ?_
      exact r_iretI d231_23 rfl (kS k hk rfl c18)
  · refine r_ldc (pc' := 11) d231_9 rfl o231 kc12_67 ?_
    exact r_iretI d231_11 rfl (kB c6)
