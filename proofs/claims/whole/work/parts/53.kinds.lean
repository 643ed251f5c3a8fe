/-! the class: kinds asked (printed by wip/whole/m53.py) -/
theorem trL_o {o : Nat} (h1 : o ≠ 7) (h2 : o ≠ 8) (l : List Nat) : ∀ (h : Hp) (a : Nat), hi (trL h a l) o = hi h o := by
  induction l with
  | nil => intro h a; rfl
  | cons b t ih => intro h a; unfold trL; rw [ih, hi_seti_ne _ _ _ _ _ h1, hi_seti_ne _ _ _ _ _ h2]
theorem trL_hr (l : List Nat) : ∀ (h : Hp) (a : Nat), hr (trL h a l) = hr h := by
  induction l with
  | nil => intro h a; rfl
  | cons b t ih => intro h a; unfold trL; rw [ih]; rfl
theorem ne7 {o : Nat} (ho : SH o = (0, 8)) : o ≠ 7 := fun z => by subst z; exact absurd ho (by decide)
theorem ne8 {o : Nat} (ho : SH o = (0, 8)) : o ≠ 8 := fun z => by subst z; exact absurd ho (by decide)
theorem k_11 {d : Nat} {h : Hp} {Q : Option AV → Hp → Prop} {o a r : Nat} (hN : hn h = 65) (hC : RC h) (ho : SH o = (0, 8)) (hlt : o < 65) (ha : hi h 7 1 = nI a) (ha9 : a + 1 ≤ 16) (k : Q (some (vI (hi h o 3))) (trL h a [10])) : Spec (d + 1) 11 [vR (some r), vR (some o), vR (some 7)] h Q := by
  refine spec_intro (by decide +kernel) rfl (Nat.le_of_ble_eq_true rfl) ?_
  refine r_aload_n (pc' := 1) d11_0 rfl rfl rfl ?_
  refine r_bipush (v := 10) (pc' := 3) d11_1 rfl (by decide) ?_
  refine r_call (pc' := 6) [vR (some 7), vI _] [] d11_3 rfl o11 st3_22_9 (rcv1 sh7 (pl hN rfl)) rfl (by decide) ⟨rfl, rfl⟩ (Nat.le_of_ble_eq_true rfl) rfl (t_leave (a := a) (b := 10) hN hC ha (by omega) ?_)
  refine r_aload_n (pc' := 7) d11_6 rfl rfl rfl ?_
  refine r_getI (pc' := 10) d11_7 rfl o11 sf3_28_8 ho (plo hN hlt) ?_
  refine wp_v (y := hi h o 3) (by simp only [trL_o (ne7 ho) (ne8 ho)]) ?_
  exact r_iretI d11_10 rfl k
theorem k_12 {d : Nat} {h : Hp} {Q : Option AV → Hp → Prop} {o a r : Nat} (hN : hn h = 65) (hC : RC h) (ho : SH o = (0, 8)) (hlt : o < 65) (ha : hi h 7 1 = nI a) (ha9 : a + 1 ≤ 16) (k : Q (some (vI (hi h o 0))) (trL h a [20])) : Spec (d + 1) 12 [vR (some r), vR (some o), vR (some 7)] h Q := by
  refine spec_intro (by decide +kernel) rfl (Nat.le_of_ble_eq_true rfl) ?_
  refine r_aload_n (pc' := 1) d12_0 rfl rfl rfl ?_
  refine r_bipush (v := 20) (pc' := 3) d12_1 rfl (by decide) ?_
  refine r_call (pc' := 6) [vR (some 7), vI _] [] d12_3 rfl o12 st3_22_9 (rcv1 sh7 (pl hN rfl)) rfl (by decide) ⟨rfl, rfl⟩ (Nat.le_of_ble_eq_true rfl) rfl (t_leave (a := a) (b := 20) hN hC ha (by omega) ?_)
  refine r_aload_n (pc' := 7) d12_6 rfl rfl rfl ?_
  refine r_getI (pc' := 10) d12_7 rfl o12 sf3_33_8 ho (plo hN hlt) ?_
  refine wp_v (y := hi h o 0) (by simp only [trL_o (ne7 ho) (ne8 ho)]) ?_
  exact r_iretI d12_10 rfl k
theorem k_41_1 {d : Nat} {h : Hp} {Q : Option AV → Hp → Prop} {o a : Nat} (hN : hn h = 65) (hC : RC h) (ho : SH o = (0, 8)) (hlt : o < 65) (ha : hi h 7 1 = nI a) (ha9 : a + 2 ≤ 16) (k : Q (some (vI (hi h o 0 + hi h o 4))) (trL h a [21, 20])) : Spec (d + 2) 41 [vR (some 11), vR (some o), vR (some 7)] h Q := by
  refine spec_intro (by decide +kernel) rfl (Nat.le_of_ble_eq_true rfl) ?_
  refine r_aload_n (pc' := 1) d41_0 rfl rfl rfl ?_
  refine r_bipush (v := 21) (pc' := 3) d41_1 rfl (by decide) ?_
  refine r_call (pc' := 6) [vR (some 7), vI _] [] d41_3 rfl o41 st6_7_9 (rcv1 sh7 (pl hN rfl)) rfl (by decide) ⟨rfl, rfl⟩ (Nat.le_of_ble_eq_true rfl) rfl (t_leave (a := a) (b := 21) hN hC ha (by omega) ?_)
  refine r_aload_n (pc' := 7) d41_6 rfl rfl rfl ?_
  refine r_aload_n (pc' := 8) d41_7 rfl rfl rfl ?_
  refine r_aload_n (pc' := 9) d41_8 rfl rfl rfl ?_
  refine r_call (pc' := 12) [vR (some 11), vR (some o), vR (some 7)] [] d41_9 rfl o41 (st6_22 6) (rcv1 sh11 (pl hN rfl)) rfl (by decide) ⟨rfl, rfl⟩ (Nat.le_of_ble_eq_true rfl) rfl (k_12 (a := a + 1) hN hC ho hlt rfl (by omega) ?_)
  refine r_aload_n (pc' := 13) d41_12 rfl rfl rfl ?_
  refine r_getI (pc' := 16) d41_13 rfl o41 sf6_23_8 ho (plo hN hlt) ?_
  refine wp_v (y := hi h o 4) (by simp only [trL_o (ne7 ho) (ne8 ho)]) ?_
  refine r_iadd (pc' := 17) d41_16 rfl ?_
  exact r_iretI d41_17 rfl (qv (by simp only [trL_o (ne7 ho) (ne8 ho)]) k)
theorem k_41_2 {d : Nat} {h : Hp} {Q : Option AV → Hp → Prop} {o a : Nat} (hN : hn h = 65) (hC : RC h) (ho : SH o = (0, 8)) (hlt : o < 65) (ha : hi h 7 1 = nI a) (ha9 : a + 2 ≤ 16) (k : Q (some (vI (hi h o 0 + hi h o 4))) (trL h a [21, 20])) : Spec (d + 2) 41 [vR (some 12), vR (some o), vR (some 7)] h Q := by
  refine spec_intro (by decide +kernel) rfl (Nat.le_of_ble_eq_true rfl) ?_
  refine r_aload_n (pc' := 1) d41_0 rfl rfl rfl ?_
  refine r_bipush (v := 21) (pc' := 3) d41_1 rfl (by decide) ?_
  refine r_call (pc' := 6) [vR (some 7), vI _] [] d41_3 rfl o41 st6_7_9 (rcv1 sh7 (pl hN rfl)) rfl (by decide) ⟨rfl, rfl⟩ (Nat.le_of_ble_eq_true rfl) rfl (t_leave (a := a) (b := 21) hN hC ha (by omega) ?_)
  refine r_aload_n (pc' := 7) d41_6 rfl rfl rfl ?_
  refine r_aload_n (pc' := 8) d41_7 rfl rfl rfl ?_
  refine r_aload_n (pc' := 9) d41_8 rfl rfl rfl ?_
  refine r_call (pc' := 12) [vR (some 12), vR (some o), vR (some 7)] [] d41_9 rfl o41 (st6_22 1) (rcv1 sh12 (pl hN rfl)) rfl (by decide) ⟨rfl, rfl⟩ (Nat.le_of_ble_eq_true rfl) rfl (k_12 (a := a + 1) hN hC ho hlt rfl (by omega) ?_)
  refine r_aload_n (pc' := 13) d41_12 rfl rfl rfl ?_
  refine r_getI (pc' := 16) d41_13 rfl o41 sf6_23_8 ho (plo hN hlt) ?_
  refine wp_v (y := hi h o 4) (by simp only [trL_o (ne7 ho) (ne8 ho)]) ?_
  refine r_iadd (pc' := 17) d41_16 rfl ?_
  exact r_iretI d41_17 rfl (qv (by simp only [trL_o (ne7 ho) (ne8 ho)]) k)
theorem k_41_3 {d : Nat} {h : Hp} {Q : Option AV → Hp → Prop} {o a : Nat} (hN : hn h = 65) (hC : RC h) (ho : SH o = (0, 8)) (hlt : o < 65) (ha : hi h 7 1 = nI a) (ha9 : a + 2 ≤ 16) (k : Q (some (vI (hi h o 0 + hi h o 4))) (trL h a [21, 20])) : Spec (d + 2) 41 [vR (some 13), vR (some o), vR (some 7)] h Q := by
  refine spec_intro (by decide +kernel) rfl (Nat.le_of_ble_eq_true rfl) ?_
  refine r_aload_n (pc' := 1) d41_0 rfl rfl rfl ?_
  refine r_bipush (v := 21) (pc' := 3) d41_1 rfl (by decide) ?_
  refine r_call (pc' := 6) [vR (some 7), vI _] [] d41_3 rfl o41 st6_7_9 (rcv1 sh7 (pl hN rfl)) rfl (by decide) ⟨rfl, rfl⟩ (Nat.le_of_ble_eq_true rfl) rfl (t_leave (a := a) (b := 21) hN hC ha (by omega) ?_)
  refine r_aload_n (pc' := 7) d41_6 rfl rfl rfl ?_
  refine r_aload_n (pc' := 8) d41_7 rfl rfl rfl ?_
  refine r_aload_n (pc' := 9) d41_8 rfl rfl rfl ?_
  refine r_call (pc' := 12) [vR (some 13), vR (some o), vR (some 7)] [] d41_9 rfl o41 (st6_22 7) (rcv1 sh13 (pl hN rfl)) rfl (by decide) ⟨rfl, rfl⟩ (Nat.le_of_ble_eq_true rfl) rfl (k_12 (a := a + 1) hN hC ho hlt rfl (by omega) ?_)
  refine r_aload_n (pc' := 13) d41_12 rfl rfl rfl ?_
  refine r_getI (pc' := 16) d41_13 rfl o41 sf6_23_8 ho (plo hN hlt) ?_
  refine wp_v (y := hi h o 4) (by simp only [trL_o (ne7 ho) (ne8 ho)]) ?_
  refine r_iadd (pc' := 17) d41_16 rfl ?_
  exact r_iretI d41_17 rfl (qv (by simp only [trL_o (ne7 ho) (ne8 ho)]) k)
theorem k_43 {d : Nat} {h : Hp} {Q : Option AV → Hp → Prop} {o a : Nat} (hN : hn h = 65) (hC : RC h) (ho : SH o = (0, 8)) (hlt : o < 65) (ha : hi h 7 1 = nI a) (ha9 : a + 3 ≤ 16) (k : Q (some (vI (hi h o 0 + hi h o 4 - 1000))) (trL h a [22, 21, 20])) : Spec (d + 3) 43 [vR (some 13), vR (some o), vR (some 7)] h Q := by
  refine spec_intro (by decide +kernel) rfl (Nat.le_of_ble_eq_true rfl) ?_
  refine r_aload_n (pc' := 1) d43_0 rfl rfl rfl ?_
  refine r_bipush (v := 22) (pc' := 3) d43_1 rfl (by decide) ?_
  refine r_call (pc' := 6) [vR (some 7), vI _] [] d43_3 rfl o43 st7_7_9 (rcv1 sh7 (pl hN rfl)) rfl (by decide) ⟨rfl, rfl⟩ (Nat.le_of_ble_eq_true rfl) rfl (t_leave (a := a) (b := 22) hN hC ha (by omega) ?_)
  refine r_aload_n (pc' := 7) d43_6 rfl rfl rfl ?_
  refine r_aload_n (pc' := 8) d43_7 rfl rfl rfl ?_
  refine r_aload_n (pc' := 9) d43_8 rfl rfl rfl ?_
  refine r_call (pc' := 12) [vR (some 13), vR (some o), vR (some 7)] [] d43_9 rfl o43 (st7_13 7) (rcv1 sh13 (pl hN rfl)) rfl (by decide) ⟨rfl, rfl⟩ (Nat.le_of_ble_eq_true rfl) rfl (k_41_3 (a := a + 1) hN hC ho hlt rfl (by omega) ?_)
  refine r_sipush (v := 1000) (pc' := 15) d43_12 rfl (by decide) ?_
  refine r_isub (pc' := 16) d43_15 rfl ?_
  exact r_iretI d43_16 rfl (qv (by simp only [trL_o (ne7 ho) (ne8 ho)]) k)
theorem k_5 {d : Nat} {h : Hp} {Q : Option AV → Hp → Prop} {o a : Nat} (hN : hn h = 65) (hC : RC h) (ho : SH o = (0, 8)) (hlt : o < 65) (ha : hi h 7 1 = nI a) (ha9 : a + 3 ≤ 16) (k : Q (some (vI (2 * (hi h o 0 + hi h o 4)))) (trL h a [24, 21, 20])) : Spec (d + 3) 5 [vR (some 12), vR (some o), vR (some 7)] h Q := by
  refine spec_intro (by decide +kernel) rfl (Nat.le_of_ble_eq_true rfl) ?_
  refine r_aload_n (pc' := 1) d5_0 rfl rfl rfl ?_
  refine r_bipush (v := 24) (pc' := 3) d5_1 rfl (by decide) ?_
  refine r_call (pc' := 6) [vR (some 7), vI _] [] d5_3 rfl o5 st1_7_9 (rcv1 sh7 (pl hN rfl)) rfl (by decide) ⟨rfl, rfl⟩ (Nat.le_of_ble_eq_true rfl) rfl (t_leave (a := a) (b := 24) hN hC ha (by omega) ?_)
  refine r_iconst (v := 2) (pc' := 7) d5_6 rfl (by decide) ?_
  refine r_aload_n (pc' := 8) d5_7 rfl rfl rfl ?_
  refine r_aload_n (pc' := 9) d5_8 rfl rfl rfl ?_
  refine r_aload_n (pc' := 10) d5_9 rfl rfl rfl ?_
  refine r_call (pc' := 13) [vR (some 12), vR (some o), vR (some 7)] [vI _] d5_10 rfl o5 (st1_17 1) (rcv1 sh12 (pl hN rfl)) rfl (by decide) ⟨rfl, rfl⟩ (Nat.le_of_ble_eq_true rfl) rfl (k_41_2 (a := a + 1) hN hC ho hlt rfl (by omega) ?_)
  refine r_imul (pc' := 14) d5_13 rfl ?_
  exact r_iretI d5_14 rfl (qv (by simp only [trL_o (ne7 ho) (ne8 ho)]) k)
theorem k_40_1 {d : Nat} {h : Hp} {Q : Option AV → Hp → Prop} {o a : Nat} (hN : hn h = 65) (hC : RC h) (ho : SH o = (0, 8)) (hlt : o < 65) (ha : hi h 7 1 = nI a) (ha9 : a + 4 ≤ 16) (k : Q (some (vI (hi h o 3 + (hi h o 0 + hi h o 4)))) (trL h a [11, 10, 21, 20])) : Spec (d + 4) 40 [vR (some 11), vR (some o), vR (some 7)] h Q := by
  refine spec_intro (by decide +kernel) rfl (Nat.le_of_ble_eq_true rfl) ?_
  refine r_aload_n (pc' := 1) d40_0 rfl rfl rfl ?_
  refine r_bipush (v := 11) (pc' := 3) d40_1 rfl (by decide) ?_
  refine r_call (pc' := 6) [vR (some 7), vI _] [] d40_3 rfl o40 st6_7_9 (rcv1 sh7 (pl hN rfl)) rfl (by decide) ⟨rfl, rfl⟩ (Nat.le_of_ble_eq_true rfl) rfl (t_leave (a := a) (b := 11) hN hC ha (by omega) ?_)
  refine r_aload_n (pc' := 7) d40_6 rfl rfl rfl ?_
  refine r_aload_n (pc' := 8) d40_7 rfl rfl rfl ?_
  refine r_aload_n (pc' := 9) d40_8 rfl rfl rfl ?_
  refine r_call (pc' := 12) [vR (some 11), vR (some o), vR (some 7)] [] d40_9 rfl o40 (st6_13 6) (rcv1 sh11 (pl hN rfl)) rfl (by decide) ⟨rfl, rfl⟩ (Nat.le_of_ble_eq_true rfl) rfl (k_11 (a := a + 1) hN hC ho hlt rfl (by omega) ?_)
  refine r_aload_n (pc' := 13) d40_12 rfl rfl rfl ?_
  refine r_aload_n (pc' := 14) d40_13 rfl rfl rfl ?_
  refine r_aload_n (pc' := 15) d40_14 rfl rfl rfl ?_
  refine r_call (pc' := 18) [vR (some 11), vR (some o), vR (some 7)] [vI _] d40_15 rfl o40 st6_17_6 (rcv1 sh11 (pl hN rfl)) rfl (by decide) ⟨rfl, rfl⟩ (Nat.le_of_ble_eq_true rfl) rfl (k_41_1 (a := a + 2) hN hC ho hlt rfl (by omega) ?_)
  refine r_iadd (pc' := 19) d40_18 rfl ?_
  exact r_iretI d40_19 rfl (qv (by simp only [trL_o (ne7 ho) (ne8 ho)]) k)
theorem k_40_2 {d : Nat} {h : Hp} {Q : Option AV → Hp → Prop} {o a : Nat} (hN : hn h = 65) (hC : RC h) (ho : SH o = (0, 8)) (hlt : o < 65) (ha : hi h 7 1 = nI a) (ha9 : a + 5 ≤ 16) (k : Q (some (vI (hi h o 3 + 2 * (hi h o 0 + hi h o 4)))) (trL h a [11, 10, 24, 21, 20])) : Spec (d + 4) 40 [vR (some 12), vR (some o), vR (some 7)] h Q := by
  refine spec_intro (by decide +kernel) rfl (Nat.le_of_ble_eq_true rfl) ?_
  refine r_aload_n (pc' := 1) d40_0 rfl rfl rfl ?_
  refine r_bipush (v := 11) (pc' := 3) d40_1 rfl (by decide) ?_
  refine r_call (pc' := 6) [vR (some 7), vI _] [] d40_3 rfl o40 st6_7_9 (rcv1 sh7 (pl hN rfl)) rfl (by decide) ⟨rfl, rfl⟩ (Nat.le_of_ble_eq_true rfl) rfl (t_leave (a := a) (b := 11) hN hC ha (by omega) ?_)
  refine r_aload_n (pc' := 7) d40_6 rfl rfl rfl ?_
  refine r_aload_n (pc' := 8) d40_7 rfl rfl rfl ?_
  refine r_aload_n (pc' := 9) d40_8 rfl rfl rfl ?_
  refine r_call (pc' := 12) [vR (some 12), vR (some o), vR (some 7)] [] d40_9 rfl o40 (st6_13 1) (rcv1 sh12 (pl hN rfl)) rfl (by decide) ⟨rfl, rfl⟩ (Nat.le_of_ble_eq_true rfl) rfl (k_11 (a := a + 1) hN hC ho hlt rfl (by omega) ?_)
  refine r_aload_n (pc' := 13) d40_12 rfl rfl rfl ?_
  refine r_aload_n (pc' := 14) d40_13 rfl rfl rfl ?_
  refine r_aload_n (pc' := 15) d40_14 rfl rfl rfl ?_
  refine r_call (pc' := 18) [vR (some 12), vR (some o), vR (some 7)] [vI _] d40_15 rfl o40 st6_17_1 (rcv1 sh12 (pl hN rfl)) rfl (by decide) ⟨rfl, rfl⟩ (Nat.le_of_ble_eq_true rfl) rfl (k_5 (a := a + 2) hN hC ho hlt rfl (by omega) ?_)
  refine r_iadd (pc' := 19) d40_18 rfl ?_
  exact r_iretI d40_19 rfl (qv (by simp only [trL_o (ne7 ho) (ne8 ho)]) k)
theorem k_40_3 {d : Nat} {h : Hp} {Q : Option AV → Hp → Prop} {o a : Nat} (hN : hn h = 65) (hC : RC h) (ho : SH o = (0, 8)) (hlt : o < 65) (ha : hi h 7 1 = nI a) (ha9 : a + 5 ≤ 16) (k : Q (some (vI (hi h o 3 + (hi h o 0 + hi h o 4 - 1000)))) (trL h a [11, 10, 22, 21, 20])) : Spec (d + 4) 40 [vR (some 13), vR (some o), vR (some 7)] h Q := by
  refine spec_intro (by decide +kernel) rfl (Nat.le_of_ble_eq_true rfl) ?_
  refine r_aload_n (pc' := 1) d40_0 rfl rfl rfl ?_
  refine r_bipush (v := 11) (pc' := 3) d40_1 rfl (by decide) ?_
  refine r_call (pc' := 6) [vR (some 7), vI _] [] d40_3 rfl o40 st6_7_9 (rcv1 sh7 (pl hN rfl)) rfl (by decide) ⟨rfl, rfl⟩ (Nat.le_of_ble_eq_true rfl) rfl (t_leave (a := a) (b := 11) hN hC ha (by omega) ?_)
  refine r_aload_n (pc' := 7) d40_6 rfl rfl rfl ?_
  refine r_aload_n (pc' := 8) d40_7 rfl rfl rfl ?_
  refine r_aload_n (pc' := 9) d40_8 rfl rfl rfl ?_
  refine r_call (pc' := 12) [vR (some 13), vR (some o), vR (some 7)] [] d40_9 rfl o40 (st6_13 7) (rcv1 sh13 (pl hN rfl)) rfl (by decide) ⟨rfl, rfl⟩ (Nat.le_of_ble_eq_true rfl) rfl (k_11 (a := a + 1) hN hC ho hlt rfl (by omega) ?_)
  refine r_aload_n (pc' := 13) d40_12 rfl rfl rfl ?_
  refine r_aload_n (pc' := 14) d40_13 rfl rfl rfl ?_
  refine r_aload_n (pc' := 15) d40_14 rfl rfl rfl ?_
  refine r_call (pc' := 18) [vR (some 13), vR (some o), vR (some 7)] [vI _] d40_15 rfl o40 st6_17_7 (rcv1 sh13 (pl hN rfl)) rfl (by decide) ⟨rfl, rfl⟩ (Nat.le_of_ble_eq_true rfl) rfl (k_43 (a := a + 2) hN hC ho hlt rfl (by omega) ?_)
  refine r_iadd (pc' := 19) d40_18 rfl ?_
  exact r_iretI d40_19 rfl (qv (by simp only [trL_o (ne7 ho) (ne8 ho)]) k)
theorem k_4 {d : Nat} {h : Hp} {Q : Option AV → Hp → Prop} {o a : Nat} (hN : hn h = 65) (hC : RC h) (ho : SH o = (0, 8)) (hlt : o < 65) (ha : hi h 7 1 = nI a) (ha9 : a + 6 ≤ 16) (k : Q (some (vI (-(hi h o 3 + 2 * (hi h o 0 + hi h o 4))))) (trL h a [12, 11, 10, 24, 21, 20])) : Spec (d + 5) 4 [vR (some 12), vR (some o), vR (some 7)] h Q := by
  refine spec_intro (by decide +kernel) rfl (Nat.le_of_ble_eq_true rfl) ?_
  refine r_aload_n (pc' := 1) d4_0 rfl rfl rfl ?_
  refine r_bipush (v := 12) (pc' := 3) d4_1 rfl (by decide) ?_
  refine r_call (pc' := 6) [vR (some 7), vI _] [] d4_3 rfl o4 st1_7_9 (rcv1 sh7 (pl hN rfl)) rfl (by decide) ⟨rfl, rfl⟩ (Nat.le_of_ble_eq_true rfl) rfl (t_leave (a := a) (b := 12) hN hC ha (by omega) ?_)
  refine r_aload_n (pc' := 7) d4_6 rfl rfl rfl ?_
  refine r_aload_n (pc' := 8) d4_7 rfl rfl rfl ?_
  refine r_aload_n (pc' := 9) d4_8 rfl rfl rfl ?_
  refine r_call (pc' := 12) [vR (some 12), vR (some o), vR (some 7)] [] d4_9 rfl o4 (st1_13 1) (rcv1 sh12 (pl hN rfl)) rfl (by decide) ⟨rfl, rfl⟩ (Nat.le_of_ble_eq_true rfl) rfl (k_40_2 (a := a + 1) hN hC ho hlt rfl (by omega) ?_)
  refine r_ineg (pc' := 13) d4_12 rfl ?_
  exact r_iretI d4_13 rfl (qv (by simp only [trL_o (ne7 ho) (ne8 ho)]) k)
theorem k_1_4 {d : Nat} {h : Hp} {Q : Option AV → Hp → Prop} {o a : Nat} (hN : hn h = 65) (hC : RC h) (ho : SH o = (0, 8)) (hlt : o < 65) (ha : hi h 7 1 = nI a) (ha9 : a + 2 ≤ 16) (k : Q (some (vI (hi h o 3 - 100))) (trL h a [13, 10])) : Spec (d + 2) 1 [vR (some 14), vR (some o), vR (some 7)] h Q := by
  refine spec_intro (by decide +kernel) rfl (Nat.le_of_ble_eq_true rfl) ?_
  refine r_aload_n (pc' := 1) d1_0 rfl rfl rfl ?_
  refine r_bipush (v := 13) (pc' := 3) d1_1 rfl (by decide) ?_
  refine r_call (pc' := 6) [vR (some 7), vI _] [] d1_3 rfl o1 st0_7_9 (rcv1 sh7 (pl hN rfl)) rfl (by decide) ⟨rfl, rfl⟩ (Nat.le_of_ble_eq_true rfl) rfl (t_leave (a := a) (b := 13) hN hC ha (by omega) ?_)
  refine r_aload_n (pc' := 7) d1_6 rfl rfl rfl ?_
  refine r_aload_n (pc' := 8) d1_7 rfl rfl rfl ?_
  refine r_aload_n (pc' := 9) d1_8 rfl rfl rfl ?_
  refine r_call (pc' := 12) [vR (some 14), vR (some o), vR (some 7)] [] d1_9 rfl o1 (st0_13 0) (rcv1 sh14 (pl hN rfl)) rfl (by decide) ⟨rfl, rfl⟩ (Nat.le_of_ble_eq_true rfl) rfl (k_11 (a := a + 1) hN hC ho hlt rfl (by omega) ?_)
  refine r_bipush (v := 100) (pc' := 14) d1_12 rfl (by decide) ?_
  refine r_isub (pc' := 15) d1_14 rfl ?_
  exact r_iretI d1_15 rfl (qv (by simp only [trL_o (ne7 ho) (ne8 ho)]) k)
theorem k_1_5 {d : Nat} {h : Hp} {Q : Option AV → Hp → Prop} {o a : Nat} (hN : hn h = 65) (hC : RC h) (ho : SH o = (0, 8)) (hlt : o < 65) (ha : hi h 7 1 = nI a) (ha9 : a + 2 ≤ 16) (k : Q (some (vI (hi h o 3 - 100))) (trL h a [13, 10])) : Spec (d + 2) 1 [vR (some 15), vR (some o), vR (some 7)] h Q := by
  refine spec_intro (by decide +kernel) rfl (Nat.le_of_ble_eq_true rfl) ?_
  refine r_aload_n (pc' := 1) d1_0 rfl rfl rfl ?_
  refine r_bipush (v := 13) (pc' := 3) d1_1 rfl (by decide) ?_
  refine r_call (pc' := 6) [vR (some 7), vI _] [] d1_3 rfl o1 st0_7_9 (rcv1 sh7 (pl hN rfl)) rfl (by decide) ⟨rfl, rfl⟩ (Nat.le_of_ble_eq_true rfl) rfl (t_leave (a := a) (b := 13) hN hC ha (by omega) ?_)
  refine r_aload_n (pc' := 7) d1_6 rfl rfl rfl ?_
  refine r_aload_n (pc' := 8) d1_7 rfl rfl rfl ?_
  refine r_aload_n (pc' := 9) d1_8 rfl rfl rfl ?_
  refine r_call (pc' := 12) [vR (some 15), vR (some o), vR (some 7)] [] d1_9 rfl o1 (st0_13 2) (rcv1 sh15 (pl hN rfl)) rfl (by decide) ⟨rfl, rfl⟩ (Nat.le_of_ble_eq_true rfl) rfl (k_11 (a := a + 1) hN hC ho hlt rfl (by omega) ?_)
  refine r_bipush (v := 100) (pc' := 14) d1_12 rfl (by decide) ?_
  refine r_isub (pc' := 15) d1_14 rfl ?_
  exact r_iretI d1_15 rfl (qv (by simp only [trL_o (ne7 ho) (ne8 ho)]) k)
theorem k_7 {d : Nat} {h : Hp} {Q : Option AV → Hp → Prop} {o a : Nat} (hN : hn h = 65) (hC : RC h) (ho : SH o = (0, 8)) (hlt : o < 65) (ha : hi h 7 1 = nI a) (ha9 : a + 3 ≤ 16) (k : Q (some (vI (2 * (hi h o 3 - 100)))) (trL h a [14, 13, 10])) : Spec (d + 3) 7 [vR (some 15), vR (some o), vR (some 7)] h Q := by
  refine spec_intro (by decide +kernel) rfl (Nat.le_of_ble_eq_true rfl) ?_
  refine r_aload_n (pc' := 1) d7_0 rfl rfl rfl ?_
  refine r_bipush (v := 14) (pc' := 3) d7_1 rfl (by decide) ?_
  refine r_call (pc' := 6) [vR (some 7), vI _] [] d7_3 rfl o7 st2_7_9 (rcv1 sh7 (pl hN rfl)) rfl (by decide) ⟨rfl, rfl⟩ (Nat.le_of_ble_eq_true rfl) rfl (t_leave (a := a) (b := 14) hN hC ha (by omega) ?_)
  refine r_iconst (v := 2) (pc' := 7) d7_6 rfl (by decide) ?_
  refine r_aload_n (pc' := 8) d7_7 rfl rfl rfl ?_
  refine r_aload_n (pc' := 9) d7_8 rfl rfl rfl ?_
  refine r_aload_n (pc' := 10) d7_9 rfl rfl rfl ?_
  refine r_call (pc' := 13) [vR (some 15), vR (some o), vR (some 7)] [vI _] d7_10 rfl o7 (st2_13 2) (rcv1 sh15 (pl hN rfl)) rfl (by decide) ⟨rfl, rfl⟩ (Nat.le_of_ble_eq_true rfl) rfl (k_1_5 (a := a + 1) hN hC ho hlt rfl (by omega) ?_)
  refine r_imul (pc' := 14) d7_13 rfl ?_
  exact r_iretI d7_14 rfl (qv (by simp only [trL_o (ne7 ho) (ne8 ho)]) k)
theorem k_2_4 {d : Nat} {h : Hp} {Q : Option AV → Hp → Prop} {o a : Nat} (hN : hn h = 65) (hC : RC h) (ho : SH o = (0, 8)) (hlt : o < 65) (ha : hi h 7 1 = nI a) (ha9 : a + 4 ≤ 16) (k : Q (some (vI (hi h o 0 - (hi h o 3 - 100)))) (trL h a [23, 20, 13, 10])) : Spec (d + 4) 2 [vR (some 14), vR (some o), vR (some 7)] h Q := by
  refine spec_intro (by decide +kernel) rfl (Nat.le_of_ble_eq_true rfl) ?_
  refine r_aload_n (pc' := 1) d2_0 rfl rfl rfl ?_
  refine r_bipush (v := 23) (pc' := 3) d2_1 rfl (by decide) ?_
  refine r_call (pc' := 6) [vR (some 7), vI _] [] d2_3 rfl o2 st0_7_9 (rcv1 sh7 (pl hN rfl)) rfl (by decide) ⟨rfl, rfl⟩ (Nat.le_of_ble_eq_true rfl) rfl (t_leave (a := a) (b := 23) hN hC ha (by omega) ?_)
  refine r_aload_n (pc' := 7) d2_6 rfl rfl rfl ?_
  refine r_aload_n (pc' := 8) d2_7 rfl rfl rfl ?_
  refine r_aload_n (pc' := 9) d2_8 rfl rfl rfl ?_
  refine r_call (pc' := 12) [vR (some 14), vR (some o), vR (some 7)] [] d2_9 rfl o2 (st0_17 0) (rcv1 sh14 (pl hN rfl)) rfl (by decide) ⟨rfl, rfl⟩ (Nat.le_of_ble_eq_true rfl) rfl (k_12 (a := a + 1) hN hC ho hlt rfl (by omega) ?_)
  refine r_aload_n (pc' := 13) d2_12 rfl rfl rfl ?_
  refine r_aload_n (pc' := 14) d2_13 rfl rfl rfl ?_
  refine r_aload_n (pc' := 15) d2_14 rfl rfl rfl ?_
  refine r_call (pc' := 18) [vR (some 14), vR (some o), vR (some 7)] [vI _] d2_15 rfl o2 st0_20_0 (rcv1 sh14 (pl hN rfl)) rfl (by decide) ⟨rfl, rfl⟩ (Nat.le_of_ble_eq_true rfl) rfl (k_1_4 (a := a + 2) hN hC ho hlt rfl (by omega) ?_)
  refine r_isub (pc' := 19) d2_18 rfl ?_
  exact r_iretI d2_19 rfl (qv (by simp only [trL_o (ne7 ho) (ne8 ho)]) k)
theorem k_2_5 {d : Nat} {h : Hp} {Q : Option AV → Hp → Prop} {o a : Nat} (hN : hn h = 65) (hC : RC h) (ho : SH o = (0, 8)) (hlt : o < 65) (ha : hi h 7 1 = nI a) (ha9 : a + 5 ≤ 16) (k : Q (some (vI (hi h o 0 - 2 * (hi h o 3 - 100)))) (trL h a [23, 20, 14, 13, 10])) : Spec (d + 4) 2 [vR (some 15), vR (some o), vR (some 7)] h Q := by
  refine spec_intro (by decide +kernel) rfl (Nat.le_of_ble_eq_true rfl) ?_
  refine r_aload_n (pc' := 1) d2_0 rfl rfl rfl ?_
  refine r_bipush (v := 23) (pc' := 3) d2_1 rfl (by decide) ?_
  refine r_call (pc' := 6) [vR (some 7), vI _] [] d2_3 rfl o2 st0_7_9 (rcv1 sh7 (pl hN rfl)) rfl (by decide) ⟨rfl, rfl⟩ (Nat.le_of_ble_eq_true rfl) rfl (t_leave (a := a) (b := 23) hN hC ha (by omega) ?_)
  refine r_aload_n (pc' := 7) d2_6 rfl rfl rfl ?_
  refine r_aload_n (pc' := 8) d2_7 rfl rfl rfl ?_
  refine r_aload_n (pc' := 9) d2_8 rfl rfl rfl ?_
  refine r_call (pc' := 12) [vR (some 15), vR (some o), vR (some 7)] [] d2_9 rfl o2 (st0_17 2) (rcv1 sh15 (pl hN rfl)) rfl (by decide) ⟨rfl, rfl⟩ (Nat.le_of_ble_eq_true rfl) rfl (k_12 (a := a + 1) hN hC ho hlt rfl (by omega) ?_)
  refine r_aload_n (pc' := 13) d2_12 rfl rfl rfl ?_
  refine r_aload_n (pc' := 14) d2_13 rfl rfl rfl ?_
  refine r_aload_n (pc' := 15) d2_14 rfl rfl rfl ?_
  refine r_call (pc' := 18) [vR (some 15), vR (some o), vR (some 7)] [vI _] d2_15 rfl o2 st0_20_2 (rcv1 sh15 (pl hN rfl)) rfl (by decide) ⟨rfl, rfl⟩ (Nat.le_of_ble_eq_true rfl) rfl (k_7 (a := a + 2) hN hC ho hlt rfl (by omega) ?_)
  refine r_isub (pc' := 19) d2_18 rfl ?_
  exact r_iretI d2_19 rfl (qv (by simp only [trL_o (ne7 ho) (ne8 ho)]) k)
