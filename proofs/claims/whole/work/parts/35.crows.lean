/-! the class's rows (printed by wip/whole/m35.py) -/
theorem c_isRow {d : Nat} {h : Hp} {Q : Option AV → Hp → Prop} {r : Int32} (k : Q (some (vI (bI (0 ≤ r ∧ r ≤ 7)))) h) : Spec d 28 [vR (some 1), vI r] h Q := by
  refine spec_intro (by decide +kernel) rfl (Nat.le_of_ble_eq_true rfl) ?_
  refine r_iload_n (pc' := 1) d28_0 rfl rfl rfl ?_
  refine r_if_lt 14 (pc' := 4) d28_1 rfl rfl (fun c1 => ?_) (fun c1 => ?_)
  · refine r_iconst (v := 0) (pc' := 15) d28_14 rfl (by decide) ?_
    exact r_iretZ0 d28_15 rfl (qv (b0 (by intro w; first | exact absurd w.1 (Int32.not_le.mpr c1) | (have z := w.2; simp only [Int32.le_iff_toInt_le] at *; rw [show (8 : Int32).toInt = 8 from rfl] at c7; rw [show (7 : Int32).toInt = 7 from rfl] at z; omega))) k)
  · refine r_iload_n (pc' := 5) d28_4 rfl rfl rfl ?_
    refine r_bipush (v := 8) (pc' := 7) d28_5 rfl (by decide) ?_
    refine r_icmp_ge 14 (pc' := 10) d28_7 rfl rfl (fun c7 => ?_) (fun c7 => ?_)
    · refine r_iconst (v := 0) (pc' := 15) d28_14 rfl (by decide) ?_
      exact r_iretZ0 d28_15 rfl (qv (b0 (by intro w; first | exact absurd w.1 (Int32.not_le.mpr c1) | (have z := w.2; simp only [Int32.le_iff_toInt_le] at *; rw [show (8 : Int32).toInt = 8 from rfl] at c7; rw [show (7 : Int32).toInt = 7 from rfl] at z; omega))) k)
    · refine r_iconst (v := 1) (pc' := 11) d28_10 rfl (by decide) ?_
      refine r_goto 15 d28_11 rfl ?_
      exact r_iretZ1 d28_15 rfl (qv (b1 (by refine ⟨Int32.not_lt.mp c1, ?_⟩; simp only [Int32.le_iff_toInt_le] at *; rw [show (8 : Int32).toInt = 8 from rfl] at c7; rw [show (7 : Int32).toInt = 7 from rfl]; omega)) k)
theorem c_isMissing {d : Nat} {h : Hp} {Q : Option AV → Hp → Prop} {j : Nat} (hN : hn h = 65) (hC : RC h) (hj : j < 8) (k : Q (some (vI (bI (hi h 3 j = -1)))) h) : Spec d 29 [vR (some 1), vI (nI j)] h Q := by
  refine spec_intro (by decide +kernel) rfl (Nat.le_of_ble_eq_true rfl) ?_
  refine r_aload_n (pc' := 1) d29_0 rfl rfl rfl ?_
  refine r_getS (pc' := 4) d29_1 rfl o29 sf5_13_5 sh1 (pl hN rfl) (rfc1_1 hC) ?_
  refine r_iload_n (pc' := 5) d29_4 rfl rfl rfl ?_
  refine r_ialdN (pc' := 6) (j := j) d29_5 rfl sh3 (pl hN rfl) rfl (by omega) (by decide) ?_
  refine r_iconst (v := (-1)) (pc' := 7) d29_6 rfl (by decide) ?_
  refine r_icmp_ne 14 (pc' := 10) d29_7 rfl rfl (fun c7 => ?_) (fun c7 => ?_)
  · refine r_iconst (v := 0) (pc' := 15) d29_14 rfl (by decide) ?_
    exact r_iretZ0 d29_15 rfl (qv (b0 c7) k)
  · refine r_iconst (v := 1) (pc' := 11) d29_10 rfl (by decide) ?_
    refine r_goto 15 d29_11 rfl ?_
    exact r_iretZ1 d29_15 rfl (qv (b1 c7) k)
theorem c_sameLane {d : Nat} {h : Hp} {Q : Option AV → Hp → Prop} {x y : Nat} (hN : hn h = 65) (hC : RC h) (hx : x < 8) (hy : y < 8) (k : Q (some (vI (bI (hi h 3 x = hi h 3 y)))) h) : Spec d 30 [vR (some 1), vI (nI x), vI (nI y)] h Q := by
  refine spec_intro (by decide +kernel) rfl (Nat.le_of_ble_eq_true rfl) ?_
  refine r_aload_n (pc' := 1) d30_0 rfl rfl rfl ?_
  refine r_getS (pc' := 4) d30_1 rfl o30 sf5_13_5 sh1 (pl hN rfl) (rfc1_1 hC) ?_
  refine r_iload_n (pc' := 5) d30_4 rfl rfl rfl ?_
  refine r_ialdN (pc' := 6) (j := x) d30_5 rfl sh3 (pl hN rfl) rfl (by omega) (by decide) ?_
  refine r_aload_n (pc' := 7) d30_6 rfl rfl rfl ?_
  refine r_getS (pc' := 10) d30_7 rfl o30 sf5_13_5 sh1 (pl hN rfl) (rfc1_1 hC) ?_
  refine r_iload_n (pc' := 11) d30_10 rfl rfl rfl ?_
  refine r_ialdN (pc' := 12) (j := y) d30_11 rfl sh3 (pl hN rfl) rfl (by omega) (by decide) ?_
  refine r_icmp_ne 19 (pc' := 15) d30_12 rfl rfl (fun c12 => ?_) (fun c12 => ?_)
  · refine r_iconst (v := 0) (pc' := 20) d30_19 rfl (by decide) ?_
    exact r_iretZ0 d30_20 rfl (qv (b0 c12) k)
  · refine r_iconst (v := 1) (pc' := 16) d30_15 rfl (by decide) ?_
    refine r_goto 20 d30_16 rfl ?_
    exact r_iretZ1 d30_20 rfl (qv (b1 c12) k)
theorem c_hasPlaces {d : Nat} {h : Hp} {Q : Option AV → Hp → Prop} {j : Nat} {i n : Int32} (hN : hn h = 65) (hC : RC h) (hj : j < 8) (k : Q (some (vI (bI (0 ≤ i ∧ 0 ≤ n ∧ n ≤ hi h 4 j ∧ i ≤ hi h 4 j - n)))) h) : Spec d 31 [vR (some 1), vI (nI j), vI i, vI n] h Q := by
  refine spec_intro (by decide +kernel) rfl (Nat.le_of_ble_eq_true rfl) ?_
  refine r_iload_n (pc' := 1) d31_0 rfl rfl rfl ?_
  refine r_if_lt 34 (pc' := 4) d31_1 rfl rfl (fun c1 => ?_) (fun c1 => ?_)
  · refine r_iconst (v := 0) (pc' := 35) d31_34 rfl (by decide) ?_
    exact r_iretZ0 d31_35 rfl (qv (b0 (by intro w; first | exact absurd w.1 (Int32.not_le.mpr c1) | exact absurd w.2.1 (Int32.not_le.mpr c5) | exact absurd w.2.2.1 (Int32.not_le.mpr c15) | exact absurd w.2.2.2 (Int32.not_le.mpr c27))) k)
  · refine r_iload_n (pc' := 5) d31_4 rfl rfl rfl ?_
    refine r_if_lt 34 (pc' := 8) d31_5 rfl rfl (fun c5 => ?_) (fun c5 => ?_)
    · refine r_iconst (v := 0) (pc' := 35) d31_34 rfl (by decide) ?_
      exact r_iretZ0 d31_35 rfl (qv (b0 (by intro w; first | exact absurd w.1 (Int32.not_le.mpr c1) | exact absurd w.2.1 (Int32.not_le.mpr c5) | exact absurd w.2.2.1 (Int32.not_le.mpr c15) | exact absurd w.2.2.2 (Int32.not_le.mpr c27))) k)
    · refine r_iload_n (pc' := 9) d31_8 rfl rfl rfl ?_
      refine r_aload_n (pc' := 10) d31_9 rfl rfl rfl ?_
      refine r_getS (pc' := 13) d31_10 rfl o31 sf5_16_5 sh1 (pl hN rfl) (rfc1_2 hC) ?_
      refine r_iload_n (pc' := 14) d31_13 rfl rfl rfl ?_
      refine r_ialdN (pc' := 15) (j := j) d31_14 rfl sh4 (pl hN rfl) rfl (by omega) (by decide) ?_
      refine r_icmp_gt 34 (pc' := 18) d31_15 rfl rfl (fun c15 => ?_) (fun c15 => ?_)
      · refine r_iconst (v := 0) (pc' := 35) d31_34 rfl (by decide) ?_
        exact r_iretZ0 d31_35 rfl (qv (b0 (by intro w; first | exact absurd w.1 (Int32.not_le.mpr c1) | exact absurd w.2.1 (Int32.not_le.mpr c5) | exact absurd w.2.2.1 (Int32.not_le.mpr c15) | exact absurd w.2.2.2 (Int32.not_le.mpr c27))) k)
      · refine r_iload_n (pc' := 19) d31_18 rfl rfl rfl ?_
        refine r_aload_n (pc' := 20) d31_19 rfl rfl rfl ?_
        refine r_getS (pc' := 23) d31_20 rfl o31 sf5_16_5 sh1 (pl hN rfl) (rfc1_2 hC) ?_
        refine r_iload_n (pc' := 24) d31_23 rfl rfl rfl ?_
        refine r_ialdN (pc' := 25) (j := j) d31_24 rfl sh4 (pl hN rfl) rfl (by omega) (by decide) ?_
        refine r_iload_n (pc' := 26) d31_25 rfl rfl rfl ?_
        refine r_isub (pc' := 27) d31_26 rfl ?_
        refine r_icmp_gt 34 (pc' := 30) d31_27 rfl rfl (fun c27 => ?_) (fun c27 => ?_)
        · refine r_iconst (v := 0) (pc' := 35) d31_34 rfl (by decide) ?_
          exact r_iretZ0 d31_35 rfl (qv (b0 (by intro w; first | exact absurd w.1 (Int32.not_le.mpr c1) | exact absurd w.2.1 (Int32.not_le.mpr c5) | exact absurd w.2.2.1 (Int32.not_le.mpr c15) | exact absurd w.2.2.2 (Int32.not_le.mpr c27))) k)
        · refine r_iconst (v := 1) (pc' := 31) d31_30 rfl (by decide) ?_
          refine r_goto 35 d31_31 rfl ?_
          exact r_iretZ1 d31_35 rfl (qv (b1 ⟨Int32.not_lt.mp c1, Int32.not_lt.mp c5, Int32.not_lt.mp c15, Int32.not_lt.mp c27⟩) k)
theorem c_lay {d : Nat} {h : Hp} {Q : Option AV → Hp → Prop} {j m : Nat} {lane : Int32} (hN : hn h = 65) (hC : RC h) (hj : j < 8) (hm : m ≤ 40) (kW : Q none (setw (seti (seti h 3 j lane) 4 j (nI m)) 2 (mix (fun _ => 0) (hi h 2) (40 * j) m))) : Spec d 32 [vR (some 1), vI (nI j), vI lane, vI (nI m)] h Q := by
  refine spec_intro (by decide +kernel) rfl (Nat.le_of_ble_eq_true rfl) ?_
  refine r_aload_n (pc' := 1) d32_0 rfl rfl rfl ?_
  refine r_getS (pc' := 4) d32_1 rfl o32 sf5_13_5 sh1 (pl hN rfl) (rfc1_1 hC) ?_
  refine r_iload_n (pc' := 5) d32_4 rfl rfl rfl ?_
  refine r_iload_n (pc' := 6) d32_5 rfl rfl rfl ?_
  refine r_iastN (pc' := 7) (j := j) d32_6 rfl sh3 (pl hN rfl) rfl (by omega) (by decide) ?_
  refine r_aload_n (pc' := 8) d32_7 rfl rfl rfl ?_
  refine r_getS (pc' := 11) d32_8 rfl o32 sf5_16_5 sh1 (pl hN rfl) (rfc1_2 hC) ?_
  refine r_iload_n (pc' := 12) d32_11 rfl rfl rfl ?_
  refine r_iload_n (pc' := 13) d32_12 rfl rfl rfl ?_
  refine r_iastN (pc' := 14) (j := j) d32_13 rfl sh4 (pl hN rfl) rfl (by omega) (by decide) ?_
  refine r_iconst (v := 0) (pc' := 15) d32_14 rfl (by decide) ?_
  refine r_istore (pc' := 17) (ls' := [(4, vI _), (0, vR (some 1)), (1, vI _), (2, vI _), (3, vI _)]) d32_15 rfl (by decide) rfl ?_
  refine wp_pick (ls' := [(0, vR (some 1)), (1, vI _), (2, vI _), (3, vI _), (4, vI _)]) [1, 2, 3, 4, 0] rfl ?_
  have loop : ∀ (r k : Nat), k + r = m → wp d 32 Q 0 0 17 [(0, vR (some 1)), (1, vI (nI j)), (2, vI lane), (3, vI (nI m)), (4, vI (nI k))] [] (setw (seti (seti h 3 j lane) 4 j (nI m)) 2 (mix (fun _ => 0) (hi h 2) (40 * j) k)) := by
    intro r
    induction r with
    | zero =>
      intro k hk
      obtain rfl : k = m := by omega
      refine r_iload (pc' := 19) d32_17 rfl rfl ?_
      refine r_iload_n (pc' := 20) d32_19 rfl rfl rfl ?_
      refine r_icmp_ge 42 (pc' := 23) d32_20 rfl rfl (fun c20 => ?_) (fun c20 => absurd (nI_le (Nat.le_refl _) (by omega)) c20)
      exact r_ret d32_42 rfl kW
    | succ r ih =>
      intro k hk
      refine r_iload (pc' := 19) d32_17 rfl rfl ?_
      refine r_iload_n (pc' := 20) d32_19 rfl rfl rfl ?_
      refine r_icmp_ge 42 (pc' := 23) d32_20 rfl rfl (fun c20 => absurd c20 (nI_ge (by omega) (by omega))) (fun c20 => ?_)
      refine r_aload_n (pc' := 24) d32_23 rfl rfl rfl ?_
      refine r_getS (pc' := 27) d32_24 rfl o32 sf5_9_5 sh1 (pl hN rfl) (rfc1_0 hC) ?_
      refine r_iload_n (pc' := 28) d32_27 rfl rfl rfl ?_
      refine r_bipush (v := 40) (pc' := 30) d32_28 rfl (by decide) ?_
      refine r_imul (pc' := 31) d32_30 rfl ?_
      refine r_iload (pc' := 33) d32_31 rfl rfl ?_
      refine r_iadd (pc' := 34) d32_33 rfl ?_
      refine r_iconst (v := 0) (pc' := 35) d32_34 rfl (by decide) ?_
      refine r_iastN (pc' := 36) (j := (40 * j + k)) d32_35 rfl sh2 (pl hN rfl) (by rw [lit 40, pk_mul, nI_add, Nat.mul_comm]) (by omega) (by decide) ?_
      refine r_iinc (v := _ + 1) (pc' := 39) (ls' := [(4, vI _), (0, vR (some 1)), (1, vI _), (2, vI _), (3, vI _)]) d32_36 rfl rfl rfl (by decide) rfl ?_
      refine r_goto 17 d32_39 rfl ?_
      refine wp_pick (ls' := [(0, vR (some 1)), (1, vI _), (2, vI _), (3, vI _), (4, vI _)]) [1, 2, 3, 4, 0] rfl ?_
      refine wp_heap (h' := setw (seti (seti h 3 j lane) 4 j (nI m)) 2 (mix (fun _ => 0) (hi h 2) (40 * j) (k + 1))) ((seti_setw _ _ _ _ _).trans (congrArg (setw _ _) (mix_s (fun _ => 0) (hi h 2) (40 * j) k))) ?_
      rw [nI_1]
      exact ih (k + 1) (by omega)
  refine wp_heap (h' := setw (seti (seti h 3 j lane) 4 j (nI m)) 2 (mix (fun _ => 0) (hi h 2) (40 * j) 0)) (by rw [mix_0]; exact (setw_self _ 2).symm) ?_
  exact loop m 0 (by omega)
theorem c_put {d : Nat} {h : Hp} {Q : Option AV → Hp → Prop} {j q : Nat} {v : Int32} (hN : hn h = 65) (hC : RC h) (hj : j < 8) (hq : q < 40) (kW : Q (some (vI (cut (hi h 3 j) v))) (seti h 2 (40 * j + q) (cut (hi h 3 j) v))) : Spec d 34 [vR (some 1), vI (nI j), vI (nI q), vI v] h Q := by
  refine spec_intro (by decide +kernel) rfl (Nat.le_of_ble_eq_true rfl) ?_
  refine r_aload_n (pc' := 1) d34_0 rfl rfl rfl ?_
  refine r_getS (pc' := 4) d34_1 rfl o34 sf5_13_5 sh1 (pl hN rfl) (rfc1_1 hC) ?_
  refine r_iload_n (pc' := 5) d34_4 rfl rfl rfl ?_
  refine r_ialdN (pc' := 6) (j := j) d34_5 rfl sh3 (pl hN rfl) rfl (by omega) (by decide) ?_
  refine r_if_ne 14 (pc' := 9) d34_6 rfl rfl (fun c6 => ?_) (fun c6 => ?_)
  · refine r_aload_n (pc' := 15) d34_14 rfl rfl rfl ?_
    refine r_getS (pc' := 18) d34_15 rfl o34 sf5_13_5 sh1 (pl hN rfl) (rfc1_1 hC) ?_
    refine r_iload_n (pc' := 19) d34_18 rfl rfl rfl ?_
    refine r_ialdN (pc' := 20) (j := j) d34_19 rfl sh3 (pl hN rfl) rfl (by omega) (by decide) ?_
    refine r_iconst (v := 1) (pc' := 21) d34_20 rfl (by decide) ?_
    refine r_icmp_ne 29 (pc' := 24) d34_21 rfl rfl (fun c21 => ?_) (fun c21 => ?_)
    · refine r_iload_n (pc' := 30) d34_29 rfl rfl rfl ?_
      refine r_istore (pc' := 32) (ls' := [(4, vI _), (0, vR (some 1)), (1, vI _), (2, vI _), (3, vI _)]) d34_30 rfl (by decide) rfl ?_
      refine r_aload_n (pc' := 33) d34_32 rfl rfl rfl ?_
      refine r_getS (pc' := 36) d34_33 rfl o34 sf5_9_5 sh1 (pl hN rfl) (rfc1_0 hC) ?_
      refine r_iload_n (pc' := 37) d34_36 rfl rfl rfl ?_
      refine r_bipush (v := 40) (pc' := 39) d34_37 rfl (by decide) ?_
      refine r_imul (pc' := 40) d34_39 rfl ?_
      refine r_iload_n (pc' := 41) d34_40 rfl rfl rfl ?_
      refine r_iadd (pc' := 42) d34_41 rfl ?_
      refine r_iload (pc' := 44) d34_42 rfl rfl ?_
      refine r_iastN (pc' := 45) (j := (40 * j + q)) d34_44 rfl sh2 (pl hN rfl) (by rw [lit 40, pk_mul, nI_add, Nat.mul_comm]) (by omega) (by decide) ?_
      refine r_iload (pc' := 47) d34_45 rfl rfl ?_
      exact r_iretI d34_47 rfl (by have w := kW; first | (rw [cut, if_pos c6] at w; exact w) | (rw [cut, if_neg c6, if_pos c21] at w; exact w) | (rw [cut, if_neg c6, if_neg c21] at w; exact w))
    · refine r_iload_n (pc' := 25) d34_24 rfl rfl rfl ?_
      refine r_i2s (pc' := 26) d34_25 rfl ?_
      refine r_goto 30 d34_26 rfl ?_
      refine r_istore (pc' := 32) (ls' := [(4, vI _), (0, vR (some 1)), (1, vI _), (2, vI _), (3, vI _)]) d34_30 rfl (by decide) rfl ?_
      refine r_aload_n (pc' := 33) d34_32 rfl rfl rfl ?_
      refine r_getS (pc' := 36) d34_33 rfl o34 sf5_9_5 sh1 (pl hN rfl) (rfc1_0 hC) ?_
      refine r_iload_n (pc' := 37) d34_36 rfl rfl rfl ?_
      refine r_bipush (v := 40) (pc' := 39) d34_37 rfl (by decide) ?_
      refine r_imul (pc' := 40) d34_39 rfl ?_
      refine r_iload_n (pc' := 41) d34_40 rfl rfl rfl ?_
      refine r_iadd (pc' := 42) d34_41 rfl ?_
      refine r_iload (pc' := 44) d34_42 rfl rfl ?_
      refine r_iastN (pc' := 45) (j := (40 * j + q)) d34_44 rfl sh2 (pl hN rfl) (by rw [lit 40, pk_mul, nI_add, Nat.mul_comm]) (by omega) (by decide) ?_
      refine r_iload (pc' := 47) d34_45 rfl rfl ?_
      exact r_iretI d34_47 rfl (by have w := kW; first | (rw [cut, if_pos c6] at w; exact w) | (rw [cut, if_neg c6, if_pos c21] at w; exact w) | (rw [cut, if_neg c6, if_neg c21] at w; exact w))
  · refine r_iload_n (pc' := 10) d34_9 rfl rfl rfl ?_
    refine r_i2b (pc' := 11) d34_10 rfl ?_
    refine r_goto 30 d34_11 rfl ?_
    refine r_istore (pc' := 32) (ls' := [(4, vI _), (0, vR (some 1)), (1, vI _), (2, vI _), (3, vI _)]) d34_30 rfl (by decide) rfl ?_
    refine r_aload_n (pc' := 33) d34_32 rfl rfl rfl ?_
    refine r_getS (pc' := 36) d34_33 rfl o34 sf5_9_5 sh1 (pl hN rfl) (rfc1_0 hC) ?_
    refine r_iload_n (pc' := 37) d34_36 rfl rfl rfl ?_
    refine r_bipush (v := 40) (pc' := 39) d34_37 rfl (by decide) ?_
    refine r_imul (pc' := 40) d34_39 rfl ?_
    refine r_iload_n (pc' := 41) d34_40 rfl rfl rfl ?_
    refine r_iadd (pc' := 42) d34_41 rfl ?_
    refine r_iload (pc' := 44) d34_42 rfl rfl ?_
    refine r_iastN (pc' := 45) (j := (40 * j + q)) d34_44 rfl sh2 (pl hN rfl) (by rw [lit 40, pk_mul, nI_add, Nat.mul_comm]) (by omega) (by decide) ?_
    refine r_iload (pc' := 47) d34_45 rfl rfl ?_
    exact r_iretI d34_47 rfl (by have w := kW; first | (rw [cut, if_pos c6] at w; exact w) | (rw [cut, if_neg c6, if_pos c21] at w; exact w) | (rw [cut, if_neg c6, if_neg c21] at w; exact w))
theorem c_get {d : Nat} {h : Hp} {Q : Option AV → Hp → Prop} {j q : Nat} (hN : hn h = 65) (hC : RC h) (hj : j < 8) (hq : q < 40) (kW : Q (some (vI (hi h 2 (40 * j + q)))) h) : Spec d 33 [vR (some 1), vI (nI j), vI (nI q)] h Q := by
  refine spec_intro (by decide +kernel) rfl (Nat.le_of_ble_eq_true rfl) ?_
  refine r_aload_n (pc' := 1) d33_0 rfl rfl rfl ?_
  refine r_getS (pc' := 4) d33_1 rfl o33 sf5_9_5 sh1 (pl hN rfl) (rfc1_0 hC) ?_
  refine r_iload_n (pc' := 5) d33_4 rfl rfl rfl ?_
  refine r_bipush (v := 40) (pc' := 7) d33_5 rfl (by decide) ?_
  refine r_imul (pc' := 8) d33_7 rfl ?_
  refine r_iload_n (pc' := 9) d33_8 rfl rfl rfl ?_
  refine r_iadd (pc' := 10) d33_9 rfl ?_
  refine r_ialdN (pc' := 11) (j := (40 * j + q)) d33_10 rfl sh2 (pl hN rfl) (by rw [lit 40, pk_mul, nI_add, Nat.mul_comm]) (by omega) (by decide) ?_
  exact r_iretI d33_11 rfl kW
theorem c_forget {d : Nat} {h : Hp} {Q : Option AV → Hp → Prop} {j : Nat} (hN : hn h = 65) (hC : RC h) (hj : j < 8) (kW : Q (some (vI (hi h 4 j))) (seti h 3 j (-1))) : Spec d 36 [vR (some 1), vI (nI j)] h Q := by
  refine spec_intro (by decide +kernel) rfl (Nat.le_of_ble_eq_true rfl) ?_
  refine r_aload_n (pc' := 1) d36_0 rfl rfl rfl ?_
  refine r_getS (pc' := 4) d36_1 rfl o36 sf5_13_5 sh1 (pl hN rfl) (rfc1_1 hC) ?_
  refine r_iload_n (pc' := 5) d36_4 rfl rfl rfl ?_
  refine r_iconst (v := (-1)) (pc' := 6) d36_5 rfl (by decide) ?_
  refine r_iastN (pc' := 7) (j := j) d36_6 rfl sh3 (pl hN rfl) rfl (by omega) (by decide) ?_
  refine r_aload_n (pc' := 8) d36_7 rfl rfl rfl ?_
  refine r_getS (pc' := 11) d36_8 rfl o36 sf5_16_5 sh1 (pl hN rfl) (rfc1_2 hC) ?_
  refine r_iload_n (pc' := 12) d36_11 rfl rfl rfl ?_
  refine r_ialdN (pc' := 13) (j := j) d36_12 rfl sh4 (pl hN rfl) rfl (by omega) (by decide) ?_
  exact r_iretI d36_13 rfl (qv (by rw [hi_seti_ne _ _ _ _ _ (by decide)]) kW)
theorem c_carry {d : Nat} {h : Hp} {Q : Option AV → Hp → Prop} {x y p q m : Nat} (hN : hn h = 65) (hC : RC h) (hx : x < 8) (hy : y < 8) (hp : p + m ≤ 40) (hq : q + m ≤ 40) (kW : Q none (setw h 2 (va_cpy (hi h 2) (hi h 2) (40 * x + p) (40 * y + q) m))) : Spec (d + 1) 35 [vR (some 1), vI (nI x), vI (nI p), vI (nI y), vI (nI q), vI (nI m)] h Q := by
  refine spec_intro (by decide +kernel) rfl (Nat.le_of_ble_eq_true rfl) ?_
  refine r_aload_n (pc' := 1) d35_0 rfl rfl rfl ?_
  refine r_getS (pc' := 4) d35_1 rfl o35 sf5_9_5 sh1 (pl hN rfl) (rfc1_0 hC) ?_
  refine r_iload_n (pc' := 5) d35_4 rfl rfl rfl ?_
  refine r_bipush (v := 40) (pc' := 7) d35_5 rfl (by decide) ?_
  refine r_imul (pc' := 8) d35_7 rfl ?_
  refine r_iload_n (pc' := 9) d35_8 rfl rfl rfl ?_
  refine r_iadd (pc' := 10) d35_9 rfl ?_
  refine r_aload_n (pc' := 11) d35_10 rfl rfl rfl ?_
  refine r_getS (pc' := 14) d35_11 rfl o35 sf5_9_5 sh1 (pl hN rfl) (rfc1_0 hC) ?_
  refine r_iload_n (pc' := 15) d35_14 rfl rfl rfl ?_
  refine r_bipush (v := 40) (pc' := 17) d35_15 rfl (by decide) ?_
  refine r_imul (pc' := 18) d35_17 rfl ?_
  refine r_iload (pc' := 20) d35_18 rfl rfl ?_
  refine r_iadd (pc' := 21) d35_20 rfl ?_
  refine r_iload (pc' := 23) d35_21 rfl rfl ?_
  have e1 : nI x * 40 + nI p = nI (40 * x + p) := by rw [lit 40, pk_mul, nI_add, Nat.mul_comm]
  have e2 : nI y * 40 + nI q = nI (40 * y + q) := by rw [lit 40, pk_mul, nI_add, Nat.mul_comm]
  rw [e1, e2]
  refine r_copy (pc' := 26) (n0 := 320) (n1 := 320) d35_23 rfl o35 st5_19 js_n js_s js_i sh2 sh2 (pl hN rfl) (pl hN rfl) (nI_pos (by omega)) (nI_pos (by omega)) (nI_pos (by omega)) (by rw [nI_clamp (by omega), nI_clamp (by omega)]; omega) (by rw [nI_clamp (by omega), nI_clamp (by omega)]; omega) (Nat.le_of_ble_eq_true rfl) ?_
  rw [nI_clamp (show 40 * x + p < 2 ^ 31 by omega), nI_clamp (show 40 * y + q < 2 ^ 31 by omega), nI_clamp (show m < 2 ^ 31 by omega)]
  exact r_ret d35_26 rfl kW
theorem c_found {d : Nat} {h : Hp} {Q : Option AV → Hp → Prop} {f : Int32} (hN : hn h = 65) (k : Q (some (vI (-1000010 - f))) (seti h 0 16 f)) : Spec d 91 [vR (some 0), vI f] h Q := by
  refine spec_intro (by decide +kernel) rfl (Nat.le_of_ble_eq_true rfl) ?_
  refine r_aload_n (pc' := 1) d91_0 rfl rfl rfl ?_
  refine r_iload_n (pc' := 2) d91_1 rfl rfl rfl ?_
  refine r_putI (pc' := 5) d91_2 rfl o91 sp11_134_11 sh0 (fun w => absurd w (by decide)) (Or.inl rfl) (pl hN rfl) ?_
  refine r_ldc (pc' := 7) d91_5 rfl o91 kc11_138 ?_
  refine r_iload_n (pc' := 8) d91_7 rfl rfl rfl ?_
  refine r_isub (pc' := 9) d91_8 rfl ?_
  exact r_iretI d91_9 rfl k
theorem c_answered {d : Nat} {h : Hp} {Q : Option AV → Hp → Prop} {v : Int32} (hN : hn h = 65) (k : Q (some (vI v)) (seti h 0 16 0)) : Spec d 92 [vR (some 0), vI v] h Q := by
  refine spec_intro (by decide +kernel) rfl (Nat.le_of_ble_eq_true rfl) ?_
  refine r_aload_n (pc' := 1) d92_0 rfl rfl rfl ?_
  refine r_iconst (v := 0) (pc' := 2) d92_1 rfl (by decide) ?_
  refine r_putI (pc' := 5) d92_2 rfl o92 sp11_134_11 sh0 (fun w => absurd w (by decide)) (Or.inl rfl) (pl hN rfl) ?_
  refine r_iload_n (pc' := 6) d92_5 rfl rfl rfl ?_
  exact r_iretI d92_6 rfl k
theorem C_row {d : Nat} {h : Hp} {Q : Option AV → Hp → Prop} {row lane n : Int32} (hN : hn h = 65) (hC : RC h) (kB : (¬ (0 ≤ row ∧ row ≤ 7) ∨ ¬ (0 ≤ lane ∧ lane ≤ 2) ∨ ¬ n ≤ 40) → Q (some (vI (-1000001))) h)
    (kS : ((0 ≤ row ∧ row ≤ 7) ∧ (0 ≤ lane ∧ lane ≤ 2) ∧ n ≤ 40) → n < 0 → Q (some (vI (-1000014))) (seti h 0 16 4))
    (kW : ∀ j : Nat, j < 8 → row = nI j → (0 ≤ lane ∧ lane ≤ 2) → ∀ m : Nat, m ≤ 40 → n = nI m → Q (some (vI n)) (seti (setw (seti (seti h 3 j lane) 4 j n) 2 (mix (fun _ => 0) (hi h 2) (40 * j) m)) 0 16 0)) : Spec (d + 2) 87 [vR (some 0), vI row, vI lane, vI n] h Q := by
  refine spec_intro (by decide +kernel) rfl (Nat.le_of_ble_eq_true rfl) ?_
  refine r_aload_n (pc' := 1) d87_0 rfl rfl rfl ?_
  refine r_getS (pc' := 4) d87_1 rfl o87 sf11_10_11 sh0 (pl hN rfl) (rfc0_0 hC) ?_
  refine r_iload_n (pc' := 5) d87_4 rfl rfl rfl ?_
  refine r_call (pc' := 8) [vR (some 1), vI _] [] d87_5 rfl o87 st11_96_5 (rcv1 sh1 (pl hN rfl)) rfl (by decide) ⟨rfl, rfl⟩ (Nat.le_of_ble_eq_true rfl) rfl (c_isRow ?_)
  refine r_if_eqB 26 (pc' := 11) d87_8 rfl rfl (fun c8 => ?_) (fun c8 => ?_)
  · refine r_ldc (pc' := 28) d87_26 rfl o87 kc11_100 ?_
    exact r_iretI d87_28 rfl (kB (by first | exact Or.inl c8 | exact Or.inr (Or.inl (by intro w; first | exact absurd w.1 (Int32.not_le.mpr c12) | (have z := c17; have z2 := w.2; simp only [Int32.le_iff_toInt_le] at z z2; rw [show (3 : Int32).toInt = 3 from rfl] at z; rw [show (2 : Int32).toInt = 2 from rfl] at z2; omega))) | exact Or.inr (Or.inr c23)))
  · refine r_iload_n (pc' := 12) d87_11 rfl rfl rfl ?_
    refine r_if_lt 26 (pc' := 15) d87_12 rfl rfl (fun c12 => ?_) (fun c12 => ?_)
    · refine r_ldc (pc' := 28) d87_26 rfl o87 kc11_100 ?_
      exact r_iretI d87_28 rfl (kB (by first | exact Or.inl c8 | exact Or.inr (Or.inl (by intro w; first | exact absurd w.1 (Int32.not_le.mpr c12) | (have z := c17; have z2 := w.2; simp only [Int32.le_iff_toInt_le] at z z2; rw [show (3 : Int32).toInt = 3 from rfl] at z; rw [show (2 : Int32).toInt = 2 from rfl] at z2; omega))) | exact Or.inr (Or.inr c23)))
    · refine r_iload_n (pc' := 16) d87_15 rfl rfl rfl ?_
      refine r_iconst (v := 3) (pc' := 17) d87_16 rfl (by decide) ?_
      refine r_icmp_ge 26 (pc' := 20) d87_17 rfl rfl (fun c17 => ?_) (fun c17 => ?_)
      · refine r_ldc (pc' := 28) d87_26 rfl o87 kc11_100 ?_
        exact r_iretI d87_28 rfl (kB (by first | exact Or.inl c8 | exact Or.inr (Or.inl (by intro w; first | exact absurd w.1 (Int32.not_le.mpr c12) | (have z := c17; have z2 := w.2; simp only [Int32.le_iff_toInt_le] at z z2; rw [show (3 : Int32).toInt = 3 from rfl] at z; rw [show (2 : Int32).toInt = 2 from rfl] at z2; omega))) | exact Or.inr (Or.inr c23)))
      · refine r_iload_n (pc' := 21) d87_20 rfl rfl rfl ?_
        refine r_bipush (v := 40) (pc' := 23) d87_21 rfl (by decide) ?_
        refine r_icmp_le 29 (pc' := 26) d87_23 rfl rfl (fun c23 => ?_) (fun c23 => ?_)
        · refine r_iload_n (pc' := 30) d87_29 rfl rfl rfl ?_
          refine r_if_ge 39 (pc' := 33) d87_30 rfl rfl (fun c30 => ?_) (fun c30 => ?_)
          · obtain ⟨j, hj, rfl⟩ := nat_of (n := 7) c8.1 c8.2 (by decide)
            obtain ⟨m, hm, rfl⟩ := nat_of (n := 40) c30 c23 (by decide)
            refine r_aload_n (pc' := 40) d87_39 rfl rfl rfl ?_
            refine r_getS (pc' := 43) d87_40 rfl o87 sf11_10_11 sh0 (pl hN rfl) (rfc0_0 hC) ?_
            refine r_iload_n (pc' := 44) d87_43 rfl rfl rfl ?_
            refine r_iload_n (pc' := 45) d87_44 rfl rfl rfl ?_
            refine r_iload_n (pc' := 46) d87_45 rfl rfl rfl ?_
            refine r_call (pc' := 49) [vR (some 1), vI _, vI _, vI _] [] d87_46 rfl o87 st11_105_5 (rcv1 sh1 (pl hN rfl)) rfl (by decide) ⟨rfl, rfl⟩ (Nat.le_of_ble_eq_true rfl) rfl (c_lay hN hC (by omega) (by omega) ?_)
            refine r_aload_n (pc' := 50) d87_49 rfl rfl rfl ?_
            refine r_iload_n (pc' := 51) d87_50 rfl rfl rfl ?_
            refine r_call (pc' := 54) [vR (some 0), vI _] [] d87_51 rfl o87 st11_109_11 (rcv1 sh0 (pl hN rfl)) rfl (by decide) ⟨rfl, rfl⟩ (Nat.le_of_ble_eq_true rfl) rfl (c_answered hN ?_)
            exact r_iretI d87_54 rfl (kW j (by omega) rfl (by refine ⟨Int32.not_lt.mp c12, ?_⟩; have z := c17; simp only [Int32.le_iff_toInt_le] at z ⊢; rw [show (3 : Int32).toInt = 3 from rfl] at z; rw [show (2 : Int32).toInt = 2 from rfl]; omega) m hm rfl)
          · refine r_aload_n (pc' := 34) d87_33 rfl rfl rfl ?_
            refine r_iconst (v := 4) (pc' := 35) d87_34 rfl (by decide) ?_
            refine r_call (pc' := 38) [vR (some 0), vI _] [] d87_35 rfl o87 st11_101_11 (rcv1 sh0 (pl hN rfl)) rfl (by decide) ⟨rfl, rfl⟩ (Nat.le_of_ble_eq_true rfl) rfl (c_found hN ?_)
            exact r_iretI d87_38 rfl (qv (by decide) (kS ⟨c8, (by refine ⟨Int32.not_lt.mp c12, ?_⟩; have z := c17; simp only [Int32.le_iff_toInt_le] at z ⊢; rw [show (3 : Int32).toInt = 3 from rfl] at z; rw [show (2 : Int32).toInt = 2 from rfl]; omega), c23⟩ (Int32.not_le.mp c30)))
        · refine r_ldc (pc' := 28) d87_26 rfl o87 kc11_100 ?_
          exact r_iretI d87_28 rfl (kB (by first | exact Or.inl c8 | exact Or.inr (Or.inl (by intro w; first | exact absurd w.1 (Int32.not_le.mpr c12) | (have z := c17; have z2 := w.2; simp only [Int32.le_iff_toInt_le] at z z2; rw [show (3 : Int32).toInt = 3 from rfl] at z; rw [show (2 : Int32).toInt = 2 from rfl] at z2; omega))) | exact Or.inr (Or.inr c23)))
theorem C_set {d : Nat} {h : Hp} {Q : Option AV → Hp → Prop} {row i v : Int32} (hN : hn h = 65) (hC : RC h) (hS : ∀ j, j < 8 → ¬ hi h 3 j = -1 → ∃ z : Nat, z ≤ 40 ∧ hi h 4 j = nI z) (kB : ¬ (0 ≤ row ∧ row ≤ 7) → Q (some (vI (-1000001))) h)
    (kN : ∀ j : Nat, j < 8 → row = nI j → hi h 3 j = -1 → Q (some (vI (-1000011))) (seti h 0 16 1))
    (kP : ∀ j : Nat, j < 8 → row = nI j → ¬ hi h 3 j = -1 → ¬ (0 ≤ i ∧ (0 : Int32) ≤ 1 ∧ 1 ≤ hi h 4 j ∧ i ≤ hi h 4 j - 1) → Q (some (vI (-1000012))) (seti h 0 16 2))
    (kW : ∀ j : Nat, j < 8 → row = nI j → ¬ hi h 3 j = -1 → ∀ q : Nat, q < 40 → i = nI q → nI q < hi h 4 j → Q (some (vI (cut (hi h 3 j) v))) (seti (seti h 2 (40 * j + q) (cut (hi h 3 j) v)) 0 16 0)) : Spec (d + 2) 88 [vR (some 0), vI row, vI i, vI v] h Q := by
  refine spec_intro (by decide +kernel) rfl (Nat.le_of_ble_eq_true rfl) ?_
  refine r_aload_n (pc' := 1) d88_0 rfl rfl rfl ?_
  refine r_getS (pc' := 4) d88_1 rfl o88 sf11_10_11 sh0 (pl hN rfl) (rfc0_0 hC) ?_
  refine r_iload_n (pc' := 5) d88_4 rfl rfl rfl ?_
  refine r_call (pc' := 8) [vR (some 1), vI _] [] d88_5 rfl o88 st11_96_5 (rcv1 sh1 (pl hN rfl)) rfl (by decide) ⟨rfl, rfl⟩ (Nat.le_of_ble_eq_true rfl) rfl (c_isRow ?_)
  refine r_if_neB 14 (pc' := 11) d88_8 rfl rfl (fun c8 => ?_) (fun c8 => ?_)
  · obtain ⟨j, hj, rfl⟩ := nat_of (n := 7) c8.1 c8.2 (by decide)
    refine r_aload_n (pc' := 15) d88_14 rfl rfl rfl ?_
    refine r_getS (pc' := 18) d88_15 rfl o88 sf11_10_11 sh0 (pl hN rfl) (rfc0_0 hC) ?_
    refine r_iload_n (pc' := 19) d88_18 rfl rfl rfl ?_
    refine r_call (pc' := 22) [vR (some 1), vI _] [] d88_19 rfl o88 st11_112_5 (rcv1 sh1 (pl hN rfl)) rfl (by decide) ⟨rfl, rfl⟩ (Nat.le_of_ble_eq_true rfl) rfl (c_isMissing hN hC (by omega) ?_)
    refine r_if_eqB 31 (pc' := 25) d88_22 rfl rfl (fun c22 => ?_) (fun c22 => ?_)
    · refine r_aload_n (pc' := 32) d88_31 rfl rfl rfl ?_
      refine r_getS (pc' := 35) d88_32 rfl o88 sf11_10_11 sh0 (pl hN rfl) (rfc0_0 hC) ?_
      refine r_iload_n (pc' := 36) d88_35 rfl rfl rfl ?_
      refine r_iload_n (pc' := 37) d88_36 rfl rfl rfl ?_
      refine r_iconst (v := 1) (pc' := 38) d88_37 rfl (by decide) ?_
      refine r_call (pc' := 41) [vR (some 1), vI _, vI _, vI _] [] d88_38 rfl o88 st11_115_5 (rcv1 sh1 (pl hN rfl)) rfl (by decide) ⟨rfl, rfl⟩ (Nat.le_of_ble_eq_true rfl) rfl (c_hasPlaces hN hC (by omega) ?_)
      refine r_if_neB 50 (pc' := 44) d88_41 rfl rfl (fun c41 => ?_) (fun c41 => ?_)
      · obtain ⟨z, hz, ez⟩ := hS j (by omega) c22
        obtain ⟨q, hq, rfl⟩ := ix_lt (x := i) c41.1 (by rw [← ez]; exact c41.2.2.2) hz
        refine r_aload_n (pc' := 51) d88_50 rfl rfl rfl ?_
        refine r_aload_n (pc' := 52) d88_51 rfl rfl rfl ?_
        refine r_getS (pc' := 55) d88_52 rfl o88 sf11_10_11 sh0 (pl hN rfl) (rfc0_0 hC) ?_
        refine r_iload_n (pc' := 56) d88_55 rfl rfl rfl ?_
        refine r_iload_n (pc' := 57) d88_56 rfl rfl rfl ?_
        refine r_iload_n (pc' := 58) d88_57 rfl rfl rfl ?_
        refine r_call (pc' := 61) [vR (some 1), vI _, vI _, vI _] [vR (some 0)] d88_58 rfl o88 st11_119_5 (rcv1 sh1 (pl hN rfl)) rfl (by decide) ⟨rfl, rfl⟩ (Nat.le_of_ble_eq_true rfl) rfl (c_put hN hC (by omega) (by omega) ?_)
        refine r_call (pc' := 64) [vR (some 0), vI _] [] d88_61 rfl o88 st11_109_11 (rcv1 sh0 (pl hN rfl)) rfl (by decide) ⟨rfl, rfl⟩ (Nat.le_of_ble_eq_true rfl) rfl (c_answered hN ?_)
        exact r_iretI d88_64 rfl (kW j (by omega) rfl c22 q (by omega) rfl (by rw [ez]; exact nI_lt hq (by omega)))
      · refine r_aload_n (pc' := 45) d88_44 rfl rfl rfl ?_
        refine r_iconst (v := 2) (pc' := 46) d88_45 rfl (by decide) ?_
        refine r_call (pc' := 49) [vR (some 0), vI _] [] d88_46 rfl o88 st11_101_11 (rcv1 sh0 (pl hN rfl)) rfl (by decide) ⟨rfl, rfl⟩ (Nat.le_of_ble_eq_true rfl) rfl (c_found hN ?_)
        exact r_iretI d88_49 rfl (qv (by decide) (kP j (by omega) rfl c22 c41))
    · refine r_aload_n (pc' := 26) d88_25 rfl rfl rfl ?_
      refine r_iconst (v := 1) (pc' := 27) d88_26 rfl (by decide) ?_
      refine r_call (pc' := 30) [vR (some 0), vI _] [] d88_27 rfl o88 st11_101_11 (rcv1 sh0 (pl hN rfl)) rfl (by decide) ⟨rfl, rfl⟩ (Nat.le_of_ble_eq_true rfl) rfl (c_found hN ?_)
      exact r_iretI d88_30 rfl (qv (by decide) (kN j (by omega) rfl c22))
  · refine r_ldc (pc' := 13) d88_11 rfl o88 kc11_100 ?_
    exact r_iretI d88_13 rfl (kB c8)
theorem C_drop {d : Nat} {h : Hp} {Q : Option AV → Hp → Prop} {row : Int32} (hN : hn h = 65) (hC : RC h) (kB : ¬ (0 ≤ row ∧ row ≤ 7) → Q (some (vI (-1000001))) h)
    (kN : ∀ j : Nat, j < 8 → row = nI j → hi h 3 j = -1 → Q (some (vI (-1000011))) (seti h 0 16 1))
    (kW : ∀ j : Nat, j < 8 → row = nI j → ¬ hi h 3 j = -1 → Q (some (vI (hi h 4 j))) (seti (seti h 3 j (-1)) 0 16 0)) : Spec (d + 2) 90 [vR (some 0), vI row] h Q := by
  refine spec_intro (by decide +kernel) rfl (Nat.le_of_ble_eq_true rfl) ?_
  refine r_aload_n (pc' := 1) d90_0 rfl rfl rfl ?_
  refine r_getS (pc' := 4) d90_1 rfl o90 sf11_10_11 sh0 (pl hN rfl) (rfc0_0 hC) ?_
  refine r_iload_n (pc' := 5) d90_4 rfl rfl rfl ?_
  refine r_call (pc' := 8) [vR (some 1), vI _] [] d90_5 rfl o90 st11_96_5 (rcv1 sh1 (pl hN rfl)) rfl (by decide) ⟨rfl, rfl⟩ (Nat.le_of_ble_eq_true rfl) rfl (c_isRow ?_)
  refine r_if_neB 14 (pc' := 11) d90_8 rfl rfl (fun c8 => ?_) (fun c8 => ?_)
  · obtain ⟨j, hj, rfl⟩ := nat_of (n := 7) c8.1 c8.2 (by decide)
    refine r_aload_n (pc' := 15) d90_14 rfl rfl rfl ?_
    refine r_getS (pc' := 18) d90_15 rfl o90 sf11_10_11 sh0 (pl hN rfl) (rfc0_0 hC) ?_
    refine r_iload_n (pc' := 19) d90_18 rfl rfl rfl ?_
    refine r_call (pc' := 22) [vR (some 1), vI _] [] d90_19 rfl o90 st11_112_5 (rcv1 sh1 (pl hN rfl)) rfl (by decide) ⟨rfl, rfl⟩ (Nat.le_of_ble_eq_true rfl) rfl (c_isMissing hN hC (by omega) ?_)
    refine r_if_eqB 31 (pc' := 25) d90_22 rfl rfl (fun c22 => ?_) (fun c22 => ?_)
    · refine r_aload_n (pc' := 32) d90_31 rfl rfl rfl ?_
      refine r_aload_n (pc' := 33) d90_32 rfl rfl rfl ?_
      refine r_getS (pc' := 36) d90_33 rfl o90 sf11_10_11 sh0 (pl hN rfl) (rfc0_0 hC) ?_
      refine r_iload_n (pc' := 37) d90_36 rfl rfl rfl ?_
      refine r_call (pc' := 40) [vR (some 1), vI _] [vR (some 0)] d90_37 rfl o90 st11_131_5 (rcv1 sh1 (pl hN rfl)) rfl (by decide) ⟨rfl, rfl⟩ (Nat.le_of_ble_eq_true rfl) rfl (c_forget hN hC (by omega) ?_)
      refine r_call (pc' := 43) [vR (some 0), vI _] [] d90_40 rfl o90 st11_109_11 (rcv1 sh0 (pl hN rfl)) rfl (by decide) ⟨rfl, rfl⟩ (Nat.le_of_ble_eq_true rfl) rfl (c_answered hN ?_)
      exact r_iretI d90_43 rfl (kW j (by omega) rfl c22)
    · refine r_aload_n (pc' := 26) d90_25 rfl rfl rfl ?_
      refine r_iconst (v := 1) (pc' := 27) d90_26 rfl (by decide) ?_
      refine r_call (pc' := 30) [vR (some 0), vI _] [] d90_27 rfl o90 st11_101_11 (rcv1 sh0 (pl hN rfl)) rfl (by decide) ⟨rfl, rfl⟩ (Nat.le_of_ble_eq_true rfl) rfl (c_found hN ?_)
      exact r_iretI d90_30 rfl (qv (by decide) (kN j (by omega) rfl c22))
  · refine r_ldc (pc' := 13) d90_11 rfl o90 kc11_100 ?_
    exact r_iretI d90_13 rfl (kB c8)
theorem span_of {i n : Int32} {z : Nat} (hz : z ≤ 40) (h : 0 ≤ i ∧ 0 ≤ n ∧ n ≤ nI z ∧ i ≤ nI z - n) : ∃ p m : Nat, p + m ≤ z ∧ i = nI p ∧ n = nI m := by
  obtain ⟨m, hm, rfl⟩ := nat_of h.2.1 h.2.2.1 (by omega)
  obtain ⟨p, hp, rfl⟩ := nI_of (Int32.not_lt.mpr h.1)
  have h2 := h.2.2.2
  rw [pk_sub hm, nI_leI hp (by omega)] at h2
  exact ⟨p, m, by omega, rfl, rfl⟩
theorem C_copy {d : Nat} {h : Hp} {Q : Option AV → Hp → Prop} {a i b j n : Int32} (hN : hn h = 65) (hC : RC h) (hS : ∀ j, j < 8 → ¬ hi h 3 j = -1 → ∃ z : Nat, z ≤ 40 ∧ hi h 4 j = nI z) (kB : (¬ (0 ≤ a ∧ a ≤ 7) ∨ ¬ (0 ≤ b ∧ b ≤ 7)) → Q (some (vI (-1000001))) h)
    (kN : ∀ x y : Nat, x < 8 → y < 8 → a = nI x → b = nI y →  (hi h 3 x = -1 ∨ hi h 3 y = -1) → Q (some (vI (-1000011))) (seti h 0 16 1))
    (kT : ∀ x y : Nat, x < 8 → y < 8 → a = nI x → b = nI y →  ¬ hi h 3 x = -1 → ¬ hi h 3 y = -1 → ¬ hi h 3 x = hi h 3 y → Q (some (vI (-1000015))) (seti h 0 16 5))
    (kP : ∀ x y : Nat, x < 8 → y < 8 → a = nI x → b = nI y →  ¬ hi h 3 x = -1 → ¬ hi h 3 y = -1 → hi h 3 x = hi h 3 y → (¬ (0 ≤ i ∧ 0 ≤ n ∧ n ≤ hi h 4 x ∧ i ≤ hi h 4 x - n) ∨ ¬ (0 ≤ j ∧ 0 ≤ n ∧ n ≤ hi h 4 y ∧ j ≤ hi h 4 y - n)) → Q (some (vI (-1000012))) (seti h 0 16 2))
    (kW : ∀ x y : Nat, x < 8 → y < 8 → a = nI x → b = nI y →  ¬ hi h 3 x = -1 → ¬ hi h 3 y = -1 → hi h 3 x = hi h 3 y → ∀ p q m : Nat, p + m ≤ 40 → q + m ≤ 40 → i = nI p → j = nI q → n = nI m → (0 ≤ i ∧ 0 ≤ n ∧ n ≤ hi h 4 x ∧ i ≤ hi h 4 x - n) → (0 ≤ j ∧ 0 ≤ n ∧ n ≤ hi h 4 y ∧ j ≤ hi h 4 y - n) → Q (some (vI n)) (seti (setw h 2 (va_cpy (hi h 2) (hi h 2) (40 * x + p) (40 * y + q) m)) 0 16 0)) : Spec (d + 3) 89 [vR (some 0), vI a, vI i, vI b, vI j, vI n] h Q := by
  refine spec_intro (by decide +kernel) rfl (Nat.le_of_ble_eq_true rfl) ?_
  refine r_aload_n (pc' := 1) d89_0 rfl rfl rfl ?_
  refine r_getS (pc' := 4) d89_1 rfl o89 sf11_10_11 sh0 (pl hN rfl) (rfc0_0 hC) ?_
  refine r_iload_n (pc' := 5) d89_4 rfl rfl rfl ?_
  refine r_call (pc' := 8) [vR (some 1), vI _] [] d89_5 rfl o89 st11_96_5 (rcv1 sh1 (pl hN rfl)) rfl (by decide) ⟨rfl, rfl⟩ (Nat.le_of_ble_eq_true rfl) rfl (c_isRow ?_)
  refine r_if_eqB 22 (pc' := 11) d89_8 rfl rfl (fun c8 => ?_) (fun c8 => ?_)
  · refine r_ldc (pc' := 24) d89_22 rfl o89 kc11_100 ?_
    exact r_iretI d89_24 rfl (kB (by first | exact Or.inl c8 | exact Or.inr c19))
  · refine r_aload_n (pc' := 12) d89_11 rfl rfl rfl ?_
    refine r_getS (pc' := 15) d89_12 rfl o89 sf11_10_11 sh0 (pl hN rfl) (rfc0_0 hC) ?_
    refine r_iload_n (pc' := 16) d89_15 rfl rfl rfl ?_
    refine r_call (pc' := 19) [vR (some 1), vI _] [] d89_16 rfl o89 st11_96_5 (rcv1 sh1 (pl hN rfl)) rfl (by decide) ⟨rfl, rfl⟩ (Nat.le_of_ble_eq_true rfl) rfl (c_isRow ?_)
    refine r_if_neB 25 (pc' := 22) d89_19 rfl rfl (fun c19 => ?_) (fun c19 => ?_)
    · obtain ⟨x, hx, rfl⟩ := nat_of (n := 7) c8.1 c8.2 (by decide)
      obtain ⟨y, hy, rfl⟩ := nat_of (n := 7) c19.1 c19.2 (by decide)
      refine r_aload_n (pc' := 26) d89_25 rfl rfl rfl ?_
      refine r_getS (pc' := 29) d89_26 rfl o89 sf11_10_11 sh0 (pl hN rfl) (rfc0_0 hC) ?_
      refine r_iload_n (pc' := 30) d89_29 rfl rfl rfl ?_
      refine r_call (pc' := 33) [vR (some 1), vI _] [] d89_30 rfl o89 st11_112_5 (rcv1 sh1 (pl hN rfl)) rfl (by decide) ⟨rfl, rfl⟩ (Nat.le_of_ble_eq_true rfl) rfl (c_isMissing hN hC (by omega) ?_)
      refine r_if_neB 47 (pc' := 36) d89_33 rfl rfl (fun c33 => ?_) (fun c33 => ?_)
      · refine r_aload_n (pc' := 48) d89_47 rfl rfl rfl ?_
        refine r_iconst (v := 1) (pc' := 49) d89_48 rfl (by decide) ?_
        refine r_call (pc' := 52) [vR (some 0), vI _] [] d89_49 rfl o89 st11_101_11 (rcv1 sh0 (pl hN rfl)) rfl (by decide) ⟨rfl, rfl⟩ (Nat.le_of_ble_eq_true rfl) rfl (c_found hN ?_)
        exact r_iretI d89_52 rfl (qv (by decide) (kN x y (by omega) (by omega) rfl rfl (by first | exact Or.inl c33 | exact Or.inr c44)))
      · refine r_aload_n (pc' := 37) d89_36 rfl rfl rfl ?_
        refine r_getS (pc' := 40) d89_37 rfl o89 sf11_10_11 sh0 (pl hN rfl) (rfc0_0 hC) ?_
        refine r_iload_n (pc' := 41) d89_40 rfl rfl rfl ?_
        refine r_call (pc' := 44) [vR (some 1), vI _] [] d89_41 rfl o89 st11_112_5 (rcv1 sh1 (pl hN rfl)) rfl (by decide) ⟨rfl, rfl⟩ (Nat.le_of_ble_eq_true rfl) rfl (c_isMissing hN hC (by omega) ?_)
        refine r_if_eqB 53 (pc' := 47) d89_44 rfl rfl (fun c44 => ?_) (fun c44 => ?_)
        · refine r_aload_n (pc' := 54) d89_53 rfl rfl rfl ?_
          refine r_getS (pc' := 57) d89_54 rfl o89 sf11_10_11 sh0 (pl hN rfl) (rfc0_0 hC) ?_
          refine r_iload_n (pc' := 58) d89_57 rfl rfl rfl ?_
          refine r_iload_n (pc' := 59) d89_58 rfl rfl rfl ?_
          refine r_call (pc' := 62) [vR (some 1), vI _, vI _] [] d89_59 rfl o89 st11_123_5 (rcv1 sh1 (pl hN rfl)) rfl (by decide) ⟨rfl, rfl⟩ (Nat.le_of_ble_eq_true rfl) rfl (c_sameLane hN hC (by omega) (by omega) ?_)
          refine r_if_neB 71 (pc' := 65) d89_62 rfl rfl (fun c62 => ?_) (fun c62 => ?_)
          · refine r_aload_n (pc' := 72) d89_71 rfl rfl rfl ?_
            refine r_getS (pc' := 75) d89_72 rfl o89 sf11_10_11 sh0 (pl hN rfl) (rfc0_0 hC) ?_
            refine r_iload_n (pc' := 76) d89_75 rfl rfl rfl ?_
            refine r_iload_n (pc' := 77) d89_76 rfl rfl rfl ?_
            refine r_iload (pc' := 79) d89_77 rfl rfl ?_
            refine r_call (pc' := 82) [vR (some 1), vI _, vI _, vI _] [] d89_79 rfl o89 st11_115_5 (rcv1 sh1 (pl hN rfl)) rfl (by decide) ⟨rfl, rfl⟩ (Nat.le_of_ble_eq_true rfl) rfl (c_hasPlaces hN hC (by omega) ?_)
            refine r_if_eqB 100 (pc' := 85) d89_82 rfl rfl (fun c82 => ?_) (fun c82 => ?_)
            · refine r_aload_n (pc' := 101) d89_100 rfl rfl rfl ?_
              refine r_iconst (v := 2) (pc' := 102) d89_101 rfl (by decide) ?_
              refine r_call (pc' := 105) [vR (some 0), vI _] [] d89_102 rfl o89 st11_101_11 (rcv1 sh0 (pl hN rfl)) rfl (by decide) ⟨rfl, rfl⟩ (Nat.le_of_ble_eq_true rfl) rfl (c_found hN ?_)
              exact r_iretI d89_105 rfl (qv (by decide) (kP x y (by omega) (by omega) rfl rfl c33 c44 c62 (by first | exact Or.inl c82 | exact Or.inr c97)))
            · refine r_aload_n (pc' := 86) d89_85 rfl rfl rfl ?_
              refine r_getS (pc' := 89) d89_86 rfl o89 sf11_10_11 sh0 (pl hN rfl) (rfc0_0 hC) ?_
              refine r_iload_n (pc' := 90) d89_89 rfl rfl rfl ?_
              refine r_iload (pc' := 92) d89_90 rfl rfl ?_
              refine r_iload (pc' := 94) d89_92 rfl rfl ?_
              refine r_call (pc' := 97) [vR (some 1), vI _, vI _, vI _] [] d89_94 rfl o89 st11_115_5 (rcv1 sh1 (pl hN rfl)) rfl (by decide) ⟨rfl, rfl⟩ (Nat.le_of_ble_eq_true rfl) rfl (c_hasPlaces hN hC (by omega) ?_)
              refine r_if_neB 106 (pc' := 100) d89_97 rfl rfl (fun c97 => ?_) (fun c97 => ?_)
              · obtain ⟨z, hz, ez⟩ := hS x (by omega) c33
                obtain ⟨z2, hz2, ez2⟩ := hS y (by omega) c44
                obtain ⟨p, m, hpm, rfl, rfl⟩ := span_of (i := i) (n := n) hz (ez ▸ c82)
                obtain ⟨q, m2, hqm, rfl, em⟩ := span_of (i := j) (n := nI m) hz2 (ez2 ▸ c97)
                obtain rfl : m = m2 := (nI_eq (by omega) (by omega)).mp em
                refine r_aload_n (pc' := 107) d89_106 rfl rfl rfl ?_
                refine r_getS (pc' := 110) d89_107 rfl o89 sf11_10_11 sh0 (pl hN rfl) (rfc0_0 hC) ?_
                refine r_iload_n (pc' := 111) d89_110 rfl rfl rfl ?_
                refine r_iload_n (pc' := 112) d89_111 rfl rfl rfl ?_
                refine r_iload_n (pc' := 113) d89_112 rfl rfl rfl ?_
                refine r_iload (pc' := 115) d89_113 rfl rfl ?_
                refine r_iload (pc' := 117) d89_115 rfl rfl ?_
                refine r_call (pc' := 120) [vR (some 1), vI _, vI _, vI _, vI _, vI _] [] d89_117 rfl o89 st11_127_5 (rcv1 sh1 (pl hN rfl)) rfl (by decide) ⟨rfl, rfl⟩ (Nat.le_of_ble_eq_true rfl) rfl (c_carry hN hC (by omega) (by omega) (by omega) (by omega) ?_)
                refine r_aload_n (pc' := 121) d89_120 rfl rfl rfl ?_
                refine r_iload (pc' := 123) d89_121 rfl rfl ?_
                refine r_call (pc' := 126) [vR (some 0), vI _] [] d89_123 rfl o89 st11_109_11 (rcv1 sh0 (pl hN rfl)) rfl (by decide) ⟨rfl, rfl⟩ (Nat.le_of_ble_eq_true rfl) rfl (c_answered hN ?_)
                exact r_iretI d89_126 rfl (kW x y (by omega) (by omega) rfl rfl c33 c44 c62 p q m (by omega) (by omega) rfl rfl rfl c82 c97)
              · refine r_aload_n (pc' := 101) d89_100 rfl rfl rfl ?_
                refine r_iconst (v := 2) (pc' := 102) d89_101 rfl (by decide) ?_
                refine r_call (pc' := 105) [vR (some 0), vI _] [] d89_102 rfl o89 st11_101_11 (rcv1 sh0 (pl hN rfl)) rfl (by decide) ⟨rfl, rfl⟩ (Nat.le_of_ble_eq_true rfl) rfl (c_found hN ?_)
                exact r_iretI d89_105 rfl (qv (by decide) (kP x y (by omega) (by omega) rfl rfl c33 c44 c62 (by first | exact Or.inl c82 | exact Or.inr c97)))
          · refine r_aload_n (pc' := 66) d89_65 rfl rfl rfl ?_
            refine r_iconst (v := 5) (pc' := 67) d89_66 rfl (by decide) ?_
            refine r_call (pc' := 70) [vR (some 0), vI _] [] d89_67 rfl o89 st11_101_11 (rcv1 sh0 (pl hN rfl)) rfl (by decide) ⟨rfl, rfl⟩ (Nat.le_of_ble_eq_true rfl) rfl (c_found hN ?_)
            exact r_iretI d89_70 rfl (qv (by decide) (kT x y (by omega) (by omega) rfl rfl c33 c44 c62))
        · refine r_aload_n (pc' := 48) d89_47 rfl rfl rfl ?_
          refine r_iconst (v := 1) (pc' := 49) d89_48 rfl (by decide) ?_
          refine r_call (pc' := 52) [vR (some 0), vI _] [] d89_49 rfl o89 st11_101_11 (rcv1 sh0 (pl hN rfl)) rfl (by decide) ⟨rfl, rfl⟩ (Nat.le_of_ble_eq_true rfl) rfl (c_found hN ?_)
          exact r_iretI d89_52 rfl (qv (by decide) (kN x y (by omega) (by omega) rfl rfl (by first | exact Or.inl c33 | exact Or.inr c44)))
    · refine r_ldc (pc' := 24) d89_22 rfl o89 kc11_100 ?_
      exact r_iretI d89_24 rfl (kB (by first | exact Or.inl c8 | exact Or.inr c19))
