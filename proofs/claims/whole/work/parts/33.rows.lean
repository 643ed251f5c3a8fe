/-! rows, on: set, copy, drop of the reference; the class's rows (printed by wip/whole/m33.py) -/
def cut (L v : Int32) : Int32 := if L = 0 then v.toInt8.toInt32 else if L = 1 then v.toInt16.toInt32 else v
theorem i64_add (x y : Int32) : (x.toInt64 + y.toInt64).toInt = x.toInt + y.toInt := by
  have h1 := Int32.le_toInt x
  have h2 := Int32.toInt_lt x
  have h3 := Int32.le_toInt y
  have h4 := Int32.toInt_lt y
  rw [Int64.toInt_add, Int32.toInt_toInt64, Int32.toInt_toInt64]
  rw [Int.bmod_eq_of_le] <;> omega
theorem ix_lt {x : Int32} {z : Nat} (h0 : 0 ≤ x) (h1 : x ≤ nI z - 1) (hz : z ≤ 40) : ∃ q : Nat, q < z ∧ x = nI q := by
  have hx : x.toInt ≤ (z : Int) - 1 := by
    have := Int32.le_iff_toInt_le.mp h1
    rw [show nI z - 1 = nI z - nI 1 from rfl, pk_sub_toInt (by omega) (by omega)] at this
    exact this
  obtain ⟨q, hq, e⟩ := nI_of (Int32.not_lt.mpr h0)
  rw [e, nI_toInt hq] at hx
  exact ⟨q, by omega, e⟩
theorem M_set {d : Nat} {h : Hp} {Q : Option AV → Hp → Prop} {row i v : Int32} (hN : hn h = 65) (hM : RM h) (hS : ∀ j, j < 8 → ∃ z : Nat, z ≤ 40 ∧ hi h 56 j = nI z) (kB : ¬ (0 ≤ row ∧ row ≤ 7) → Q (some (vI (-1000001))) h)
    (kN : ∀ j : Nat, j < 8 → row = nI j → hi h 55 j = -1000000 → Q (some (vI (-1000011))) (seti h 50 8 1))
    (kP : ∀ j : Nat, j < 8 → row = nI j → ¬ hi h 55 j = -1000000 → ¬ (0 ≤ i ∧ i ≤ hi h 56 j - 1) → Q (some (vI (-1000012))) (seti h 50 8 2))
    (kW : ∀ j : Nat, j < 8 → row = nI j → ¬ hi h 55 j = -1000000 → ∀ q : Nat, q < 40 → i = nI q → nI q < hi h 56 j → Q (some (vI (cut (hi h 55 j) v))) (seti (seti h 57 (40 * j + q) (cut (hi h 55 j) v)) 50 8 0)) : Spec (d + 2) 152 [vR (some 50), vI row, vI i, vI v] h Q := by
  refine spec_intro (by decide +kernel) rfl (Nat.le_of_ble_eq_true rfl) ?_
  refine r_iload_n (pc' := 1) d152_0 rfl rfl rfl ?_
  refine r_call (pc' := 4) [vI _] [] d152_1 rfl o152 st12_63 rcv0 rfl (by decide) ⟨rfl, rfl⟩ (Nat.le_of_ble_eq_true rfl) rfl (s_isRow ?_)
  refine r_if_neB 10 (pc' := 7) d152_4 rfl rfl (fun c4 => ?_) (fun c4 => ?_)
  · obtain ⟨j, hj, rfl⟩ := nat_of (n := 7) c4.1 c4.2 (by decide)
    refine r_aload_n (pc' := 11) d152_10 rfl rfl rfl ?_
    refine r_getS (pc' := 14) d152_11 rfl o152 sf12_23_12 sh50 (pl hN rfl) (rfm5 hM) ?_
    refine r_iload_n (pc' := 15) d152_14 rfl rfl rfl ?_
    refine r_ialdN (pc' := 16) (j := j) d152_15 rfl sh55 (pl hN rfl) rfl (by omega) (by decide) ?_
    refine r_ldc (pc' := 18) d152_16 rfl o152 kc12_53 ?_
    refine r_icmp_ne 27 (pc' := 21) d152_18 rfl rfl (fun c18 => ?_) (fun c18 => ?_)
    · refine r_iload_n (pc' := 28) d152_27 rfl rfl rfl ?_
      refine r_iconst (v := 0) (pc' := 29) d152_28 rfl (by decide) ?_
      refine r_aload_n (pc' := 30) d152_29 rfl rfl rfl ?_
      refine r_getS (pc' := 33) d152_30 rfl o152 sf12_26_12 sh50 (pl hN rfl) (rfm6 hM) ?_
      refine r_iload_n (pc' := 34) d152_33 rfl rfl rfl ?_
      refine r_ialdN (pc' := 35) (j := j) d152_34 rfl sh56 (pl hN rfl) rfl (by omega) (by decide) ?_
      refine r_iconst (v := 1) (pc' := 36) d152_35 rfl (by decide) ?_
      refine r_isub (pc' := 37) d152_36 rfl ?_
      refine r_call (pc' := 40) [vI _, vI _, vI _] [] d152_37 rfl o152 st12_59 rcv0 rfl (by decide) ⟨rfl, rfl⟩ (Nat.le_of_ble_eq_true rfl) rfl (s_in ?_)
      refine r_if_neB 49 (pc' := 43) d152_40 rfl rfl (fun c40 => ?_) (fun c40 => ?_)
      · refine r_aload_n (pc' := 50) d152_49 rfl rfl rfl ?_
        refine r_getS (pc' := 53) d152_50 rfl o152 sf12_23_12 sh50 (pl hN rfl) (rfm5 hM) ?_
        refine r_iload_n (pc' := 54) d152_53 rfl rfl rfl ?_
        refine r_ialdN (pc' := 55) (j := j) d152_54 rfl sh55 (pl hN rfl) rfl (by omega) (by decide) ?_
        refine r_if_ne 63 (pc' := 58) d152_55 rfl rfl (fun c55 => ?_) (fun c55 => ?_)
        · refine r_aload_n (pc' := 64) d152_63 rfl rfl rfl ?_
          refine r_getS (pc' := 67) d152_64 rfl o152 sf12_23_12 sh50 (pl hN rfl) (rfm5 hM) ?_
          refine r_iload_n (pc' := 68) d152_67 rfl rfl rfl ?_
          refine r_ialdN (pc' := 69) (j := j) d152_68 rfl sh55 (pl hN rfl) rfl (by omega) (by decide) ?_
          refine r_iconst (v := 1) (pc' := 70) d152_69 rfl (by decide) ?_
          refine r_icmp_ne 78 (pc' := 73) d152_70 rfl rfl (fun c70 => ?_) (fun c70 => ?_)
          · refine r_iload_n (pc' := 79) d152_78 rfl rfl rfl ?_
            refine r_istore (pc' := 81) (ls' := [(4, vI _), (0, vR (some 50)), (1, vI _), (2, vI _), (3, vI _)]) d152_79 rfl (by decide) rfl ?_
            obtain ⟨z, hz, ez⟩ := hS j (by omega)
            obtain ⟨q, hq, rfl⟩ := ix_lt (x := i) c40.1 (by rw [← ez]; exact c40.2) hz
            refine r_aload_n (pc' := 82) d152_81 rfl rfl rfl ?_
            refine r_getS (pc' := 85) d152_82 rfl o152 sf12_29_12 sh50 (pl hN rfl) (rfm7 hM) ?_
            refine r_bipush (v := 40) (pc' := 87) d152_85 rfl (by decide) ?_
            refine r_iload_n (pc' := 88) d152_87 rfl rfl rfl ?_
            refine r_imul (pc' := 89) d152_88 rfl ?_
            refine r_iload_n (pc' := 90) d152_89 rfl rfl rfl ?_
            refine r_iadd (pc' := 91) d152_90 rfl ?_
            refine r_iload (pc' := 93) d152_91 rfl rfl ?_
            refine r_iastN (pc' := 94) (j := ((40 * j) + q)) d152_93 rfl sh57 (pl hN rfl) (by simp only [lit, nI_add, pk_mul]) (by omega) (by decide) ?_
            refine r_aload_n (pc' := 95) d152_94 rfl rfl rfl ?_
            refine r_iload (pc' := 97) d152_95 rfl rfl ?_
            refine r_call (pc' := 100) [vR (some 50), vI _] [] d152_97 rfl o152 st12_72_12 (rcv1 sh50 (pl hN rfl)) rfl (by decide) ⟨rfl, rfl⟩ (Nat.le_of_ble_eq_true rfl) rfl (s_well hN ?_)
            exact r_iretI d152_100 rfl (by have w := kW j (by omega) rfl c18 q (by omega) rfl (by rw [ez]; exact nI_lt hq (by omega)); first | (rw [cut, if_pos c55] at w; exact w) | (rw [cut, if_neg c55, if_pos c70] at w; exact w) | (rw [cut, if_neg c55, if_neg c70] at w; exact w))
          · refine r_iload_n (pc' := 74) d152_73 rfl rfl rfl ?_
            refine r_i2s (pc' := 75) d152_74 rfl ?_
            refine r_goto 79 d152_75 rfl ?_
            refine r_istore (pc' := 81) (ls' := [(4, vI _), (0, vR (some 50)), (1, vI _), (2, vI _), (3, vI _)]) d152_79 rfl (by decide) rfl ?_
            obtain ⟨z, hz, ez⟩ := hS j (by omega)
            obtain ⟨q, hq, rfl⟩ := ix_lt (x := i) c40.1 (by rw [← ez]; exact c40.2) hz
            refine r_aload_n (pc' := 82) d152_81 rfl rfl rfl ?_
            refine r_getS (pc' := 85) d152_82 rfl o152 sf12_29_12 sh50 (pl hN rfl) (rfm7 hM) ?_
            refine r_bipush (v := 40) (pc' := 87) d152_85 rfl (by decide) ?_
            refine r_iload_n (pc' := 88) d152_87 rfl rfl rfl ?_
            refine r_imul (pc' := 89) d152_88 rfl ?_
            refine r_iload_n (pc' := 90) d152_89 rfl rfl rfl ?_
            refine r_iadd (pc' := 91) d152_90 rfl ?_
            refine r_iload (pc' := 93) d152_91 rfl rfl ?_
            refine r_iastN (pc' := 94) (j := ((40 * j) + q)) d152_93 rfl sh57 (pl hN rfl) (by simp only [lit, nI_add, pk_mul]) (by omega) (by decide) ?_
            refine r_aload_n (pc' := 95) d152_94 rfl rfl rfl ?_
            refine r_iload (pc' := 97) d152_95 rfl rfl ?_
            refine r_call (pc' := 100) [vR (some 50), vI _] [] d152_97 rfl o152 st12_72_12 (rcv1 sh50 (pl hN rfl)) rfl (by decide) ⟨rfl, rfl⟩ (Nat.le_of_ble_eq_true rfl) rfl (s_well hN ?_)
            exact r_iretI d152_100 rfl (by have w := kW j (by omega) rfl c18 q (by omega) rfl (by rw [ez]; exact nI_lt hq (by omega)); first | (rw [cut, if_pos c55] at w; exact w) | (rw [cut, if_neg c55, if_pos c70] at w; exact w) | (rw [cut, if_neg c55, if_neg c70] at w; exact w))
        · refine r_iload_n (pc' := 59) d152_58 rfl rfl rfl ?_
          refine r_i2b (pc' := 60) d152_59 rfl ?_
          refine r_goto 79 d152_60 rfl ?_
          refine r_istore (pc' := 81) (ls' := [(4, vI _), (0, vR (some 50)), (1, vI _), (2, vI _), (3, vI _)]) d152_79 rfl (by decide) rfl ?_
          obtain ⟨z, hz, ez⟩ := hS j (by omega)
          obtain ⟨q, hq, rfl⟩ := ix_lt (x := i) c40.1 (by rw [← ez]; exact c40.2) hz
          refine r_aload_n (pc' := 82) d152_81 rfl rfl rfl ?_
          refine r_getS (pc' := 85) d152_82 rfl o152 sf12_29_12 sh50 (pl hN rfl) (rfm7 hM) ?_
          refine r_bipush (v := 40) (pc' := 87) d152_85 rfl (by decide) ?_
          refine r_iload_n (pc' := 88) d152_87 rfl rfl rfl ?_
          refine r_imul (pc' := 89) d152_88 rfl ?_
          refine r_iload_n (pc' := 90) d152_89 rfl rfl rfl ?_
          refine r_iadd (pc' := 91) d152_90 rfl ?_
          refine r_iload (pc' := 93) d152_91 rfl rfl ?_
          refine r_iastN (pc' := 94) (j := ((40 * j) + q)) d152_93 rfl sh57 (pl hN rfl) (by simp only [lit, nI_add, pk_mul]) (by omega) (by decide) ?_
          refine r_aload_n (pc' := 95) d152_94 rfl rfl rfl ?_
          refine r_iload (pc' := 97) d152_95 rfl rfl ?_
          refine r_call (pc' := 100) [vR (some 50), vI _] [] d152_97 rfl o152 st12_72_12 (rcv1 sh50 (pl hN rfl)) rfl (by decide) ⟨rfl, rfl⟩ (Nat.le_of_ble_eq_true rfl) rfl (s_well hN ?_)
          exact r_iretI d152_100 rfl (by have w := kW j (by omega) rfl c18 q (by omega) rfl (by rw [ez]; exact nI_lt hq (by omega)); first | (rw [cut, if_pos c55] at w; exact w) | (rw [cut, if_neg c55, if_pos c70] at w; exact w) | (rw [cut, if_neg c55, if_neg c70] at w; exact w))
      · refine r_aload_n (pc' := 44) d152_43 rfl rfl rfl ?_
        refine r_iconst (v := 2) (pc' := 45) d152_44 rfl (by decide) ?_
        refine r_call (pc' := 48) [vR (some 50), vI _] [] d152_45 rfl o152 st12_68_12 (rcv1 sh50 (pl hN rfl)) rfl (by decide) ⟨rfl, rfl⟩ (Nat.le_of_ble_eq_true rfl) rfl (s_found hN ?_)
        exact r_iretI d152_48 rfl (qv (by decide) (kP j (by omega) rfl c18 c40))
    · refine r_aload_n (pc' := 22) d152_21 rfl rfl rfl ?_
      refine r_iconst (v := 1) (pc' := 23) d152_22 rfl (by decide) ?_
      refine r_call (pc' := 26) [vR (some 50), vI _] [] d152_23 rfl o152 st12_68_12 (rcv1 sh50 (pl hN rfl)) rfl (by decide) ⟨rfl, rfl⟩ (Nat.le_of_ble_eq_true rfl) rfl (s_found hN ?_)
      exact r_iretI d152_26 rfl (qv (by decide) (kN j (by omega) rfl c18))
  · refine r_ldc (pc' := 9) d152_7 rfl o152 kc12_67 ?_
    exact r_iretI d152_9 rfl (kB c4)
theorem M_drop {d : Nat} {h : Hp} {Q : Option AV → Hp → Prop} {row : Int32} (hN : hn h = 65) (hM : RM h) (kB : ¬ (0 ≤ row ∧ row ≤ 7) → Q (some (vI (-1000001))) h)
    (kN : ∀ j : Nat, j < 8 → row = nI j → hi h 55 j = -1000000 → Q (some (vI (-1000011))) (seti h 50 8 1))
    (kW : ∀ j : Nat, j < 8 → row = nI j → ¬ hi h 55 j = -1000000 → Q (some (vI (hi h 56 j))) (seti (seti h 55 j (-1000000)) 50 8 0)) : Spec (d + 2) 155 [vR (some 50), vI row] h Q := by
  refine spec_intro (by decide +kernel) rfl (Nat.le_of_ble_eq_true rfl) ?_
  refine r_iload_n (pc' := 1) d155_0 rfl rfl rfl ?_
  refine r_call (pc' := 4) [vI _] [] d155_1 rfl o155 st12_63 rcv0 rfl (by decide) ⟨rfl, rfl⟩ (Nat.le_of_ble_eq_true rfl) rfl (s_isRow ?_)
  refine r_if_neB 10 (pc' := 7) d155_4 rfl rfl (fun c4 => ?_) (fun c4 => ?_)
  · obtain ⟨j, hj, rfl⟩ := nat_of (n := 7) c4.1 c4.2 (by decide)
    refine r_aload_n (pc' := 11) d155_10 rfl rfl rfl ?_
    refine r_getS (pc' := 14) d155_11 rfl o155 sf12_23_12 sh50 (pl hN rfl) (rfm5 hM) ?_
    refine r_iload_n (pc' := 15) d155_14 rfl rfl rfl ?_
    refine r_ialdN (pc' := 16) (j := j) d155_15 rfl sh55 (pl hN rfl) rfl (by omega) (by decide) ?_
    refine r_ldc (pc' := 18) d155_16 rfl o155 kc12_53 ?_
    refine r_icmp_ne 27 (pc' := 21) d155_18 rfl rfl (fun c18 => ?_) (fun c18 => ?_)
    · refine r_aload_n (pc' := 28) d155_27 rfl rfl rfl ?_
      refine r_getS (pc' := 31) d155_28 rfl o155 sf12_23_12 sh50 (pl hN rfl) (rfm5 hM) ?_
      refine r_iload_n (pc' := 32) d155_31 rfl rfl rfl ?_
      refine r_ldc (pc' := 34) d155_32 rfl o155 kc12_53 ?_
      refine r_iastN (pc' := 35) (j := j) d155_34 rfl sh55 (pl hN rfl) rfl (by omega) (by decide) ?_
      refine r_aload_n (pc' := 36) d155_35 rfl rfl rfl ?_
      refine r_aload_n (pc' := 37) d155_36 rfl rfl rfl ?_
      refine r_getS (pc' := 40) d155_37 rfl o155 sf12_26_12 sh50 (pl hN rfl) (rfm6 hM) ?_
      refine r_iload_n (pc' := 41) d155_40 rfl rfl rfl ?_
      refine r_ialdN (pc' := 42) (j := j) d155_41 rfl sh56 (pl hN rfl) rfl (by omega) (by decide) ?_
      refine r_call (pc' := 45) [vR (some 50), vI _] [] d155_42 rfl o155 st12_72_12 (rcv1 sh50 (pl hN rfl)) rfl (by decide) ⟨rfl, rfl⟩ (Nat.le_of_ble_eq_true rfl) rfl (s_well hN ?_)
      exact r_iretI d155_45 rfl (qv (by rw [hi_seti_ne _ _ _ _ _ (by decide)]) (kW j (by omega) rfl c18))
    · refine r_aload_n (pc' := 22) d155_21 rfl rfl rfl ?_
      refine r_iconst (v := 1) (pc' := 23) d155_22 rfl (by decide) ?_
      refine r_call (pc' := 26) [vR (some 50), vI _] [] d155_23 rfl o155 st12_68_12 (rcv1 sh50 (pl hN rfl)) rfl (by decide) ⟨rfl, rfl⟩ (Nat.le_of_ble_eq_true rfl) rfl (s_found hN ?_)
      exact r_iretI d155_26 rfl (qv (by decide) (kN j (by omega) rfl c18))
  · refine r_ldc (pc' := 9) d155_7 rfl o155 kc12_67 ?_
    exact r_iretI d155_9 rfl (kB c4)
theorem s_isSpan {d : Nat} {h : Hp} {Q : Option AV → Hp → Prop} {j : Nat} {i n : Int32} (hN : hn h = 65) (hM : RM h) (hj : j < 8) (k : Q (some (vI (bI (0 ≤ i ∧ 0 ≤ n ∧ i.toInt + n.toInt ≤ (hi h 56 j).toInt)))) h) : Spec d 153 [vR (some 50), vI (nI j), vI i, vI n] h Q := by
  refine spec_intro (by decide +kernel) rfl (Nat.le_of_ble_eq_true rfl) ?_
  refine r_iload_n (pc' := 1) d153_0 rfl rfl rfl ?_
  refine r_if_lt 28 (pc' := 4) d153_1 rfl rfl (fun c1 => ?_) (fun c1 => ?_)
  · refine r_iconst (v := 0) (pc' := 29) d153_28 rfl (by decide) ?_
    exact r_iretZ0 d153_29 rfl (qv (b0 (by first | exact fun w => absurd w.1 (Int32.not_le.mpr c1) | exact fun w => absurd w.2.1 (Int32.not_le.mpr c5) | (have w := (lg_cmp_gt _ _).mp c21; rw [Int64.lt_iff_toInt_lt, i64_add, Int32.toInt_toInt64] at w; intro z; have := z.2.2; omega))) k)
  · refine r_iload_n (pc' := 5) d153_4 rfl rfl rfl ?_
    refine r_if_lt 28 (pc' := 8) d153_5 rfl rfl (fun c5 => ?_) (fun c5 => ?_)
    · refine r_iconst (v := 0) (pc' := 29) d153_28 rfl (by decide) ?_
      exact r_iretZ0 d153_29 rfl (qv (b0 (by first | exact fun w => absurd w.1 (Int32.not_le.mpr c1) | exact fun w => absurd w.2.1 (Int32.not_le.mpr c5) | (have w := (lg_cmp_gt _ _).mp c21; rw [Int64.lt_iff_toInt_lt, i64_add, Int32.toInt_toInt64] at w; intro z; have := z.2.2; omega))) k)
    · refine r_iload_n (pc' := 9) d153_8 rfl rfl rfl ?_
      refine r_i2l (pc' := 10) d153_9 rfl ?_
      refine r_iload_n (pc' := 11) d153_10 rfl rfl rfl ?_
      refine r_i2l (pc' := 12) d153_11 rfl ?_
      refine r_ladd (pc' := 13) d153_12 rfl ?_
      refine r_aload_n (pc' := 14) d153_13 rfl rfl rfl ?_
      refine r_getS (pc' := 17) d153_14 rfl o153 sf12_26_12 sh50 (pl hN rfl) (rfm6 hM) ?_
      refine r_iload_n (pc' := 18) d153_17 rfl rfl rfl ?_
      refine r_ialdN (pc' := 19) (j := j) d153_18 rfl sh56 (pl hN rfl) rfl (by omega) (by decide) ?_
      refine r_i2l (pc' := 20) d153_19 rfl ?_
      refine r_lcmp (pc' := 21) d153_20 rfl ?_
      refine r_if_gt 28 (pc' := 24) d153_21 rfl rfl (fun c21 => ?_) (fun c21 => ?_)
      · refine r_iconst (v := 0) (pc' := 29) d153_28 rfl (by decide) ?_
        exact r_iretZ0 d153_29 rfl (qv (b0 (by first | exact fun w => absurd w.1 (Int32.not_le.mpr c1) | exact fun w => absurd w.2.1 (Int32.not_le.mpr c5) | (have w := (lg_cmp_gt _ _).mp c21; rw [Int64.lt_iff_toInt_lt, i64_add, Int32.toInt_toInt64] at w; intro z; have := z.2.2; omega))) k)
      · refine r_iconst (v := 1) (pc' := 25) d153_24 rfl (by decide) ?_
        refine r_goto 29 d153_25 rfl ?_
        exact r_iretZ1 d153_29 rfl (qv (b1 (by have w := (not_congr (lg_cmp_gt _ _)).mp c21; rw [Int64.lt_iff_toInt_lt, i64_add, Int32.toInt_toInt64] at w; exact ⟨Int32.not_lt.mp c1, Int32.not_lt.mp c5, by omega⟩)) k)
