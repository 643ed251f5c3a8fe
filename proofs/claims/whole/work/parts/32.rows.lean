/-! rows: the reference and the class (printed by wip/whole/m32.py) -/
def RCL : List (Nat × Nat × Nat) := [(0, 0, 1), (0, 1, 5), (0, 2, 7), (0, 3, 9), (0, 4, 16), (0, 8, 45), (0, 11, 46), (0, 12, 47), (0, 13, 48), (0, 14, 49), (1, 0, 2), (1, 1, 3), (1, 2, 4), (5, 0, 6), (7, 0, 8), (17, 0, 9), (17, 5, 18), (17, 6, 19), (17, 7, 20), (17, 9, 21), (17, 11, 22), (17, 12, 23), (17, 13, 24), (31, 0, 9), (31, 5, 32), (31, 6, 33), (31, 7, 34), (31, 9, 35), (31, 11, 36), (31, 12, 37), (31, 13, 38)]
def RC (h : Hp) : Prop := (∀ q ∈ RCL, hr h q.1 q.2.1 = some q.2.2) ∧ (∀ i, i < 6 → hr h 9 i = some (10 + i)) ∧ (∀ i, i < 6 → hr h 21 i = some (25 + i)) ∧ ∀ i, i < 6 → hr h 35 i = some (39 + i)
theorem rfc0_0 {h : Hp} (hC : RC h) : hr h 0 0 = some 1 := hC.1 (0, 0, 1) (by decide)
theorem rfc0_1 {h : Hp} (hC : RC h) : hr h 0 1 = some 5 := hC.1 (0, 1, 5) (by decide)
theorem rfc0_2 {h : Hp} (hC : RC h) : hr h 0 2 = some 7 := hC.1 (0, 2, 7) (by decide)
theorem rfc0_3 {h : Hp} (hC : RC h) : hr h 0 3 = some 9 := hC.1 (0, 3, 9) (by decide)
theorem rfc0_4 {h : Hp} (hC : RC h) : hr h 0 4 = some 16 := hC.1 (0, 4, 16) (by decide)
theorem rfc0_8 {h : Hp} (hC : RC h) : hr h 0 8 = some 45 := hC.1 (0, 8, 45) (by decide)
theorem rfc0_11 {h : Hp} (hC : RC h) : hr h 0 11 = some 46 := hC.1 (0, 11, 46) (by decide)
theorem rfc0_12 {h : Hp} (hC : RC h) : hr h 0 12 = some 47 := hC.1 (0, 12, 47) (by decide)
theorem rfc0_13 {h : Hp} (hC : RC h) : hr h 0 13 = some 48 := hC.1 (0, 13, 48) (by decide)
theorem rfc0_14 {h : Hp} (hC : RC h) : hr h 0 14 = some 49 := hC.1 (0, 14, 49) (by decide)
theorem rfc1_0 {h : Hp} (hC : RC h) : hr h 1 0 = some 2 := hC.1 (1, 0, 2) (by decide)
theorem rfc1_1 {h : Hp} (hC : RC h) : hr h 1 1 = some 3 := hC.1 (1, 1, 3) (by decide)
theorem rfc1_2 {h : Hp} (hC : RC h) : hr h 1 2 = some 4 := hC.1 (1, 2, 4) (by decide)
theorem rfc5_0 {h : Hp} (hC : RC h) : hr h 5 0 = some 6 := hC.1 (5, 0, 6) (by decide)
theorem rfc7_0 {h : Hp} (hC : RC h) : hr h 7 0 = some 8 := hC.1 (7, 0, 8) (by decide)
theorem rfc17_0 {h : Hp} (hC : RC h) : hr h 17 0 = some 9 := hC.1 (17, 0, 9) (by decide)
theorem rfc17_5 {h : Hp} (hC : RC h) : hr h 17 5 = some 18 := hC.1 (17, 5, 18) (by decide)
theorem rfc17_6 {h : Hp} (hC : RC h) : hr h 17 6 = some 19 := hC.1 (17, 6, 19) (by decide)
theorem rfc17_7 {h : Hp} (hC : RC h) : hr h 17 7 = some 20 := hC.1 (17, 7, 20) (by decide)
theorem rfc17_9 {h : Hp} (hC : RC h) : hr h 17 9 = some 21 := hC.1 (17, 9, 21) (by decide)
theorem rfc17_11 {h : Hp} (hC : RC h) : hr h 17 11 = some 22 := hC.1 (17, 11, 22) (by decide)
theorem rfc17_12 {h : Hp} (hC : RC h) : hr h 17 12 = some 23 := hC.1 (17, 12, 23) (by decide)
theorem rfc17_13 {h : Hp} (hC : RC h) : hr h 17 13 = some 24 := hC.1 (17, 13, 24) (by decide)
theorem rfc31_0 {h : Hp} (hC : RC h) : hr h 31 0 = some 9 := hC.1 (31, 0, 9) (by decide)
theorem rfc31_5 {h : Hp} (hC : RC h) : hr h 31 5 = some 32 := hC.1 (31, 5, 32) (by decide)
theorem rfc31_6 {h : Hp} (hC : RC h) : hr h 31 6 = some 33 := hC.1 (31, 6, 33) (by decide)
theorem rfc31_7 {h : Hp} (hC : RC h) : hr h 31 7 = some 34 := hC.1 (31, 7, 34) (by decide)
theorem rfc31_9 {h : Hp} (hC : RC h) : hr h 31 9 = some 35 := hC.1 (31, 9, 35) (by decide)
theorem rfc31_11 {h : Hp} (hC : RC h) : hr h 31 11 = some 36 := hC.1 (31, 11, 36) (by decide)
theorem rfc31_12 {h : Hp} (hC : RC h) : hr h 31 12 = some 37 := hC.1 (31, 12, 37) (by decide)
theorem rfc31_13 {h : Hp} (hC : RC h) : hr h 31 13 = some 38 := hC.1 (31, 13, 38) (by decide)
theorem M_row {d : Nat} {h : Hp} {Q : Option AV → Hp → Prop} {row lane n : Int32} (hN : hn h = 65) (hM : RM h) (kB : (¬ (0 ≤ row ∧ row ≤ 7) ∨ ¬ (0 ≤ lane ∧ lane ≤ 2) ∨ ¬ n ≤ 40) → Q (some (vI (-1000001))) h)
    (kS : ((0 ≤ row ∧ row ≤ 7) ∧ (0 ≤ lane ∧ lane ≤ 2) ∧ n ≤ 40) → n < 0 → Q (some (vI (-1000014))) (seti h 50 8 4))
    (kW : ∀ j : Nat, j < 8 → row = nI j → (0 ≤ lane ∧ lane ≤ 2) → 0 ≤ n → n ≤ 40 → Q (some (vI n)) (seti (setw (seti (seti h 55 j lane) 56 j n) 57 (mix (fun _ => 0) (hi h 57) (40 * j) 40)) 50 8 0)) : Spec (d + 2) 151 [vR (some 50), vI row, vI lane, vI n] h Q := by
  refine spec_intro (by decide +kernel) rfl (Nat.le_of_ble_eq_true rfl) ?_
  refine r_iload_n (pc' := 1) d151_0 rfl rfl rfl ?_
  refine r_call (pc' := 4) [vI _] [] d151_1 rfl o151 st12_63 rcv0 rfl (by decide) ⟨rfl, rfl⟩ (Nat.le_of_ble_eq_true rfl) rfl (s_isRow ?_)
  refine r_if_eqB 22 (pc' := 7) d151_4 rfl rfl (fun c4 => ?_) (fun c4 => ?_)
  · refine r_ldc (pc' := 24) d151_22 rfl o151 kc12_67 ?_
    exact r_iretI d151_24 rfl (kB (by first | exact Or.inl c4 | exact Or.inr (Or.inl c13) | exact Or.inr (Or.inr c19)))
  · refine r_iload_n (pc' := 8) d151_7 rfl rfl rfl ?_
    refine r_iconst (v := 0) (pc' := 9) d151_8 rfl (by decide) ?_
    refine r_iconst (v := 2) (pc' := 10) d151_9 rfl (by decide) ?_
    refine r_call (pc' := 13) [vI _, vI _, vI _] [] d151_10 rfl o151 st12_59 rcv0 rfl (by decide) ⟨rfl, rfl⟩ (Nat.le_of_ble_eq_true rfl) rfl (s_in ?_)
    refine r_if_eqB 22 (pc' := 16) d151_13 rfl rfl (fun c13 => ?_) (fun c13 => ?_)
    · refine r_ldc (pc' := 24) d151_22 rfl o151 kc12_67 ?_
      exact r_iretI d151_24 rfl (kB (by first | exact Or.inl c4 | exact Or.inr (Or.inl c13) | exact Or.inr (Or.inr c19)))
    · refine r_iload_n (pc' := 17) d151_16 rfl rfl rfl ?_
      refine r_bipush (v := 40) (pc' := 19) d151_17 rfl (by decide) ?_
      refine r_icmp_le 25 (pc' := 22) d151_19 rfl rfl (fun c19 => ?_) (fun c19 => ?_)
      · refine r_iload_n (pc' := 26) d151_25 rfl rfl rfl ?_
        refine r_if_ge 35 (pc' := 29) d151_26 rfl rfl (fun c26 => ?_) (fun c26 => ?_)
        · obtain ⟨j, hj, rfl⟩ := nat_of (n := 7) c4.1 c4.2 (by decide)
          refine r_aload_n (pc' := 36) d151_35 rfl rfl rfl ?_
          refine r_getS (pc' := 39) d151_36 rfl o151 sf12_23_12 sh50 (pl hN rfl) (rfm5 hM) ?_
          refine r_iload_n (pc' := 40) d151_39 rfl rfl rfl ?_
          refine r_iload_n (pc' := 41) d151_40 rfl rfl rfl ?_
          refine r_iastN (pc' := 42) (j := j) d151_41 rfl sh55 (pl hN rfl) rfl (by omega) (by decide) ?_
          refine r_aload_n (pc' := 43) d151_42 rfl rfl rfl ?_
          refine r_getS (pc' := 46) d151_43 rfl o151 sf12_26_12 sh50 (pl hN rfl) (rfm6 hM) ?_
          refine r_iload_n (pc' := 47) d151_46 rfl rfl rfl ?_
          refine r_iload_n (pc' := 48) d151_47 rfl rfl rfl ?_
          refine r_iastN (pc' := 49) (j := j) d151_48 rfl sh56 (pl hN rfl) rfl (by omega) (by decide) ?_
          refine r_iconst (v := 0) (pc' := 50) d151_49 rfl (by decide) ?_
          refine r_istore (pc' := 52) (ls' := [(4, vI _), (0, vR (some 50)), (1, vI _), (2, vI _), (3, vI _)]) d151_50 rfl (by decide) rfl ?_
          refine wp_pick (ls' := [(0, vR (some 50)), (1, vI _), (2, vI _), (3, vI _), (4, vI _)]) [1, 2, 3, 4, 0] rfl ?_
          have loop : ∀ (r k : Nat), k + r = 40 → wp (d + 2) 151 Q 0 0 52 [(0, vR (some 50)), (1, vI (nI j)), (2, vI lane), (3, vI n), (4, vI (nI k))] [] (setw (seti (seti h 55 j lane) 56 j n) 57 (mix (fun _ => 0) (hi h 57) (40 * j) k)) := by
            intro r
            induction r with
            | zero =>
              intro k hk
              obtain rfl : k = 40 := by omega
              refine r_iload (pc' := 54) d151_52 rfl rfl ?_
              refine r_bipush (v := 40) (pc' := 56) d151_54 rfl (by decide) ?_
              refine r_icmp_ge 78 (pc' := 59) d151_56 rfl rfl (fun c56 => ?_) (fun c56 => absurd (by decide) c56)
              refine r_aload_n (pc' := 79) d151_78 rfl rfl rfl ?_
              refine r_iload_n (pc' := 80) d151_79 rfl rfl rfl ?_
              refine r_call (pc' := 83) [vR (some 50), vI _] [] d151_80 rfl o151 st12_72_12 (rcv1 sh50 (pl hN rfl)) rfl (by decide) ⟨rfl, rfl⟩ (Nat.le_of_ble_eq_true rfl) rfl (s_well hN ?_)
              exact r_iretI d151_83 rfl (kW j (by omega) rfl c13 c26 c19)
            | succ r ih =>
              intro k hk
              refine r_iload (pc' := 54) d151_52 rfl rfl ?_
              refine r_bipush (v := 40) (pc' := 56) d151_54 rfl (by decide) ?_
              refine r_icmp_ge 78 (pc' := 59) d151_56 rfl rfl (fun c56 => absurd c56 (nI_ge (a := k) (b := 40) (by omega) (by decide))) (fun c56 => ?_)
              refine r_aload_n (pc' := 60) d151_59 rfl rfl rfl ?_
              refine r_getS (pc' := 63) d151_60 rfl o151 sf12_29_12 sh50 (pl hN rfl) (rfm7 hM) ?_
              refine r_bipush (v := 40) (pc' := 65) d151_63 rfl (by decide) ?_
              refine r_iload_n (pc' := 66) d151_65 rfl rfl rfl ?_
              refine r_imul (pc' := 67) d151_66 rfl ?_
              refine r_iload (pc' := 69) d151_67 rfl rfl ?_
              refine r_iadd (pc' := 70) d151_69 rfl ?_
              refine r_iconst (v := 0) (pc' := 71) d151_70 rfl (by decide) ?_
              refine r_iastN (pc' := 72) (j := ((40 * j) + k)) d151_71 rfl sh57 (pl hN rfl) (by simp only [lit, nI_add, pk_mul]) (by omega) (by decide) ?_
              refine r_iinc (v := _ + 1) (pc' := 75) (ls' := [(4, vI _), (0, vR (some 50)), (1, vI _), (2, vI _), (3, vI _)]) d151_72 rfl rfl rfl (by decide) rfl ?_
              refine r_goto 52 d151_75 rfl ?_
              refine wp_pick (ls' := [(0, vR (some 50)), (1, vI _), (2, vI _), (3, vI _), (4, vI _)]) [1, 2, 3, 4, 0] rfl ?_
              refine wp_heap (h' := setw (seti (seti h 55 j lane) 56 j n) 57 (mix (fun _ => 0) (hi h 57) (40 * j) (k + 1))) ((seti_setw _ _ _ _ _).trans (congrArg (setw _ _) (mix_s (fun _ => 0) (hi h 57) (40 * j) k))) ?_
              rw [nI_1]
              exact ih (k + 1) (by omega)
          refine wp_heap (h' := setw (seti (seti h 55 j lane) 56 j n) 57 (mix (fun _ => 0) (hi h 57) (40 * j) 0)) (by rw [mix_0]; exact (setw_self _ 57).symm) ?_
          exact loop 40 0 rfl
        · refine r_aload_n (pc' := 30) d151_29 rfl rfl rfl ?_
          refine r_iconst (v := 4) (pc' := 31) d151_30 rfl (by decide) ?_
          refine r_call (pc' := 34) [vR (some 50), vI _] [] d151_31 rfl o151 st12_68_12 (rcv1 sh50 (pl hN rfl)) rfl (by decide) ⟨rfl, rfl⟩ (Nat.le_of_ble_eq_true rfl) rfl (s_found hN ?_)
          exact r_iretI d151_34 rfl (qv (by decide) (kS ⟨c4, c13, c19⟩ (Int32.not_le.mp c26)))
      · refine r_ldc (pc' := 24) d151_22 rfl o151 kc12_67 ?_
        exact r_iretI d151_24 rfl (kB (by first | exact Or.inl c4 | exact Or.inr (Or.inl c13) | exact Or.inr (Or.inr c19)))
