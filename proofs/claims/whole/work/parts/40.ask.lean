/-! the reference: questions and small acts (printed by wip/whole/m40.py) -/
abbrev inR (t : Int32) (m : Nat) : Prop := 0 ≤ t ∧ t ≤ nI m - 1
theorem inR_of {t : Int32} {m : Nat} (h : inR t m) (hm : m ≤ 40) : ∃ j : Nat, j < m ∧ t = nI j := ix_lt h.1 h.2 hm
theorem s_isThingC {d : Nat} {h : Hp} {Q : Option AV → Hp → Prop} {t : Int32} {m L e : Nat} (hN : hn h = 65) (hM : RM h) (hc : Cnt (hi h 51) m L e) (k : Q (some (vI (bI (inR t m)))) h) : Spec (d + 1) 174 [vR (some 50), vI t] h Q := s_isThing hN hM (by rw [hc.1]; exact k)
theorem nat2 {x : Int32} {n : Nat} (h : 0 ≤ x ∧ x ≤ nI n) (hn0 : n < 2 ^ 31) : ∃ j : Nat, j ≤ n ∧ x = nI j := nat_of h.1 h.2 hn0
theorem M_fault {d : Nat} {h : Hp} {Q : Option AV → Hp → Prop} (hN : hn h = 65) (k : Q (some (vI (hi h 50 16))) h) : Spec d 172 [vR (some 50)] h Q := by
  refine spec_intro (by decide +kernel) rfl (Nat.le_of_ble_eq_true rfl) ?_
  refine r_aload_n (pc' := 1) d172_0 rfl rfl rfl ?_
  refine r_getI (pc' := 4) d172_1 rfl o172 sf12_143_12 sh50 (pl hN rfl) ?_
  exact r_iretI d172_4 rfl k
theorem M_status {d : Nat} {h : Hp} {Q : Option AV → Hp → Prop} (hN : hn h = 65) (k : Q (some (vI (hi h 50 8))) h) : Spec d 247 [vR (some 50)] h Q := by
  refine spec_intro (by decide +kernel) rfl (Nat.le_of_ble_eq_true rfl) ?_
  refine r_aload_n (pc' := 1) d247_0 rfl rfl rfl ?_
  refine r_getI (pc' := 4) d247_1 rfl o247 sf12_54_12 sh50 (pl hN rfl) ?_
  exact r_iretI d247_4 rfl k
theorem M_feed {d : Nat} {h : Hp} {Q : Option AV → Hp → Prop} {letter : Int32} {a : Nat} (hN : hn h = 65) (hM : RM h) (ha : hi h 50 10 = nI a) (ha160 : a ≤ 160) (kB : ¬ (0 ≤ letter ∧ letter ≤ 255) → Q (some (vI (-1000001))) h)
    (kF : (0 ≤ letter ∧ letter ≤ 255) → a = 160 → Q (some (vI (-1000003))) h)
    (kW : (0 ≤ letter ∧ letter ≤ 255) → a < 160 → Q (some (vI (nI (a + 1)))) (seti (seti h 58 a letter) 50 10 (nI (a + 1)))) : Spec (d + 1) 156 [vR (some 50), vI letter] h Q := by
  refine spec_intro (by decide +kernel) rfl (Nat.le_of_ble_eq_true rfl) ?_
  refine r_iload_n (pc' := 1) d156_0 rfl rfl rfl ?_
  refine r_iconst (v := 0) (pc' := 2) d156_1 rfl (by decide) ?_
  refine r_sipush (v := 255) (pc' := 5) d156_2 rfl (by decide) ?_
  refine r_call (pc' := 8) [vI _, vI _, vI _] [] d156_5 rfl o156 st12_59 rcv0 rfl (by decide) ⟨rfl, rfl⟩ (Nat.le_of_ble_eq_true rfl) rfl (s_in ?_)
  refine r_if_neB 14 (pc' := 11) d156_8 rfl rfl (fun c8 => ?_) (fun c8 => ?_)
  · refine r_aload_n (pc' := 15) d156_14 rfl rfl rfl ?_
    refine r_getI (pc' := 18) d156_15 rfl o156 sf12_78_12 sh50 (pl hN rfl) ?_
    refine wp_v ha ?_
    refine r_sipush (v := 160) (pc' := 21) d156_18 rfl (by decide) ?_
    refine r_icmp_ne 27 (pc' := 24) d156_21 rfl rfl (fun c21 => ?_) (fun c21 => ?_)
    · have ha2 : a < 160 := by
        rcases Nat.lt_or_ge a 160 with q | q
        · exact q
        · exact absurd (show nI a = nI 160 by rw [show a = 160 by omega]) c21
      refine r_aload_n (pc' := 28) d156_27 rfl rfl rfl ?_
      refine r_getS (pc' := 31) d156_28 rfl o156 sf12_32_12 sh50 (pl hN rfl) (rfm9 hM) ?_
      refine r_aload_n (pc' := 32) d156_31 rfl rfl rfl ?_
      refine r_getI (pc' := 35) d156_32 rfl o156 sf12_78_12 sh50 (pl hN rfl) ?_
      refine wp_v ha ?_
      refine r_iload_n (pc' := 36) d156_35 rfl rfl rfl ?_
      refine r_iastN (pc' := 37) (j := a) d156_36 rfl sh58 (pl hN rfl) rfl (by omega) (by decide) ?_
      refine r_aload_n (pc' := 38) d156_37 rfl rfl rfl ?_
      refine r_dupR (pc' := 39) d156_38 rfl ?_
      refine r_getI (pc' := 42) d156_39 rfl o156 sf12_78_12 sh50 (pl hN rfl) ?_
      refine wp_v ha ?_
      refine r_iconst (v := 1) (pc' := 43) d156_42 rfl (by decide) ?_
      refine r_iadd (pc' := 44) d156_43 rfl ?_
      refine r_putI (pc' := 47) d156_44 rfl o156 sp12_78_12 sh50 (fun w => absurd w (by decide)) (Or.inl rfl) (pl hN rfl) ?_
      refine r_aload_n (pc' := 48) d156_47 rfl rfl rfl ?_
      refine r_getI (pc' := 51) d156_48 rfl o156 sf12_78_12 sh50 (pl hN rfl) ?_
      exact r_iretI d156_51 rfl (qh (congrArg (seti _ 50 10) (nI_1 a).symm) (qv (nI_1 a).symm (kW c8 ha2)))
    · refine r_ldc (pc' := 26) d156_24 rfl o156 kc12_81 ?_
      exact r_iretI d156_26 rfl (kF c8 ((nI_eq (by omega) (by decide)).mp c21))
  · refine r_ldc (pc' := 13) d156_11 rfl o156 kc12_67 ?_
    exact r_iretI d156_13 rfl (kB c8)
theorem M_trace {d : Nat} {h : Hp} {Q : Option AV → Hp → Prop} {i : Int32} {a : Nat} (hN : hn h = 65) (hM : RM h) (ha : hi h 50 23 = nI a) (ha16 : a ≤ 16) (kN : ¬ inR i a → Q (some (vI (-1000000))) h)
    (kW : ∀ j : Nat, j < a → i = nI j → Q (some (vI (hi h 64 j))) h) : Spec (d + 1) 245 [vR (some 50), vI i] h Q := by
  refine spec_intro (by decide +kernel) rfl (Nat.le_of_ble_eq_true rfl) ?_
  refine r_iload_n (pc' := 1) d245_0 rfl rfl rfl ?_
  refine r_iconst (v := 0) (pc' := 2) d245_1 rfl (by decide) ?_
  refine r_aload_n (pc' := 3) d245_2 rfl rfl rfl ?_
  refine r_getI (pc' := 6) d245_3 rfl o245 sf12_261_12 sh50 (pl hN rfl) ?_
  refine wp_v ha ?_
  refine r_iconst (v := 1) (pc' := 7) d245_6 rfl (by decide) ?_
  refine r_isub (pc' := 8) d245_7 rfl ?_
  refine r_call (pc' := 11) [vI _, vI _, vI _] [] d245_8 rfl o245 st12_59 rcv0 rfl (by decide) ⟨rfl, rfl⟩ (Nat.le_of_ble_eq_true rfl) rfl (s_in ?_)
  refine r_if_eqB 23 (pc' := 14) d245_11 rfl rfl (fun c11 => ?_) (fun c11 => ?_)
  · refine r_ldc (pc' := 25) d245_23 rfl o245 kc12_53 ?_
    exact r_iretI d245_25 rfl (kN c11)
  · obtain ⟨j, hj, rfl⟩ := ix_lt c11.1 c11.2 (by omega)
    refine r_aload_n (pc' := 15) d245_14 rfl rfl rfl ?_
    refine r_getS (pc' := 18) d245_15 rfl o245 sf12_50_12 sh50 (pl hN rfl) (rfm22 hM) ?_
    refine r_iload_n (pc' := 19) d245_18 rfl rfl rfl ?_
    refine r_ialdN (pc' := 20) (j := j) d245_19 rfl sh64 (pl hN rfl) rfl (by omega) (by decide) ?_
    refine r_goto 25 d245_20 rfl ?_
    exact r_iretI d245_25 rfl (kW j hj rfl)
theorem M_kind {d : Nat} {h : Hp} {Q : Option AV → Hp → Prop} {m L e : Nat} {t : Int32} (hN : hn h = 65) (hM : RM h) (hc : Cnt (hi h 51) m L e) (kB : ¬ inR t m → Q (some (vI (-1000001))) h)
    (kW : ∀ j : Nat, j < m → t = nI j → Q (some (vI (hi h 51 (5 + j)))) h) : Spec (d + 2) 232 [vR (some 50), vI t] h Q := by
  obtain ⟨hc1, hc2, hc3, hc4, hc5, hc6⟩ := id hc
  refine spec_intro (by decide +kernel) rfl (Nat.le_of_ble_eq_true rfl) ?_
  refine r_aload_n (pc' := 1) d232_0 rfl rfl rfl ?_
  refine r_iload_n (pc' := 2) d232_1 rfl rfl rfl ?_
  refine r_call (pc' := 5) [vR (some 50), vI _] [] d232_2 rfl o232 st12_194_12 (rcv1 sh50 (pl hN rfl)) rfl (by decide) ⟨rfl, rfl⟩ (Nat.le_of_ble_eq_true rfl) rfl (s_isThingC hN hM hc ?_)
  refine r_if_eqB 19 (pc' := 8) d232_5 rfl rfl (fun c5 => ?_) (fun c5 => ?_)
  · refine r_ldc (pc' := 21) d232_19 rfl o232 kc12_67 ?_
    exact r_iretI d232_21 rfl (kB c5)
  · obtain ⟨j, hj, rfl⟩ := inR_of c5 (by omega)
    refine r_aload_n (pc' := 9) d232_8 rfl rfl rfl ?_
    refine r_getS (pc' := 12) d232_9 rfl o232 sf12_7_12 sh50 (pl hN rfl) (rfm0 hM) ?_
    refine r_iconst (v := 5) (pc' := 13) d232_12 rfl (by decide) ?_
    refine r_iload_n (pc' := 14) d232_13 rfl rfl rfl ?_
    refine r_iadd (pc' := 15) d232_14 rfl ?_
    refine r_ialdN (pc' := 16) (j := (5 + j)) d232_15 rfl sh51 (pl hN rfl) (by simp only [lit, nI_add, pk_mul]) (by omega) (by decide) ?_
    refine r_goto 21 d232_16 rfl ?_
    exact r_iretI d232_21 rfl (kW j hj rfl)
theorem M_as {d : Nat} {h : Hp} {Q : Option AV → Hp → Prop} {m L e : Nat} {t k : Int32} (hN : hn h = 65) (hM : RM h) (hc : Cnt (hi h 51) m L e) (kB : (¬ inR t m ∨ ¬ (0 ≤ k ∧ k ≤ 5)) → Q (some (vI (-1000001))) h)
    (kF : ∀ j : Nat, j < m → t = nI j → (0 ≤ k ∧ k ≤ 5) → ¬ isAI (hi h 51 (5 + j)) k → Q (some (vI (-1000013))) (seti h 50 8 3))
    (kW : ∀ j : Nat, j < m → t = nI j → (0 ≤ k ∧ k ≤ 5) → isAI (hi h 51 (5 + j)) k → Q (some (vI t)) (seti h 50 8 0)) : Spec (d + 2) 233 [vR (some 50), vI t, vI k] h Q := by
  obtain ⟨hc1, hc2, hc3, hc4, hc5, hc6⟩ := id hc
  refine spec_intro (by decide +kernel) rfl (Nat.le_of_ble_eq_true rfl) ?_
  refine r_aload_n (pc' := 1) d233_0 rfl rfl rfl ?_
  refine r_iload_n (pc' := 2) d233_1 rfl rfl rfl ?_
  refine r_call (pc' := 5) [vR (some 50), vI _] [] d233_2 rfl o233 st12_194_12 (rcv1 sh50 (pl hN rfl)) rfl (by decide) ⟨rfl, rfl⟩ (Nat.le_of_ble_eq_true rfl) rfl (s_isThingC hN hM hc ?_)
  refine r_if_eqB 17 (pc' := 8) d233_5 rfl rfl (fun c5 => ?_) (fun c5 => ?_)
  · refine r_ldc (pc' := 19) d233_17 rfl o233 kc12_67 ?_
    exact r_iretI d233_19 rfl (kB (by first | exact Or.inl c5 | exact Or.inr c14))
  · refine r_iload_n (pc' := 9) d233_8 rfl rfl rfl ?_
    refine r_iconst (v := 0) (pc' := 10) d233_9 rfl (by decide) ?_
    refine r_iconst (v := 5) (pc' := 11) d233_10 rfl (by decide) ?_
    refine r_call (pc' := 14) [vI _, vI _, vI _] [] d233_11 rfl o233 st12_59 rcv0 rfl (by decide) ⟨rfl, rfl⟩ (Nat.le_of_ble_eq_true rfl) rfl (s_in ?_)
    refine r_if_neB 20 (pc' := 17) d233_14 rfl rfl (fun c14 => ?_) (fun c14 => ?_)
    · obtain ⟨j, hj, rfl⟩ := inR_of c5 (by omega)
      refine r_aload_n (pc' := 21) d233_20 rfl rfl rfl ?_
      refine r_getS (pc' := 24) d233_21 rfl o233 sf12_7_12 sh50 (pl hN rfl) (rfm0 hM) ?_
      refine r_iconst (v := 5) (pc' := 25) d233_24 rfl (by decide) ?_
      refine r_iload_n (pc' := 26) d233_25 rfl rfl rfl ?_
      refine r_iadd (pc' := 27) d233_26 rfl ?_
      refine r_ialdN (pc' := 28) (j := (5 + j)) d233_27 rfl sh51 (pl hN rfl) (by simp only [lit, nI_add, pk_mul]) (by omega) (by decide) ?_
      refine r_iload_n (pc' := 29) d233_28 rfl rfl rfl ?_
      refine r_call (pc' := 32) [vI _, vI _] [] d233_29 rfl o233 st12_157 rcv0 rfl (by decide) ⟨rfl, rfl⟩ (Nat.le_of_ble_eq_true rfl) rfl (s_isA ?_)
      refine r_if_eqB 43 (pc' := 35) d233_32 rfl rfl (fun c32 => ?_) (fun c32 => ?_)
      · refine r_aload_n (pc' := 44) d233_43 rfl rfl rfl ?_
        refine r_iconst (v := 3) (pc' := 45) d233_44 rfl (by decide) ?_
        refine r_call (pc' := 48) [vR (some 50), vI _] [] d233_45 rfl o233 st12_68_12 (rcv1 sh50 (pl hN rfl)) rfl (by decide) ⟨rfl, rfl⟩ (Nat.le_of_ble_eq_true rfl) rfl (s_found hN ?_)
        exact r_iretI d233_48 rfl (qv (by decide) (kF j hj rfl c14 c32))
      · refine r_aload_n (pc' := 36) d233_35 rfl rfl rfl ?_
        refine r_iload_n (pc' := 37) d233_36 rfl rfl rfl ?_
        refine r_call (pc' := 40) [vR (some 50), vI _] [] d233_37 rfl o233 st12_72_12 (rcv1 sh50 (pl hN rfl)) rfl (by decide) ⟨rfl, rfl⟩ (Nat.le_of_ble_eq_true rfl) rfl (s_well hN ?_)
        refine r_goto 48 d233_40 rfl ?_
        exact r_iretI d233_48 rfl (kW j hj rfl c14 c32)
    · refine r_ldc (pc' := 19) d233_17 rfl o233 kc12_67 ?_
      exact r_iretI d233_19 rfl (kB (by first | exact Or.inl c5 | exact Or.inr c14))
theorem M_thing {d : Nat} {h : Hp} {Q : Option AV → Hp → Prop} {m L e : Nat} {t what : Int32} (hN : hn h = 65) (hM : RM h) (hc : Cnt (hi h 51) m L e) (kB : (¬ inR t m ∨ ¬ (0 ≤ what ∧ what ≤ 6)) → Q (some (vI (-1000001))) h)
    (kW : ∀ j : Nat, j < m → t = nI j → ∀ w : Nat, w ≤ 6 → what = nI w → ∀ {v : Int32}, (if w = 6 then bI (thrI (hi h 51) j) else hi h 51 (45 + 6 * w + j)) = v → Q (some (vI v)) h) : Spec (d + 2) 202 [vR (some 50), vI t, vI what] h Q := by
  obtain ⟨hc1, hc2, hc3, hc4, hc5, hc6⟩ := id hc
  refine spec_intro (by decide +kernel) rfl (Nat.le_of_ble_eq_true rfl) ?_
  refine r_aload_n (pc' := 1) d202_0 rfl rfl rfl ?_
  refine r_iload_n (pc' := 2) d202_1 rfl rfl rfl ?_
  refine r_call (pc' := 5) [vR (some 50), vI _] [] d202_2 rfl o202 st12_194_12 (rcv1 sh50 (pl hN rfl)) rfl (by decide) ⟨rfl, rfl⟩ (Nat.le_of_ble_eq_true rfl) rfl (s_isThingC hN hM hc ?_)
  refine r_if_eqB 18 (pc' := 8) d202_5 rfl rfl (fun c5 => ?_) (fun c5 => ?_)
  · refine r_ldc (pc' := 20) d202_18 rfl o202 kc12_67 ?_
    exact r_iretI d202_20 rfl (kB (by first | exact Or.inl c5 | exact Or.inr c15))
  · refine r_iload_n (pc' := 9) d202_8 rfl rfl rfl ?_
    refine r_iconst (v := 0) (pc' := 10) d202_9 rfl (by decide) ?_
    refine r_bipush (v := 6) (pc' := 12) d202_10 rfl (by decide) ?_
    refine r_call (pc' := 15) [vI _, vI _, vI _] [] d202_12 rfl o202 st12_59 rcv0 rfl (by decide) ⟨rfl, rfl⟩ (Nat.le_of_ble_eq_true rfl) rfl (s_in ?_)
    refine r_if_neB 21 (pc' := 18) d202_15 rfl rfl (fun c15 => ?_) (fun c15 => ?_)
    · obtain ⟨j, hj, rfl⟩ := inR_of c5 (by omega)
      obtain ⟨w, hw, rfl⟩ := nat2 (n := 6) c15 (by decide)
      refine r_iload_n (pc' := 22) d202_21 rfl rfl rfl ?_
      refine r_bipush (v := 6) (pc' := 24) d202_22 rfl (by decide) ?_
      refine r_icmp_ne 43 (pc' := 27) d202_24 rfl rfl (fun c24 => ?_) (fun c24 => ?_)
      · have hw6 : w ≠ 6 := fun z => c24 (congrArg nI z)
        refine r_aload_n (pc' := 44) d202_43 rfl rfl rfl ?_
        refine r_getS (pc' := 47) d202_44 rfl o202 sf12_7_12 sh50 (pl hN rfl) (rfm0 hM) ?_
        refine r_bipush (v := 45) (pc' := 49) d202_47 rfl (by decide) ?_
        refine r_bipush (v := 6) (pc' := 51) d202_49 rfl (by decide) ?_
        refine r_iload_n (pc' := 52) d202_51 rfl rfl rfl ?_
        refine r_imul (pc' := 53) d202_52 rfl ?_
        refine r_iadd (pc' := 54) d202_53 rfl ?_
        refine r_iload_n (pc' := 55) d202_54 rfl rfl rfl ?_
        refine r_iadd (pc' := 56) d202_55 rfl ?_
        refine r_ialdN (pc' := 57) (j := ((45 + (6 * w)) + j)) d202_56 rfl sh51 (pl hN rfl) (by simp only [lit, nI_add, pk_mul]) (by omega) (by decide) ?_
        exact r_iretI d202_57 rfl (kW j hj rfl w hw rfl (if_neg (fun z => c24 (congrArg nI z))))
      · refine r_aload_n (pc' := 28) d202_27 rfl rfl rfl ?_
        refine r_iload_n (pc' := 29) d202_28 rfl rfl rfl ?_
        refine r_call (pc' := 32) [vR (some 50), vI _] [] d202_29 rfl o202 st12_207_12 (rcv1 sh50 (pl hN rfl)) rfl (by decide) ⟨rfl, rfl⟩ (Nat.le_of_ble_eq_true rfl) rfl (s_isThrough hN hM (by omega) ?_)
        refine r_if_eqB 39 (pc' := 35) d202_32 rfl rfl (fun c32 => ?_) (fun c32 => ?_)
        · refine r_iconst (v := 0) (pc' := 40) d202_39 rfl (by decide) ?_
          refine r_goto 57 d202_40 rfl ?_
          exact r_iretI d202_57 rfl (kW j hj rfl w hw rfl (by rw [if_pos ((nI_eq (by omega) (by decide)).mp c24)]; exact b0 c32))
        · refine r_iconst (v := 1) (pc' := 36) d202_35 rfl (by decide) ?_
          refine r_goto 57 d202_36 rfl ?_
          exact r_iretI d202_57 rfl (kW j hj rfl w hw rfl (by rw [if_pos ((nI_eq (by omega) (by decide)).mp c24)]; exact b1 c32))
    · refine r_ldc (pc' := 20) d202_18 rfl o202 kc12_67 ?_
      exact r_iretI d202_20 rfl (kB (by first | exact Or.inl c5 | exact Or.inr c15))
theorem M_eater {d : Nat} {h : Hp} {Q : Option AV → Hp → Prop} {m L e : Nat} {t what : Int32} (hN : hn h = 65) (hM : RM h) (hc : Cnt (hi h 51) m L e) (kB : (¬ inR t e ∨ ¬ (0 ≤ what ∧ what ≤ 2)) → Q (some (vI (-1000001))) h)
    (kW : ∀ j : Nat, j < e → t = nI j → (0 ≤ what ∧ what ≤ 2) → ∀ {v : Int32}, (if what = 0 then hi h 51 (11 + j) else if what = 1 then hi h 51 (15 + j) else hi h 51 (81 + j)) = v → Q (some (vI v)) h) : Spec (d + 1) 203 [vR (some 50), vI t, vI what] h Q := by
  obtain ⟨hc1, hc2, hc3, hc4, hc5, hc6⟩ := id hc
  refine spec_intro (by decide +kernel) rfl (Nat.le_of_ble_eq_true rfl) ?_
  refine r_iload_n (pc' := 1) d203_0 rfl rfl rfl ?_
  refine r_iconst (v := 0) (pc' := 2) d203_1 rfl (by decide) ?_
  refine r_aload_n (pc' := 3) d203_2 rfl rfl rfl ?_
  refine r_getS (pc' := 6) d203_3 rfl o203 sf12_7_12 sh50 (pl hN rfl) (rfm0 hM) ?_
  refine r_iconst (v := 2) (pc' := 7) d203_6 rfl (by decide) ?_
  refine r_ialdN (pc' := 8) (j := 2) d203_7 rfl sh51 (pl hN rfl) rfl (by omega) (by decide) ?_
  refine r_iconst (v := 1) (pc' := 9) d203_8 rfl (by decide) ?_
  refine r_isub (pc' := 10) d203_9 rfl ?_
  refine r_call (pc' := 13) [vI _, vI _, vI _] [] d203_10 rfl o203 st12_59 rcv0 rfl (by decide) ⟨rfl, rfl⟩ (Nat.le_of_ble_eq_true rfl) rfl (s_in ?_)
  refine r_if_eqB 25 (pc' := 16) d203_13 rfl rfl (fun c13 => ?_) (fun c13 => ?_)
  · refine r_ldc (pc' := 27) d203_25 rfl o203 kc12_67 ?_
    exact r_iretI d203_27 rfl (kB (by first | exact Or.inl (by rw [hc5] at c13; exact c13) | exact Or.inr c22))
  · refine r_iload_n (pc' := 17) d203_16 rfl rfl rfl ?_
    refine r_iconst (v := 0) (pc' := 18) d203_17 rfl (by decide) ?_
    refine r_iconst (v := 2) (pc' := 19) d203_18 rfl (by decide) ?_
    refine r_call (pc' := 22) [vI _, vI _, vI _] [] d203_19 rfl o203 st12_59 rcv0 rfl (by decide) ⟨rfl, rfl⟩ (Nat.le_of_ble_eq_true rfl) rfl (s_in ?_)
    refine r_if_neB 28 (pc' := 25) d203_22 rfl rfl (fun c22 => ?_) (fun c22 => ?_)
    · obtain ⟨j, hj, rfl⟩ := ix_lt c13.1 (by rw [← hc5]; exact c13.2) (by omega)
      refine r_iload_n (pc' := 29) d203_28 rfl rfl rfl ?_
      refine r_if_ne 44 (pc' := 32) d203_29 rfl rfl (fun c29 => ?_) (fun c29 => ?_)
      · refine r_iload_n (pc' := 45) d203_44 rfl rfl rfl ?_
        refine r_iconst (v := 1) (pc' := 46) d203_45 rfl (by decide) ?_
        refine r_icmp_ne 61 (pc' := 49) d203_46 rfl rfl (fun c46 => ?_) (fun c46 => ?_)
        · refine r_aload_n (pc' := 62) d203_61 rfl rfl rfl ?_
          refine r_getS (pc' := 65) d203_62 rfl o203 sf12_7_12 sh50 (pl hN rfl) (rfm0 hM) ?_
          refine r_bipush (v := 81) (pc' := 67) d203_65 rfl (by decide) ?_
          refine r_iload_n (pc' := 68) d203_67 rfl rfl rfl ?_
          refine r_iadd (pc' := 69) d203_68 rfl ?_
          refine r_ialdN (pc' := 70) (j := (81 + j)) d203_69 rfl sh51 (pl hN rfl) (by simp only [lit, nI_add, pk_mul]) (by omega) (by decide) ?_
          exact r_iretI d203_70 rfl (kW j hj rfl c22 (by rw [if_neg c29]; exact if_neg c46))
        · refine r_aload_n (pc' := 50) d203_49 rfl rfl rfl ?_
          refine r_getS (pc' := 53) d203_50 rfl o203 sf12_7_12 sh50 (pl hN rfl) (rfm0 hM) ?_
          refine r_bipush (v := 15) (pc' := 55) d203_53 rfl (by decide) ?_
          refine r_iload_n (pc' := 56) d203_55 rfl rfl rfl ?_
          refine r_iadd (pc' := 57) d203_56 rfl ?_
          refine r_ialdN (pc' := 58) (j := (15 + j)) d203_57 rfl sh51 (pl hN rfl) (by simp only [lit, nI_add, pk_mul]) (by omega) (by decide) ?_
          refine r_goto 70 d203_58 rfl ?_
          exact r_iretI d203_70 rfl (kW j hj rfl c22 (by rw [if_neg c29]; exact if_pos c46))
      · refine r_aload_n (pc' := 33) d203_32 rfl rfl rfl ?_
        refine r_getS (pc' := 36) d203_33 rfl o203 sf12_7_12 sh50 (pl hN rfl) (rfm0 hM) ?_
        refine r_bipush (v := 11) (pc' := 38) d203_36 rfl (by decide) ?_
        refine r_iload_n (pc' := 39) d203_38 rfl rfl rfl ?_
        refine r_iadd (pc' := 40) d203_39 rfl ?_
        refine r_ialdN (pc' := 41) (j := (11 + j)) d203_40 rfl sh51 (pl hN rfl) (by simp only [lit, nI_add, pk_mul]) (by omega) (by decide) ?_
        refine r_goto 70 d203_41 rfl ?_
        exact r_iretI d203_70 rfl (kW j hj rfl c22 (if_pos c29))
    · refine r_ldc (pc' := 27) d203_25 rfl o203 kc12_67 ?_
      exact r_iretI d203_27 rfl (kB (by first | exact Or.inl (by rw [hc5] at c13; exact c13) | exact Or.inr c22))
theorem M_ember {d : Nat} {h : Hp} {Q : Option AV → Hp → Prop} {m L e : Nat} {t what : Int32} (hN : hn h = 65) (hM : RM h) (hc : Cnt (hi h 51) m L e) (kB : (¬ inR t L ∨ ¬ (0 ≤ what ∧ what ≤ 2)) → Q (some (vI (-1000001))) h)
    (kW : ∀ j : Nat, j < L → t = nI j → ∀ w : Nat, w ≤ 2 → what = nI w → Q (some (vI (hi h 51 (21 + 8 * w + j)))) h) : Spec (d + 1) 204 [vR (some 50), vI t, vI what] h Q := by
  obtain ⟨hc1, hc2, hc3, hc4, hc5, hc6⟩ := id hc
  refine spec_intro (by decide +kernel) rfl (Nat.le_of_ble_eq_true rfl) ?_
  refine r_iload_n (pc' := 1) d204_0 rfl rfl rfl ?_
  refine r_iconst (v := 0) (pc' := 2) d204_1 rfl (by decide) ?_
  refine r_aload_n (pc' := 3) d204_2 rfl rfl rfl ?_
  refine r_getS (pc' := 6) d204_3 rfl o204 sf12_7_12 sh50 (pl hN rfl) (rfm0 hM) ?_
  refine r_bipush (v := 20) (pc' := 8) d204_6 rfl (by decide) ?_
  refine r_ialdN (pc' := 9) (j := 20) d204_8 rfl sh51 (pl hN rfl) rfl (by omega) (by decide) ?_
  refine r_iconst (v := 1) (pc' := 10) d204_9 rfl (by decide) ?_
  refine r_isub (pc' := 11) d204_10 rfl ?_
  refine r_call (pc' := 14) [vI _, vI _, vI _] [] d204_11 rfl o204 st12_59 rcv0 rfl (by decide) ⟨rfl, rfl⟩ (Nat.le_of_ble_eq_true rfl) rfl (s_in ?_)
  refine r_if_eqB 26 (pc' := 17) d204_14 rfl rfl (fun c14 => ?_) (fun c14 => ?_)
  · refine r_ldc (pc' := 28) d204_26 rfl o204 kc12_67 ?_
    exact r_iretI d204_28 rfl (kB (by first | exact Or.inl (by rw [hc3] at c14; exact c14) | exact Or.inr c23))
  · refine r_iload_n (pc' := 18) d204_17 rfl rfl rfl ?_
    refine r_iconst (v := 0) (pc' := 19) d204_18 rfl (by decide) ?_
    refine r_iconst (v := 2) (pc' := 20) d204_19 rfl (by decide) ?_
    refine r_call (pc' := 23) [vI _, vI _, vI _] [] d204_20 rfl o204 st12_59 rcv0 rfl (by decide) ⟨rfl, rfl⟩ (Nat.le_of_ble_eq_true rfl) rfl (s_in ?_)
    refine r_if_neB 29 (pc' := 26) d204_23 rfl rfl (fun c23 => ?_) (fun c23 => ?_)
    · obtain ⟨j, hj, rfl⟩ := ix_lt c14.1 (by rw [← hc3]; exact c14.2) (by omega)
      obtain ⟨w, hw, rfl⟩ := nat2 (n := 2) c23 (by decide)
      refine r_aload_n (pc' := 30) d204_29 rfl rfl rfl ?_
      refine r_getS (pc' := 33) d204_30 rfl o204 sf12_7_12 sh50 (pl hN rfl) (rfm0 hM) ?_
      refine r_bipush (v := 21) (pc' := 35) d204_33 rfl (by decide) ?_
      refine r_bipush (v := 8) (pc' := 37) d204_35 rfl (by decide) ?_
      refine r_iload_n (pc' := 38) d204_37 rfl rfl rfl ?_
      refine r_imul (pc' := 39) d204_38 rfl ?_
      refine r_iadd (pc' := 40) d204_39 rfl ?_
      refine r_iload_n (pc' := 41) d204_40 rfl rfl rfl ?_
      refine r_iadd (pc' := 42) d204_41 rfl ?_
      refine r_ialdN (pc' := 43) (j := ((21 + (8 * w)) + j)) d204_42 rfl sh51 (pl hN rfl) (by simp only [lit, nI_add, pk_mul]) (by omega) (by decide) ?_
      exact r_iretI d204_43 rfl (kW j hj rfl w hw rfl)
    · refine r_ldc (pc' := 28) d204_26 rfl o204 kc12_67 ?_
      exact r_iretI d204_28 rfl (kB (by first | exact Or.inl (by rw [hc3] at c14; exact c14) | exact Or.inr c23))
def fireS (s : Nat → Int32) : Nat → Int32
  | 0 => 0
  | k + 1 => fireS s k + s (29 + k)
def servS (s : Nat → Int32) : Nat → Int32
  | 0 => 0
  | k + 1 => servS s k + (if s (81 + k) = -1000000 then 0 else 1)
theorem s_fireNow {d : Nat} {h : Hp} {Q : Option AV → Hp → Prop} {m L e : Nat} (hN : hn h = 65) (hM : RM h) (hc : Cnt (hi h 51) m L e) (kk : Q (some (vI (fireS (hi h 51) L))) h) : Spec d 228 [vR (some 50)] h Q := by
  obtain ⟨hc1, hc2, hc3, hc4, hc5, hc6⟩ := id hc
  refine spec_intro (by decide +kernel) rfl (Nat.le_of_ble_eq_true rfl) ?_
  refine r_iconst (v := 0) (pc' := 1) d228_0 rfl (by decide) ?_
  refine r_istore_n (pc' := 2) (ls' := [(1, vI _), (0, vR (some 50))]) d228_1 rfl rfl (by decide) rfl ?_
  refine r_iconst (v := 0) (pc' := 3) d228_2 rfl (by decide) ?_
  refine r_istore_n (pc' := 4) (ls' := [(2, vI _), (1, vI _), (0, vR (some 50))]) d228_3 rfl rfl (by decide) rfl ?_
  refine wp_pick (ls' := [(0, vR (some 50)), (1, vI _), (2, vI _)]) [2, 1, 0] rfl ?_
  have loop : ∀ (r k : Nat), k + r = L → wp d 228 Q 0 0 4 [(0, vR (some 50)), (1, vI (fireS (hi h 51) k)), (2, vI (nI k))] [] h := by
    intro r
    induction r with
    | zero =>
      intro k hk
      obtain rfl : k = L := by omega
      refine r_iload_n (pc' := 5) d228_4 rfl rfl rfl ?_
      refine r_aload_n (pc' := 6) d228_5 rfl rfl rfl ?_
      refine r_getS (pc' := 9) d228_6 rfl o228 sf12_7_12 sh50 (pl hN rfl) (rfm0 hM) ?_
      refine r_bipush (v := 20) (pc' := 11) d228_9 rfl (by decide) ?_
      refine r_ialdN (pc' := 12) (j := 20) d228_11 rfl sh51 (pl hN rfl) rfl (by omega) (by decide) ?_
      refine r_icmp_ge 33 (pc' := 15) d228_12 rfl rfl (fun c12 => ?_) (fun c12 => absurd (by rw [show hi h 51 20 = nI k from hc3]; exact nI_le (Nat.le_refl _) (by omega)) c12)
      refine r_iload_n (pc' := 34) d228_33 rfl rfl rfl ?_
      exact r_iretI d228_34 rfl kk
    | succ r ih =>
      intro k hk
      refine r_iload_n (pc' := 5) d228_4 rfl rfl rfl ?_
      refine r_aload_n (pc' := 6) d228_5 rfl rfl rfl ?_
      refine r_getS (pc' := 9) d228_6 rfl o228 sf12_7_12 sh50 (pl hN rfl) (rfm0 hM) ?_
      refine r_bipush (v := 20) (pc' := 11) d228_9 rfl (by decide) ?_
      refine r_ialdN (pc' := 12) (j := 20) d228_11 rfl sh51 (pl hN rfl) rfl (by omega) (by decide) ?_
      refine r_icmp_ge 33 (pc' := 15) d228_12 rfl rfl (fun c12 => absurd c12 (by rw [show hi h 51 20 = nI L from hc3]; exact nI_ge (by omega) (by omega))) (fun c12 => ?_)
      refine r_iload_n (pc' := 16) d228_15 rfl rfl rfl ?_
      refine r_aload_n (pc' := 17) d228_16 rfl rfl rfl ?_
      refine r_getS (pc' := 20) d228_17 rfl o228 sf12_7_12 sh50 (pl hN rfl) (rfm0 hM) ?_
      refine r_bipush (v := 29) (pc' := 22) d228_20 rfl (by decide) ?_
      refine r_iload_n (pc' := 23) d228_22 rfl rfl rfl ?_
      refine r_iadd (pc' := 24) d228_23 rfl ?_
      refine r_ialdN (pc' := 25) (j := (29 + k)) d228_24 rfl sh51 (pl hN rfl) (by simp only [lit, nI_add, pk_mul]) (by omega) (by decide) ?_
      refine r_iadd (pc' := 26) d228_25 rfl ?_
      refine r_istore_n (pc' := 27) (ls' := [(1, vI _), (0, vR (some 50)), (2, vI _)]) d228_26 rfl rfl (by decide) rfl ?_
      refine r_iinc (v := _ + 1) (pc' := 30) (ls' := [(2, vI _), (1, vI _), (0, vR (some 50))]) d228_27 rfl rfl rfl (by decide) rfl ?_
      refine r_goto 4 d228_30 rfl ?_
      refine wp_pick (ls' := [(0, vR (some 50)), (1, vI _), (2, vI _)]) [2, 1, 0] rfl ?_
      rw [nI_1]
      have w := ih (k + 1) (by omega)
      rw [fireS] at w
      exact w
  exact loop L 0 (by omega)
theorem s_servedNow {d : Nat} {h : Hp} {Q : Option AV → Hp → Prop} {m L e : Nat} (hN : hn h = 65) (hM : RM h) (hc : Cnt (hi h 51) m L e) (kk : Q (some (vI (servS (hi h 51) e))) h) : Spec d 199 [vR (some 50)] h Q := by
  obtain ⟨hc1, hc2, hc3, hc4, hc5, hc6⟩ := id hc
  refine spec_intro (by decide +kernel) rfl (Nat.le_of_ble_eq_true rfl) ?_
  refine r_iconst (v := 0) (pc' := 1) d199_0 rfl (by decide) ?_
  refine r_istore_n (pc' := 2) (ls' := [(1, vI _), (0, vR (some 50))]) d199_1 rfl rfl (by decide) rfl ?_
  refine r_iconst (v := 0) (pc' := 3) d199_2 rfl (by decide) ?_
  refine r_istore_n (pc' := 4) (ls' := [(2, vI _), (1, vI _), (0, vR (some 50))]) d199_3 rfl rfl (by decide) rfl ?_
  refine wp_pick (ls' := [(0, vR (some 50)), (1, vI _), (2, vI _)]) [2, 1, 0] rfl ?_
  have loop : ∀ (r k : Nat), k + r = e → wp d 199 Q 0 0 4 [(0, vR (some 50)), (1, vI (servS (hi h 51) k)), (2, vI (nI k))] [] h := by
    intro r
    induction r with
    | zero =>
      intro k hk
      obtain rfl : k = e := by omega
      refine r_iload_n (pc' := 5) d199_4 rfl rfl rfl ?_
      refine r_aload_n (pc' := 6) d199_5 rfl rfl rfl ?_
      refine r_getS (pc' := 9) d199_6 rfl o199 sf12_7_12 sh50 (pl hN rfl) (rfm0 hM) ?_
      refine r_iconst (v := 2) (pc' := 10) d199_9 rfl (by decide) ?_
      refine r_ialdN (pc' := 11) (j := 2) d199_10 rfl sh51 (pl hN rfl) rfl (by omega) (by decide) ?_
      refine r_icmp_ge 42 (pc' := 14) d199_11 rfl rfl (fun c11 => ?_) (fun c11 => absurd (by rw [show hi h 51 2 = nI k from hc5]; exact nI_le (Nat.le_refl _) (by omega)) c11)
      refine r_iload_n (pc' := 43) d199_42 rfl rfl rfl ?_
      exact r_iretI d199_43 rfl kk
    | succ r ih =>
      intro k hk
      refine r_iload_n (pc' := 5) d199_4 rfl rfl rfl ?_
      refine r_aload_n (pc' := 6) d199_5 rfl rfl rfl ?_
      refine r_getS (pc' := 9) d199_6 rfl o199 sf12_7_12 sh50 (pl hN rfl) (rfm0 hM) ?_
      refine r_iconst (v := 2) (pc' := 10) d199_9 rfl (by decide) ?_
      refine r_ialdN (pc' := 11) (j := 2) d199_10 rfl sh51 (pl hN rfl) rfl (by omega) (by decide) ?_
      refine r_icmp_ge 42 (pc' := 14) d199_11 rfl rfl (fun c11 => absurd c11 (by rw [show hi h 51 2 = nI e from hc5]; exact nI_ge (by omega) (by omega))) (fun c11 => ?_)
      refine r_iload_n (pc' := 15) d199_14 rfl rfl rfl ?_
      refine r_aload_n (pc' := 16) d199_15 rfl rfl rfl ?_
      refine r_getS (pc' := 19) d199_16 rfl o199 sf12_7_12 sh50 (pl hN rfl) (rfm0 hM) ?_
      refine r_bipush (v := 81) (pc' := 21) d199_19 rfl (by decide) ?_
      refine r_iload_n (pc' := 22) d199_21 rfl rfl rfl ?_
      refine r_iadd (pc' := 23) d199_22 rfl ?_
      refine r_ialdN (pc' := 24) (j := (81 + k)) d199_23 rfl sh51 (pl hN rfl) (by simp only [lit, nI_add, pk_mul]) (by omega) (by decide) ?_
      refine r_ldc (pc' := 26) d199_24 rfl o199 kc12_53 ?_
      refine r_icmp_ne 33 (pc' := 29) d199_26 rfl rfl (fun c26 => ?_) (fun c26 => ?_)
      · refine r_iconst (v := 1) (pc' := 34) d199_33 rfl (by decide) ?_
        refine r_iadd (pc' := 35) d199_34 rfl ?_
        refine r_istore_n (pc' := 36) (ls' := [(1, vI _), (0, vR (some 50)), (2, vI _)]) d199_35 rfl rfl (by decide) rfl ?_
        refine r_iinc (v := _ + 1) (pc' := 39) (ls' := [(2, vI _), (1, vI _), (0, vR (some 50))]) d199_36 rfl rfl rfl (by decide) rfl ?_
        refine r_goto 4 d199_39 rfl ?_
        refine wp_pick (ls' := [(0, vR (some 50)), (1, vI _), (2, vI _)]) [2, 1, 0] rfl ?_
        rw [nI_1]
        have w := ih (k + 1) (by omega)
        rw [servS, if_neg c26] at w
        exact w
      · refine r_iconst (v := 0) (pc' := 30) d199_29 rfl (by decide) ?_
        refine r_goto 34 d199_30 rfl ?_
        refine r_iadd (pc' := 35) d199_34 rfl ?_
        refine r_istore_n (pc' := 36) (ls' := [(1, vI _), (0, vR (some 50)), (2, vI _)]) d199_35 rfl rfl (by decide) rfl ?_
        refine r_iinc (v := _ + 1) (pc' := 39) (ls' := [(2, vI _), (1, vI _), (0, vR (some 50))]) d199_36 rfl rfl rfl (by decide) rfl ?_
        refine r_goto 4 d199_39 rfl ?_
        refine wp_pick (ls' := [(0, vR (some 50)), (1, vI _), (2, vI _)]) [2, 1, 0] rfl ?_
        rw [nI_1]
        have w := ih (k + 1) (by omega)
        rw [servS, if_pos c26] at w
        exact w
  exact loop e 0 (by omega)
def addI (s : Nat → Int32) (L : Nat) (cell fire : Int32) : Nat → Int32 := upd (upd (upd (upd s (21 + L) cell) (29 + L) fire) (37 + L) 2) 20 (nI (L + 1))
theorem s_adds {d : Nat} {h : Hp} {Q : Option AV → Hp → Prop} {m L e : Nat} {cell fire : Int32} (hN : hn h = 65) (hM : RM h) (hc : Cnt (hi h 51) m L e) (hL8 : L < 8) (kk : Q none (setw h 51 (addI (hi h 51) L cell fire))) : Spec d 194 [vR (some 50), vI cell, vI fire] h Q := by
  obtain ⟨hc1, hc2, hc3, hc4, hc5, hc6⟩ := id hc
  refine spec_intro (by decide +kernel) rfl (Nat.le_of_ble_eq_true rfl) ?_
  refine r_aload_n (pc' := 1) d194_0 rfl rfl rfl ?_
  refine r_getS (pc' := 4) d194_1 rfl o194 sf12_7_12 sh50 (pl hN rfl) (rfm0 hM) ?_
  refine r_bipush (v := 20) (pc' := 6) d194_4 rfl (by decide) ?_
  refine r_ialdN (pc' := 7) (j := 20) d194_6 rfl sh51 (pl hN rfl) rfl (by omega) (by decide) ?_
  refine wp_v hc3 ?_
  refine r_istore_n (pc' := 8) (ls' := [(3, vI _), (0, vR (some 50)), (1, vI _), (2, vI _)]) d194_7 rfl rfl (by decide) rfl ?_
  refine r_aload_n (pc' := 9) d194_8 rfl rfl rfl ?_
  refine r_getS (pc' := 12) d194_9 rfl o194 sf12_7_12 sh50 (pl hN rfl) (rfm0 hM) ?_
  refine r_bipush (v := 21) (pc' := 14) d194_12 rfl (by decide) ?_
  refine r_iload_n (pc' := 15) d194_14 rfl rfl rfl ?_
  refine r_iadd (pc' := 16) d194_15 rfl ?_
  refine r_iload_n (pc' := 17) d194_16 rfl rfl rfl ?_
  refine r_iastN (pc' := 18) (j := (21 + L)) d194_17 rfl sh51 (pl hN rfl) (by simp only [lit, nI_add, pk_mul]) (by omega) (by decide) ?_
  refine r_aload_n (pc' := 19) d194_18 rfl rfl rfl ?_
  refine r_getS (pc' := 22) d194_19 rfl o194 sf12_7_12 sh50 (pl hN rfl) (rfm0 hM) ?_
  refine r_bipush (v := 29) (pc' := 24) d194_22 rfl (by decide) ?_
  refine r_iload_n (pc' := 25) d194_24 rfl rfl rfl ?_
  refine r_iadd (pc' := 26) d194_25 rfl ?_
  refine r_iload_n (pc' := 27) d194_26 rfl rfl rfl ?_
  refine r_iastN (pc' := 28) (j := (29 + L)) d194_27 rfl sh51 (pl hN rfl) (by simp only [lit, nI_add, pk_mul]) (by omega) (by decide) ?_
  refine r_aload_n (pc' := 29) d194_28 rfl rfl rfl ?_
  refine r_getS (pc' := 32) d194_29 rfl o194 sf12_7_12 sh50 (pl hN rfl) (rfm0 hM) ?_
  refine r_bipush (v := 37) (pc' := 34) d194_32 rfl (by decide) ?_
  refine r_iload_n (pc' := 35) d194_34 rfl rfl rfl ?_
  refine r_iadd (pc' := 36) d194_35 rfl ?_
  refine r_iconst (v := 2) (pc' := 37) d194_36 rfl (by decide) ?_
  refine r_iastN (pc' := 38) (j := (37 + L)) d194_37 rfl sh51 (pl hN rfl) (by simp only [lit, nI_add, pk_mul]) (by omega) (by decide) ?_
  refine r_aload_n (pc' := 39) d194_38 rfl rfl rfl ?_
  refine r_getS (pc' := 42) d194_39 rfl o194 sf12_7_12 sh50 (pl hN rfl) (rfm0 hM) ?_
  refine r_bipush (v := 20) (pc' := 44) d194_42 rfl (by decide) ?_
  refine r_dup2 (pc' := 45) d194_44 rfl ?_
  refine r_ialdN (pc' := 46) (j := 20) d194_45 rfl sh51 (pl hN rfl) rfl (by omega) (by decide) ?_
  refine r_iconst (v := 1) (pc' := 47) d194_46 rfl (by decide) ?_
  refine r_iadd (pc' := 48) d194_47 rfl ?_
  refine r_iastN (pc' := 49) (j := 20) d194_48 rfl sh51 (pl hN rfl) rfl (by omega) (by decide) ?_
  exact r_ret d194_49 rfl (qh (by rw [seti_w, seti_w, seti_w, seti_w]; simp only [setw_w, hi_setw_row]; rw [addI, ← nI_1, ← hc3]; rw [upd_ne _ _ _ (by omega), upd_ne _ _ _ (by omega), upd_ne _ _ _ (by omega)]) kk)
