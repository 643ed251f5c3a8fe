/-! the reference: its references, small methods (printed by wip/whole/m30.py) -/
theorem rcv0 {av : List AV} {h : Hp} : rcv none av h := fun _ w => by cases w
theorem rcv1 {o ci : Nat} {t : List AV} {h : Hp} (hsh : SH o = (0, ci)) (ho : o < hn h) : rcv (some ci) (vR (some o) :: t) h := fun _ w => by cases w; exact ⟨o, t, rfl, hsh, ho⟩
def RML : List (Nat × Nat) := [(0, 51), (1, 52), (2, 53), (3, 54), (5, 55), (6, 56), (7, 57), (9, 58), (17, 59), (18, 60), (19, 61), (20, 62), (21, 63), (22, 64)]
def RM (h : Hp) : Prop := ∀ q ∈ RML, hr h 50 q.1 = some q.2
theorem rfm0 {h : Hp} (hM : RM h) : hr h 50 0 = some 51 := hM (0, 51) (by decide)
theorem rfm1 {h : Hp} (hM : RM h) : hr h 50 1 = some 52 := hM (1, 52) (by decide)
theorem rfm2 {h : Hp} (hM : RM h) : hr h 50 2 = some 53 := hM (2, 53) (by decide)
theorem rfm3 {h : Hp} (hM : RM h) : hr h 50 3 = some 54 := hM (3, 54) (by decide)
theorem rfm5 {h : Hp} (hM : RM h) : hr h 50 5 = some 55 := hM (5, 55) (by decide)
theorem rfm6 {h : Hp} (hM : RM h) : hr h 50 6 = some 56 := hM (6, 56) (by decide)
theorem rfm7 {h : Hp} (hM : RM h) : hr h 50 7 = some 57 := hM (7, 57) (by decide)
theorem rfm9 {h : Hp} (hM : RM h) : hr h 50 9 = some 58 := hM (9, 58) (by decide)
theorem rfm17 {h : Hp} (hM : RM h) : hr h 50 17 = some 59 := hM (17, 59) (by decide)
theorem rfm18 {h : Hp} (hM : RM h) : hr h 50 18 = some 60 := hM (18, 60) (by decide)
theorem rfm19 {h : Hp} (hM : RM h) : hr h 50 19 = some 61 := hM (19, 61) (by decide)
theorem rfm20 {h : Hp} (hM : RM h) : hr h 50 20 = some 62 := hM (20, 62) (by decide)
theorem rfm21 {h : Hp} (hM : RM h) : hr h 50 21 = some 63 := hM (21, 63) (by decide)
theorem rfm22 {h : Hp} (hM : RM h) : hr h 50 22 = some 64 := hM (22, 64) (by decide)
theorem s_in {d : Nat} {h : Hp} {Q : Option AV → Hp → Prop} {v a b : Int32} (k : Q (some (vI (bI (a ≤ v ∧ v ≤ b)))) h) : Spec d 146 [vI v, vI a, vI b] h Q := by
  refine spec_intro (by decide +kernel) rfl (Nat.le_of_ble_eq_true rfl) ?_
  refine r_iload_n (pc' := 1) d146_0 rfl rfl rfl ?_
  refine r_iload_n (pc' := 2) d146_1 rfl rfl rfl ?_
  refine r_icmp_lt 14 (pc' := 5) d146_2 rfl rfl (fun c2 => ?_) (fun c2 => ?_)
  · refine r_iconst (v := 0) (pc' := 15) d146_14 rfl (by decide) ?_
    exact r_iretZ0 d146_15 rfl (qv (b0 (by simp only [Int32.le_iff_toInt_le, Int32.lt_iff_toInt_lt] at *; omega)) k)
  · refine r_iload_n (pc' := 6) d146_5 rfl rfl rfl ?_
    refine r_iload_n (pc' := 7) d146_6 rfl rfl rfl ?_
    refine r_icmp_gt 14 (pc' := 10) d146_7 rfl rfl (fun c7 => ?_) (fun c7 => ?_)
    · refine r_iconst (v := 0) (pc' := 15) d146_14 rfl (by decide) ?_
      exact r_iretZ0 d146_15 rfl (qv (b0 (by simp only [Int32.le_iff_toInt_le, Int32.lt_iff_toInt_lt] at *; omega)) k)
    · refine r_iconst (v := 1) (pc' := 11) d146_10 rfl (by decide) ?_
      refine r_goto 15 d146_11 rfl ?_
      exact r_iretZ1 d146_15 rfl (qv (b1 (by simp only [Int32.le_iff_toInt_le, Int32.lt_iff_toInt_lt] at *; omega)) k)
theorem s_found {d : Nat} {h : Hp} {Q : Option AV → Hp → Prop} {f : Int32} (hN : hn h = 65) (k : Q (some (vI (-1000010 - f))) (seti h 50 8 f)) : Spec d 148 [vR (some 50), vI f] h Q := by
  refine spec_intro (by decide +kernel) rfl (Nat.le_of_ble_eq_true rfl) ?_
  refine r_aload_n (pc' := 1) d148_0 rfl rfl rfl ?_
  refine r_iload_n (pc' := 2) d148_1 rfl rfl rfl ?_
  refine r_putI (pc' := 5) d148_2 rfl o148 sp12_54_12 sh50 (fun w => absurd w (by decide)) (Or.inl rfl) (pl hN rfl) ?_
  refine r_ldc (pc' := 7) d148_5 rfl o148 kc12_58 ?_
  refine r_iload_n (pc' := 8) d148_7 rfl rfl rfl ?_
  refine r_isub (pc' := 9) d148_8 rfl ?_
  exact r_iretI d148_9 rfl k
theorem s_well {d : Nat} {h : Hp} {Q : Option AV → Hp → Prop} {v : Int32} (hN : hn h = 65) (k : Q (some (vI v)) (seti h 50 8 0)) : Spec d 149 [vR (some 50), vI v] h Q := by
  refine spec_intro (by decide +kernel) rfl (Nat.le_of_ble_eq_true rfl) ?_
  refine r_aload_n (pc' := 1) d149_0 rfl rfl rfl ?_
  refine r_iconst (v := 0) (pc' := 2) d149_1 rfl (by decide) ?_
  refine r_putI (pc' := 5) d149_2 rfl o149 sp12_54_12 sh50 (fun w => absurd w (by decide)) (Or.inl rfl) (pl hN rfl) ?_
  refine r_iload_n (pc' := 6) d149_5 rfl rfl rfl ?_
  exact r_iretI d149_6 rfl k
theorem s_isRow {d : Nat} {h : Hp} {Q : Option AV → Hp → Prop} {r : Int32} (k : Q (some (vI (bI (0 ≤ r ∧ r ≤ 7)))) h) : Spec (d + 1) 150 [vI r] h Q := by
  refine spec_intro (by decide +kernel) rfl (Nat.le_of_ble_eq_true rfl) ?_
  refine r_iload_n (pc' := 1) d150_0 rfl rfl rfl ?_
  refine r_iconst (v := 0) (pc' := 2) d150_1 rfl (by decide) ?_
  refine r_bipush (v := 7) (pc' := 4) d150_2 rfl (by decide) ?_
  refine r_call (pc' := 7) [vI _, vI _, vI _] [] d150_4 rfl o150 st12_59 rcv0 rfl (by decide) ⟨rfl, rfl⟩ (Nat.le_of_ble_eq_true rfl) rfl (s_in ?_)
  exact r_iretB d150_7 rfl k
