/-! the reference: heat, a minute (printed by wip/whole/m36.py) -/
def Cnt (s : Nat → Int32) (m L e : Nat) : Prop := s 1 = nI m ∧ m ≤ 6 ∧ s 20 = nI L ∧ L ≤ 8 ∧ s 2 = nI e ∧ e ≤ 4
def szI (v : Int32) : Int32 := if 0 ≤ v then v else -v
abbrev besI (a b : Int32) : Prop := szI (a / 4 - b / 4) + szI ((a - a / 4 * 4) - (b - b / 4 * 4)) = 1
abbrev isAI (sort kind : Int32) : Prop := kind = 0 ∨ sort = kind ∨ (kind = 1 ∧ 2 ≤ sort ∧ sort ≤ 3) ∨ (kind = 4 ∧ sort = 5)
def belowI (s : Nat → Int32) (t : Nat) : Int32 := if s (69 + t) = 0 then s (57 + t) else s (63 + t)
def aboveI (s : Nat → Int32) (t : Nat) : Int32 := if s (69 + t) = 0 then s (63 + t) else s (57 + t)
def fireN (s : Nat → Int32) (c : Nat) : Int32 := if s (37 + c) ≤ 0 then s (29 + c) else 0
def ctr (s : Nat → Int32) (cell : Int32) (c : Nat) : Int32 := if s (21 + c) = cell then fireN s c else if besI (s (21 + c)) cell then fireN s c / 2 else 0
def warm (s : Nat → Int32) (cell : Int32) : Nat → Int32
  | 0 => 0
  | k + 1 => warm s cell k + ctr s cell k
def fatL (s : Nat → Int32) (cell w : Int32) : Nat → Int32
  | 0 => 0
  | k + 1 => if 0 < w ∧ s (45 + k) = cell ∧ isAI (s (5 + k)) 1 ∧ 10 ≤ belowI s k then 3 else fatL s cell w k
def windI (s : Nat → Int32) (cell : Int32) : Int32 := if cell - cell / 4 * 4 = 0 then s 4 else 0
def heatI (s : Nat → Int32) (m L : Nat) (cell : Int32) : Int32 := warm s cell L + fatL s cell (warm s cell L) m + windI s cell
def thickI (sort : Int32) : Int32 := if sort = 1 then 8 else if sort = 2 then 16 else if sort = 3 then 4 else if sort = 4 then 6 else 10
def needI (sort : Int32) : Int32 := if sort = 1 then 40 else if sort = 2 then 80 else if sort = 3 then 20 else if sort = 4 then 15 else 50
def limitI (sort : Int32) : Int32 := if sort = 1 then 90 else if sort = 2 then 120 else if sort = 3 then 45 else if sort = 4 then 70 else 100
def leastI (v : Int32) : Int32 := if 0 ≤ v then v else 0
abbrev onI (s : Nat → Int32) (t : Nat) : Prop := 0 ≤ s (45 + t) ∧ s (45 + t) ≤ 11
abbrev goneI (s : Nat → Int32) (t : Nat) : Prop := s (45 + t) = -1000000
theorem thick_ne (sort : Int32) : ¬ thickI sort = 0 := by
  unfold thickI
  repeat' split
  all_goals decide
theorem s_isYard {d : Nat} {h : Hp} {Q : Option AV → Hp → Prop} (hN : hn h = 65) (hM : RM h) (k : Q (some (vI (bI (hi h 51 0 = 1)))) h) : Spec d 173 [vR (some 50)] h Q := by
  refine spec_intro (by decide +kernel) rfl (Nat.le_of_ble_eq_true rfl) ?_
  refine r_aload_n (pc' := 1) d173_0 rfl rfl rfl ?_
  refine r_getS (pc' := 4) d173_1 rfl o173 sf12_7_12 sh50 (pl hN rfl) (rfm0 hM) ?_
  refine r_iconst (v := 0) (pc' := 5) d173_4 rfl (by decide) ?_
  refine r_ialdN (pc' := 6) (j := 0) d173_5 rfl sh51 (pl hN rfl) rfl (by omega) (by decide) ?_
  refine r_iconst (v := 1) (pc' := 7) d173_6 rfl (by decide) ?_
  refine r_icmp_ne 14 (pc' := 10) d173_7 rfl rfl (fun c7 => ?_) (fun c7 => ?_)
  · refine r_iconst (v := 0) (pc' := 15) d173_14 rfl (by decide) ?_
    exact r_iretZ0 d173_15 rfl (qv (b0 c7) k)
  · refine r_iconst (v := 1) (pc' := 11) d173_10 rfl (by decide) ?_
    refine r_goto 15 d173_11 rfl ?_
    exact r_iretZ1 d173_15 rfl (qv (b1 c7) k)
theorem s_isThing {d : Nat} {h : Hp} {Q : Option AV → Hp → Prop} {t : Int32} (hN : hn h = 65) (hM : RM h) (k : Q (some (vI (bI (0 ≤ t ∧ t ≤ hi h 51 1 - 1)))) h) : Spec (d + 1) 174 [vR (some 50), vI t] h Q := by
  refine spec_intro (by decide +kernel) rfl (Nat.le_of_ble_eq_true rfl) ?_
  refine r_iload_n (pc' := 1) d174_0 rfl rfl rfl ?_
  refine r_iconst (v := 0) (pc' := 2) d174_1 rfl (by decide) ?_
  refine r_aload_n (pc' := 3) d174_2 rfl rfl rfl ?_
  refine r_getS (pc' := 6) d174_3 rfl o174 sf12_7_12 sh50 (pl hN rfl) (rfm0 hM) ?_
  refine r_iconst (v := 1) (pc' := 7) d174_6 rfl (by decide) ?_
  refine r_ialdN (pc' := 8) (j := 1) d174_7 rfl sh51 (pl hN rfl) rfl (by omega) (by decide) ?_
  refine r_iconst (v := 1) (pc' := 9) d174_8 rfl (by decide) ?_
  refine r_isub (pc' := 10) d174_9 rfl ?_
  refine r_call (pc' := 13) [vI _, vI _, vI _] [] d174_10 rfl o174 st12_59 rcv0 rfl (by decide) ⟨rfl, rfl⟩ (Nat.le_of_ble_eq_true rfl) rfl (s_in ?_)
  exact r_iretB d174_13 rfl k
theorem s_isOn {d : Nat} {h : Hp} {Q : Option AV → Hp → Prop} {t : Nat} (hN : hn h = 65) (hM : RM h) (ht : t < 6) (k : Q (some (vI (bI (onI (hi h 51) t)))) h) : Spec (d + 1) 175 [vR (some 50), vI (nI t)] h Q := by
  refine spec_intro (by decide +kernel) rfl (Nat.le_of_ble_eq_true rfl) ?_
  refine r_aload_n (pc' := 1) d175_0 rfl rfl rfl ?_
  refine r_getS (pc' := 4) d175_1 rfl o175 sf12_7_12 sh50 (pl hN rfl) (rfm0 hM) ?_
  refine r_bipush (v := 45) (pc' := 6) d175_4 rfl (by decide) ?_
  refine r_iload_n (pc' := 7) d175_6 rfl rfl rfl ?_
  refine r_iadd (pc' := 8) d175_7 rfl ?_
  refine r_ialdN (pc' := 9) (j := (45 + t)) d175_8 rfl sh51 (pl hN rfl) (by simp only [lit, nI_add, pk_mul]) (by omega) (by decide) ?_
  refine r_iconst (v := 0) (pc' := 10) d175_9 rfl (by decide) ?_
  refine r_bipush (v := 11) (pc' := 12) d175_10 rfl (by decide) ?_
  refine r_call (pc' := 15) [vI _, vI _, vI _] [] d175_12 rfl o175 st12_59 rcv0 rfl (by decide) ⟨rfl, rfl⟩ (Nat.le_of_ble_eq_true rfl) rfl (s_in ?_)
  exact r_iretB d175_15 rfl k
theorem s_isGone {d : Nat} {h : Hp} {Q : Option AV → Hp → Prop} {t : Nat} (hN : hn h = 65) (hM : RM h) (ht : t < 6) (k : Q (some (vI (bI (goneI (hi h 51) t)))) h) : Spec d 176 [vR (some 50), vI (nI t)] h Q := by
  refine spec_intro (by decide +kernel) rfl (Nat.le_of_ble_eq_true rfl) ?_
  refine r_aload_n (pc' := 1) d176_0 rfl rfl rfl ?_
  refine r_getS (pc' := 4) d176_1 rfl o176 sf12_7_12 sh50 (pl hN rfl) (rfm0 hM) ?_
  refine r_bipush (v := 45) (pc' := 6) d176_4 rfl (by decide) ?_
  refine r_iload_n (pc' := 7) d176_6 rfl rfl rfl ?_
  refine r_iadd (pc' := 8) d176_7 rfl ?_
  refine r_ialdN (pc' := 9) (j := (45 + t)) d176_8 rfl sh51 (pl hN rfl) (by simp only [lit, nI_add, pk_mul]) (by omega) (by decide) ?_
  refine r_ldc (pc' := 11) d176_9 rfl o176 kc12_53 ?_
  refine r_icmp_ne 18 (pc' := 14) d176_11 rfl rfl (fun c11 => ?_) (fun c11 => ?_)
  · refine r_iconst (v := 0) (pc' := 19) d176_18 rfl (by decide) ?_
    exact r_iretZ0 d176_19 rfl (qv (b0 c11) k)
  · refine r_iconst (v := 1) (pc' := 15) d176_14 rfl (by decide) ?_
    refine r_goto 19 d176_15 rfl ?_
    exact r_iretZ1 d176_19 rfl (qv (b1 c11) k)
theorem s_isA {d : Nat} {h : Hp} {Q : Option AV → Hp → Prop} {a b : Int32} (k : Q (some (vI (bI (isAI a b)))) h) : Spec (d + 1) 177 [vI a, vI b] h Q := by
  refine spec_intro (by decide +kernel) rfl (Nat.le_of_ble_eq_true rfl) ?_
  refine r_iload_n (pc' := 1) d177_0 rfl rfl rfl ?_
  refine r_if_eq 33 (pc' := 4) d177_1 rfl rfl (fun c1 => ?_) (fun c1 => ?_)
  · refine r_iconst (v := 1) (pc' := 34) d177_33 rfl (by decide) ?_
    refine r_goto 38 d177_34 rfl ?_
    exact r_iretZ1 d177_38 rfl (qv (b1 (by first | exact Or.inl c1 | exact Or.inr (Or.inl c6) | exact Or.inr (Or.inr (Or.inl ⟨c11, c20⟩)) | exact Or.inr (Or.inr (Or.inr ⟨c25, c30⟩)))) k)
  · refine r_iload_n (pc' := 5) d177_4 rfl rfl rfl ?_
    refine r_iload_n (pc' := 6) d177_5 rfl rfl rfl ?_
    refine r_icmp_eq 33 (pc' := 9) d177_6 rfl rfl (fun c6 => ?_) (fun c6 => ?_)
    · refine r_iconst (v := 1) (pc' := 34) d177_33 rfl (by decide) ?_
      refine r_goto 38 d177_34 rfl ?_
      exact r_iretZ1 d177_38 rfl (qv (b1 (by first | exact Or.inl c1 | exact Or.inr (Or.inl c6) | exact Or.inr (Or.inr (Or.inl ⟨c11, c20⟩)) | exact Or.inr (Or.inr (Or.inr ⟨c25, c30⟩)))) k)
    · refine r_iload_n (pc' := 10) d177_9 rfl rfl rfl ?_
      refine r_iconst (v := 1) (pc' := 11) d177_10 rfl (by decide) ?_
      refine r_icmp_ne 23 (pc' := 14) d177_11 rfl rfl (fun c11 => ?_) (fun c11 => ?_)
      · refine r_iload_n (pc' := 24) d177_23 rfl rfl rfl ?_
        refine r_iconst (v := 4) (pc' := 25) d177_24 rfl (by decide) ?_
        refine r_icmp_ne 37 (pc' := 28) d177_25 rfl rfl (fun c25 => ?_) (fun c25 => ?_)
        · refine r_iconst (v := 0) (pc' := 38) d177_37 rfl (by decide) ?_
          exact r_iretZ0 d177_38 rfl (qv (b0 (by rintro (w | w | w | w) <;> first | exact c1 w | exact c6 w | exact c11 w.1 | exact c20 w.2 | exact c25 w.1 | exact c30 w.2)) k)
        · refine r_iload_n (pc' := 29) d177_28 rfl rfl rfl ?_
          refine r_iconst (v := 5) (pc' := 30) d177_29 rfl (by decide) ?_
          refine r_icmp_ne 37 (pc' := 33) d177_30 rfl rfl (fun c30 => ?_) (fun c30 => ?_)
          · refine r_iconst (v := 0) (pc' := 38) d177_37 rfl (by decide) ?_
            exact r_iretZ0 d177_38 rfl (qv (b0 (by rintro (w | w | w | w) <;> first | exact c1 w | exact c6 w | exact c11 w.1 | exact c20 w.2 | exact c25 w.1 | exact c30 w.2)) k)
          · refine r_iconst (v := 1) (pc' := 34) d177_33 rfl (by decide) ?_
            refine r_goto 38 d177_34 rfl ?_
            exact r_iretZ1 d177_38 rfl (qv (b1 (by first | exact Or.inl c1 | exact Or.inr (Or.inl c6) | exact Or.inr (Or.inr (Or.inl ⟨c11, c20⟩)) | exact Or.inr (Or.inr (Or.inr ⟨c25, c30⟩)))) k)
      · refine r_iload_n (pc' := 15) d177_14 rfl rfl rfl ?_
        refine r_iconst (v := 2) (pc' := 16) d177_15 rfl (by decide) ?_
        refine r_iconst (v := 3) (pc' := 17) d177_16 rfl (by decide) ?_
        refine r_call (pc' := 20) [vI _, vI _, vI _] [] d177_17 rfl o177 st12_59 rcv0 rfl (by decide) ⟨rfl, rfl⟩ (Nat.le_of_ble_eq_true rfl) rfl (s_in ?_)
        refine r_if_neB 33 (pc' := 23) d177_20 rfl rfl (fun c20 => ?_) (fun c20 => ?_)
        · refine r_iconst (v := 1) (pc' := 34) d177_33 rfl (by decide) ?_
          refine r_goto 38 d177_34 rfl ?_
          exact r_iretZ1 d177_38 rfl (qv (b1 (by first | exact Or.inl c1 | exact Or.inr (Or.inl c6) | exact Or.inr (Or.inr (Or.inl ⟨c11, c20⟩)) | exact Or.inr (Or.inr (Or.inr ⟨c25, c30⟩)))) k)
        · refine r_iload_n (pc' := 24) d177_23 rfl rfl rfl ?_
          refine r_iconst (v := 4) (pc' := 25) d177_24 rfl (by decide) ?_
          refine r_icmp_ne 37 (pc' := 28) d177_25 rfl rfl (fun c25 => ?_) (fun c25 => ?_)
          · refine r_iconst (v := 0) (pc' := 38) d177_37 rfl (by decide) ?_
            exact r_iretZ0 d177_38 rfl (qv (b0 (by rintro (w | w | w | w) <;> first | exact c1 w | exact c6 w | exact c11 w.1 | exact c20 w.2 | exact c25 w.1 | exact c30 w.2)) k)
          · refine r_iload_n (pc' := 29) d177_28 rfl rfl rfl ?_
            refine r_iconst (v := 5) (pc' := 30) d177_29 rfl (by decide) ?_
            refine r_icmp_ne 37 (pc' := 33) d177_30 rfl rfl (fun c30 => ?_) (fun c30 => ?_)
            · refine r_iconst (v := 0) (pc' := 38) d177_37 rfl (by decide) ?_
              exact r_iretZ0 d177_38 rfl (qv (b0 (by rintro (w | w | w | w) <;> first | exact c1 w | exact c6 w | exact c11 w.1 | exact c20 w.2 | exact c25 w.1 | exact c30 w.2)) k)
            · refine r_iconst (v := 1) (pc' := 34) d177_33 rfl (by decide) ?_
              refine r_goto 38 d177_34 rfl ?_
              exact r_iretZ1 d177_38 rfl (qv (b1 (by first | exact Or.inl c1 | exact Or.inr (Or.inl c6) | exact Or.inr (Or.inr (Or.inl ⟨c11, c20⟩)) | exact Or.inr (Or.inr (Or.inr ⟨c25, c30⟩)))) k)
theorem s_below {d : Nat} {h : Hp} {Q : Option AV → Hp → Prop} {t : Nat} (hN : hn h = 65) (hM : RM h) (ht : t < 6) (k : Q (some (vI (belowI (hi h 51) t))) h) : Spec d 178 [vR (some 50), vI (nI t)] h Q := by
  refine spec_intro (by decide +kernel) rfl (Nat.le_of_ble_eq_true rfl) ?_
  refine r_aload_n (pc' := 1) d178_0 rfl rfl rfl ?_
  refine r_getS (pc' := 4) d178_1 rfl o178 sf12_7_12 sh50 (pl hN rfl) (rfm0 hM) ?_
  refine r_aload_n (pc' := 5) d178_4 rfl rfl rfl ?_
  refine r_getS (pc' := 8) d178_5 rfl o178 sf12_7_12 sh50 (pl hN rfl) (rfm0 hM) ?_
  refine r_bipush (v := 69) (pc' := 10) d178_8 rfl (by decide) ?_
  refine r_iload_n (pc' := 11) d178_10 rfl rfl rfl ?_
  refine r_iadd (pc' := 12) d178_11 rfl ?_
  refine r_ialdN (pc' := 13) (j := (69 + t)) d178_12 rfl sh51 (pl hN rfl) (by simp only [lit, nI_add, pk_mul]) (by omega) (by decide) ?_
  refine r_if_ne 21 (pc' := 16) d178_13 rfl rfl (fun c13 => ?_) (fun c13 => ?_)
  · refine r_bipush (v := 63) (pc' := 23) d178_21 rfl (by decide) ?_
    refine r_iload_n (pc' := 24) d178_23 rfl rfl rfl ?_
    refine r_iadd (pc' := 25) d178_24 rfl ?_
    refine r_ialdN (pc' := 26) (j := (63 + t)) d178_25 rfl sh51 (pl hN rfl) (by simp only [lit, nI_add, pk_mul]) (by omega) (by decide) ?_
    exact r_iretI d178_26 rfl (qv (by first | exact if_pos c13 | exact if_neg c13) k)
  · refine r_bipush (v := 57) (pc' := 18) d178_16 rfl (by decide) ?_
    refine r_goto 23 d178_18 rfl ?_
    refine r_iload_n (pc' := 24) d178_23 rfl rfl rfl ?_
    refine r_iadd (pc' := 25) d178_24 rfl ?_
    refine r_ialdN (pc' := 26) (j := (57 + t)) d178_25 rfl sh51 (pl hN rfl) (by simp only [lit, nI_add, pk_mul]) (by omega) (by decide) ?_
    exact r_iretI d178_26 rfl (qv (by first | exact if_pos c13 | exact if_neg c13) k)
theorem s_above {d : Nat} {h : Hp} {Q : Option AV → Hp → Prop} {t : Nat} (hN : hn h = 65) (hM : RM h) (ht : t < 6) (k : Q (some (vI (aboveI (hi h 51) t))) h) : Spec d 179 [vR (some 50), vI (nI t)] h Q := by
  refine spec_intro (by decide +kernel) rfl (Nat.le_of_ble_eq_true rfl) ?_
  refine r_aload_n (pc' := 1) d179_0 rfl rfl rfl ?_
  refine r_getS (pc' := 4) d179_1 rfl o179 sf12_7_12 sh50 (pl hN rfl) (rfm0 hM) ?_
  refine r_aload_n (pc' := 5) d179_4 rfl rfl rfl ?_
  refine r_getS (pc' := 8) d179_5 rfl o179 sf12_7_12 sh50 (pl hN rfl) (rfm0 hM) ?_
  refine r_bipush (v := 69) (pc' := 10) d179_8 rfl (by decide) ?_
  refine r_iload_n (pc' := 11) d179_10 rfl rfl rfl ?_
  refine r_iadd (pc' := 12) d179_11 rfl ?_
  refine r_ialdN (pc' := 13) (j := (69 + t)) d179_12 rfl sh51 (pl hN rfl) (by simp only [lit, nI_add, pk_mul]) (by omega) (by decide) ?_
  refine r_if_ne 21 (pc' := 16) d179_13 rfl rfl (fun c13 => ?_) (fun c13 => ?_)
  · refine r_bipush (v := 57) (pc' := 23) d179_21 rfl (by decide) ?_
    refine r_iload_n (pc' := 24) d179_23 rfl rfl rfl ?_
    refine r_iadd (pc' := 25) d179_24 rfl ?_
    refine r_ialdN (pc' := 26) (j := (57 + t)) d179_25 rfl sh51 (pl hN rfl) (by simp only [lit, nI_add, pk_mul]) (by omega) (by decide) ?_
    exact r_iretI d179_26 rfl (qv (by first | exact if_pos c13 | exact if_neg c13) k)
  · refine r_bipush (v := 63) (pc' := 18) d179_16 rfl (by decide) ?_
    refine r_goto 23 d179_18 rfl ?_
    refine r_iload_n (pc' := 24) d179_23 rfl rfl rfl ?_
    refine r_iadd (pc' := 25) d179_24 rfl ?_
    refine r_ialdN (pc' := 26) (j := (63 + t)) d179_25 rfl sh51 (pl hN rfl) (by simp only [lit, nI_add, pk_mul]) (by omega) (by decide) ?_
    exact r_iretI d179_26 rfl (qv (by first | exact if_pos c13 | exact if_neg c13) k)
theorem s_size {d : Nat} {h : Hp} {Q : Option AV → Hp → Prop} {v : Int32} (k : Q (some (vI (szI v))) h) : Spec d 180 [vI v] h Q := by
  refine spec_intro (by decide +kernel) rfl (Nat.le_of_ble_eq_true rfl) ?_
  refine r_iload_n (pc' := 1) d180_0 rfl rfl rfl ?_
  refine r_if_ge 9 (pc' := 4) d180_1 rfl rfl (fun c1 => ?_) (fun c1 => ?_)
  · refine r_iload_n (pc' := 10) d180_9 rfl rfl rfl ?_
    exact r_iretI d180_10 rfl (qv (by first | exact if_pos c1 | exact if_neg c1) k)
  · refine r_iload_n (pc' := 5) d180_4 rfl rfl rfl ?_
    refine r_ineg (pc' := 6) d180_5 rfl ?_
    refine r_goto 10 d180_6 rfl ?_
    exact r_iretI d180_10 rfl (qv (by first | exact if_pos c1 | exact if_neg c1) k)
theorem s_areBeside {d : Nat} {h : Hp} {Q : Option AV → Hp → Prop} {a b : Int32} (k : Q (some (vI (bI (besI a b)))) h) : Spec (d + 1) 181 [vI a, vI b] h Q := by
  refine spec_intro (by decide +kernel) rfl (Nat.le_of_ble_eq_true rfl) ?_
  refine r_iload_n (pc' := 1) d181_0 rfl rfl rfl ?_
  refine r_iconst (v := 4) (pc' := 2) d181_1 rfl (by decide) ?_
  refine r_idiv (pc' := 3) d181_2 rfl (by decide) ?_
  refine r_iload_n (pc' := 4) d181_3 rfl rfl rfl ?_
  refine r_iconst (v := 4) (pc' := 5) d181_4 rfl (by decide) ?_
  refine r_idiv (pc' := 6) d181_5 rfl (by decide) ?_
  refine r_isub (pc' := 7) d181_6 rfl ?_
  refine r_call (pc' := 10) [vI _] [] d181_7 rfl o181 st12_150 rcv0 rfl (by decide) ⟨rfl, rfl⟩ (Nat.le_of_ble_eq_true rfl) rfl (s_size ?_)
  refine r_iload_n (pc' := 11) d181_10 rfl rfl rfl ?_
  refine r_iconst (v := 4) (pc' := 12) d181_11 rfl (by decide) ?_
  refine r_irem (pc' := 13) d181_12 rfl (by decide) ?_
  refine r_iload_n (pc' := 14) d181_13 rfl rfl rfl ?_
  refine r_iconst (v := 4) (pc' := 15) d181_14 rfl (by decide) ?_
  refine r_irem (pc' := 16) d181_15 rfl (by decide) ?_
  refine r_isub (pc' := 17) d181_16 rfl ?_
  refine r_call (pc' := 20) [vI _] [vI _] d181_17 rfl o181 st12_150 rcv0 rfl (by decide) ⟨rfl, rfl⟩ (Nat.le_of_ble_eq_true rfl) rfl (s_size ?_)
  refine r_iadd (pc' := 21) d181_20 rfl ?_
  refine r_iconst (v := 1) (pc' := 22) d181_21 rfl (by decide) ?_
  refine r_icmp_ne 29 (pc' := 25) d181_22 rfl rfl (fun c22 => ?_) (fun c22 => ?_)
  · refine r_iconst (v := 0) (pc' := 30) d181_29 rfl (by decide) ?_
    exact r_iretZ0 d181_30 rfl (qv (b0 c22) k)
  · refine r_iconst (v := 1) (pc' := 26) d181_25 rfl (by decide) ?_
    refine r_goto 30 d181_26 rfl ?_
    exact r_iretZ1 d181_30 rfl (qv (b1 c22) k)
theorem s_thick {d : Nat} {h : Hp} {Q : Option AV → Hp → Prop} {v : Int32} (k : Q (some (vI (thickI v))) h) : Spec d 183 [vR (some 50), vI v] h Q := by
  refine spec_intro (by decide +kernel) rfl (Nat.le_of_ble_eq_true rfl) ?_
  refine r_iload_n (pc' := 1) d183_0 rfl rfl rfl ?_
  refine r_iconst (v := 1) (pc' := 2) d183_1 rfl (by decide) ?_
  refine r_icmp_ne 10 (pc' := 5) d183_2 rfl rfl (fun c2 => ?_) (fun c2 => ?_)
  · refine r_iload_n (pc' := 11) d183_10 rfl rfl rfl ?_
    refine r_iconst (v := 2) (pc' := 12) d183_11 rfl (by decide) ?_
    refine r_icmp_ne 20 (pc' := 15) d183_12 rfl rfl (fun c12 => ?_) (fun c12 => ?_)
    · refine r_iload_n (pc' := 21) d183_20 rfl rfl rfl ?_
      refine r_iconst (v := 3) (pc' := 22) d183_21 rfl (by decide) ?_
      refine r_icmp_ne 29 (pc' := 25) d183_22 rfl rfl (fun c22 => ?_) (fun c22 => ?_)
      · refine r_iload_n (pc' := 30) d183_29 rfl rfl rfl ?_
        refine r_iconst (v := 4) (pc' := 31) d183_30 rfl (by decide) ?_
        refine r_icmp_ne 39 (pc' := 34) d183_31 rfl rfl (fun c31 => ?_) (fun c31 => ?_)
        · refine r_bipush (v := 10) (pc' := 41) d183_39 rfl (by decide) ?_
          exact r_iretI d183_41 rfl (qv (by unfold thickI; first | rw [if_pos c2] | rw [if_neg c2, if_pos c12] | rw [if_neg c2, if_neg c12, if_pos c22] | rw [if_neg c2, if_neg c12, if_neg c22, if_pos c31] | rw [if_neg c2, if_neg c12, if_neg c22, if_neg c31]) k)
        · refine r_bipush (v := 6) (pc' := 36) d183_34 rfl (by decide) ?_
          refine r_goto 41 d183_36 rfl ?_
          exact r_iretI d183_41 rfl (qv (by unfold thickI; first | rw [if_pos c2] | rw [if_neg c2, if_pos c12] | rw [if_neg c2, if_neg c12, if_pos c22] | rw [if_neg c2, if_neg c12, if_neg c22, if_pos c31] | rw [if_neg c2, if_neg c12, if_neg c22, if_neg c31]) k)
      · refine r_iconst (v := 4) (pc' := 26) d183_25 rfl (by decide) ?_
        refine r_goto 41 d183_26 rfl ?_
        exact r_iretI d183_41 rfl (qv (by unfold thickI; first | rw [if_pos c2] | rw [if_neg c2, if_pos c12] | rw [if_neg c2, if_neg c12, if_pos c22] | rw [if_neg c2, if_neg c12, if_neg c22, if_pos c31] | rw [if_neg c2, if_neg c12, if_neg c22, if_neg c31]) k)
    · refine r_bipush (v := 16) (pc' := 17) d183_15 rfl (by decide) ?_
      refine r_goto 41 d183_17 rfl ?_
      exact r_iretI d183_41 rfl (qv (by unfold thickI; first | rw [if_pos c2] | rw [if_neg c2, if_pos c12] | rw [if_neg c2, if_neg c12, if_pos c22] | rw [if_neg c2, if_neg c12, if_neg c22, if_pos c31] | rw [if_neg c2, if_neg c12, if_neg c22, if_neg c31]) k)
  · refine r_bipush (v := 8) (pc' := 7) d183_5 rfl (by decide) ?_
    refine r_goto 41 d183_7 rfl ?_
    exact r_iretI d183_41 rfl (qv (by unfold thickI; first | rw [if_pos c2] | rw [if_neg c2, if_pos c12] | rw [if_neg c2, if_neg c12, if_pos c22] | rw [if_neg c2, if_neg c12, if_neg c22, if_pos c31] | rw [if_neg c2, if_neg c12, if_neg c22, if_neg c31]) k)
theorem s_need {d : Nat} {h : Hp} {Q : Option AV → Hp → Prop} {v : Int32} (k : Q (some (vI (needI v))) h) : Spec d 184 [vR (some 50), vI v] h Q := by
  refine spec_intro (by decide +kernel) rfl (Nat.le_of_ble_eq_true rfl) ?_
  refine r_iload_n (pc' := 1) d184_0 rfl rfl rfl ?_
  refine r_iconst (v := 1) (pc' := 2) d184_1 rfl (by decide) ?_
  refine r_icmp_ne 10 (pc' := 5) d184_2 rfl rfl (fun c2 => ?_) (fun c2 => ?_)
  · refine r_iload_n (pc' := 11) d184_10 rfl rfl rfl ?_
    refine r_iconst (v := 2) (pc' := 12) d184_11 rfl (by decide) ?_
    refine r_icmp_ne 20 (pc' := 15) d184_12 rfl rfl (fun c12 => ?_) (fun c12 => ?_)
    · refine r_iload_n (pc' := 21) d184_20 rfl rfl rfl ?_
      refine r_iconst (v := 3) (pc' := 22) d184_21 rfl (by decide) ?_
      refine r_icmp_ne 30 (pc' := 25) d184_22 rfl rfl (fun c22 => ?_) (fun c22 => ?_)
      · refine r_iload_n (pc' := 31) d184_30 rfl rfl rfl ?_
        refine r_iconst (v := 4) (pc' := 32) d184_31 rfl (by decide) ?_
        refine r_icmp_ne 40 (pc' := 35) d184_32 rfl rfl (fun c32 => ?_) (fun c32 => ?_)
        · refine r_bipush (v := 50) (pc' := 42) d184_40 rfl (by decide) ?_
          exact r_iretI d184_42 rfl (qv (by unfold needI; first | rw [if_pos c2] | rw [if_neg c2, if_pos c12] | rw [if_neg c2, if_neg c12, if_pos c22] | rw [if_neg c2, if_neg c12, if_neg c22, if_pos c32] | rw [if_neg c2, if_neg c12, if_neg c22, if_neg c32]) k)
        · refine r_bipush (v := 15) (pc' := 37) d184_35 rfl (by decide) ?_
          refine r_goto 42 d184_37 rfl ?_
          exact r_iretI d184_42 rfl (qv (by unfold needI; first | rw [if_pos c2] | rw [if_neg c2, if_pos c12] | rw [if_neg c2, if_neg c12, if_pos c22] | rw [if_neg c2, if_neg c12, if_neg c22, if_pos c32] | rw [if_neg c2, if_neg c12, if_neg c22, if_neg c32]) k)
      · refine r_bipush (v := 20) (pc' := 27) d184_25 rfl (by decide) ?_
        refine r_goto 42 d184_27 rfl ?_
        exact r_iretI d184_42 rfl (qv (by unfold needI; first | rw [if_pos c2] | rw [if_neg c2, if_pos c12] | rw [if_neg c2, if_neg c12, if_pos c22] | rw [if_neg c2, if_neg c12, if_neg c22, if_pos c32] | rw [if_neg c2, if_neg c12, if_neg c22, if_neg c32]) k)
    · refine r_bipush (v := 80) (pc' := 17) d184_15 rfl (by decide) ?_
      refine r_goto 42 d184_17 rfl ?_
      exact r_iretI d184_42 rfl (qv (by unfold needI; first | rw [if_pos c2] | rw [if_neg c2, if_pos c12] | rw [if_neg c2, if_neg c12, if_pos c22] | rw [if_neg c2, if_neg c12, if_neg c22, if_pos c32] | rw [if_neg c2, if_neg c12, if_neg c22, if_neg c32]) k)
  · refine r_bipush (v := 40) (pc' := 7) d184_5 rfl (by decide) ?_
    refine r_goto 42 d184_7 rfl ?_
    exact r_iretI d184_42 rfl (qv (by unfold needI; first | rw [if_pos c2] | rw [if_neg c2, if_pos c12] | rw [if_neg c2, if_neg c12, if_pos c22] | rw [if_neg c2, if_neg c12, if_neg c22, if_pos c32] | rw [if_neg c2, if_neg c12, if_neg c22, if_neg c32]) k)
theorem s_limit {d : Nat} {h : Hp} {Q : Option AV → Hp → Prop} {v : Int32} (k : Q (some (vI (limitI v))) h) : Spec d 185 [vR (some 50), vI v] h Q := by
  refine spec_intro (by decide +kernel) rfl (Nat.le_of_ble_eq_true rfl) ?_
  refine r_iload_n (pc' := 1) d185_0 rfl rfl rfl ?_
  refine r_iconst (v := 1) (pc' := 2) d185_1 rfl (by decide) ?_
  refine r_icmp_ne 10 (pc' := 5) d185_2 rfl rfl (fun c2 => ?_) (fun c2 => ?_)
  · refine r_iload_n (pc' := 11) d185_10 rfl rfl rfl ?_
    refine r_iconst (v := 2) (pc' := 12) d185_11 rfl (by decide) ?_
    refine r_icmp_ne 20 (pc' := 15) d185_12 rfl rfl (fun c12 => ?_) (fun c12 => ?_)
    · refine r_iload_n (pc' := 21) d185_20 rfl rfl rfl ?_
      refine r_iconst (v := 3) (pc' := 22) d185_21 rfl (by decide) ?_
      refine r_icmp_ne 30 (pc' := 25) d185_22 rfl rfl (fun c22 => ?_) (fun c22 => ?_)
      · refine r_iload_n (pc' := 31) d185_30 rfl rfl rfl ?_
        refine r_iconst (v := 4) (pc' := 32) d185_31 rfl (by decide) ?_
        refine r_icmp_ne 40 (pc' := 35) d185_32 rfl rfl (fun c32 => ?_) (fun c32 => ?_)
        · refine r_bipush (v := 100) (pc' := 42) d185_40 rfl (by decide) ?_
          exact r_iretI d185_42 rfl (qv (by unfold limitI; first | rw [if_pos c2] | rw [if_neg c2, if_pos c12] | rw [if_neg c2, if_neg c12, if_pos c22] | rw [if_neg c2, if_neg c12, if_neg c22, if_pos c32] | rw [if_neg c2, if_neg c12, if_neg c22, if_neg c32]) k)
        · refine r_bipush (v := 70) (pc' := 37) d185_35 rfl (by decide) ?_
          refine r_goto 42 d185_37 rfl ?_
          exact r_iretI d185_42 rfl (qv (by unfold limitI; first | rw [if_pos c2] | rw [if_neg c2, if_pos c12] | rw [if_neg c2, if_neg c12, if_pos c22] | rw [if_neg c2, if_neg c12, if_neg c22, if_pos c32] | rw [if_neg c2, if_neg c12, if_neg c22, if_neg c32]) k)
      · refine r_bipush (v := 45) (pc' := 27) d185_25 rfl (by decide) ?_
        refine r_goto 42 d185_27 rfl ?_
        exact r_iretI d185_42 rfl (qv (by unfold limitI; first | rw [if_pos c2] | rw [if_neg c2, if_pos c12] | rw [if_neg c2, if_neg c12, if_pos c22] | rw [if_neg c2, if_neg c12, if_neg c22, if_pos c32] | rw [if_neg c2, if_neg c12, if_neg c22, if_neg c32]) k)
    · refine r_bipush (v := 120) (pc' := 17) d185_15 rfl (by decide) ?_
      refine r_goto 42 d185_17 rfl ?_
      exact r_iretI d185_42 rfl (qv (by unfold limitI; first | rw [if_pos c2] | rw [if_neg c2, if_pos c12] | rw [if_neg c2, if_neg c12, if_pos c22] | rw [if_neg c2, if_neg c12, if_neg c22, if_pos c32] | rw [if_neg c2, if_neg c12, if_neg c22, if_neg c32]) k)
  · refine r_bipush (v := 90) (pc' := 7) d185_5 rfl (by decide) ?_
    refine r_goto 42 d185_7 rfl ?_
    exact r_iretI d185_42 rfl (qv (by unfold limitI; first | rw [if_pos c2] | rw [if_neg c2, if_pos c12] | rw [if_neg c2, if_neg c12, if_pos c22] | rw [if_neg c2, if_neg c12, if_neg c22, if_pos c32] | rw [if_neg c2, if_neg c12, if_neg c22, if_neg c32]) k)
theorem s_least {d : Nat} {h : Hp} {Q : Option AV → Hp → Prop} {v : Int32} (k : Q (some (vI (leastI v))) h) : Spec d 186 [vI v] h Q := by
  refine spec_intro (by decide +kernel) rfl (Nat.le_of_ble_eq_true rfl) ?_
  refine r_iload_n (pc' := 1) d186_0 rfl rfl rfl ?_
  refine r_if_ge 8 (pc' := 4) d186_1 rfl rfl (fun c1 => ?_) (fun c1 => ?_)
  · refine r_iload_n (pc' := 9) d186_8 rfl rfl rfl ?_
    exact r_iretI d186_9 rfl (qv (by first | exact if_pos c1 | exact if_neg c1) k)
  · refine r_iconst (v := 0) (pc' := 5) d186_4 rfl (by decide) ?_
    refine r_goto 9 d186_5 rfl ?_
    exact r_iretI d186_9 rfl (qv (by first | exact if_pos c1 | exact if_neg c1) k)
theorem s_heatOf {d : Nat} {h : Hp} {Q : Option AV → Hp → Prop} {mm L e : Nat} {cell : Int32} (hN : hn h = 65) (hM : RM h) (hc : Cnt (hi h 51) mm L e) (kk : Q (some (vI (heatI (hi h 51) mm L cell))) h) : Spec (d + 2) 182 [vR (some 50), vI cell] h Q := by
  obtain ⟨hc1, hc2, hc3, hc4, hc5, hc6⟩ := id hc
  refine spec_intro (by decide +kernel) rfl (Nat.le_of_ble_eq_true rfl) ?_
  refine r_iconst (v := 0) (pc' := 1) d182_0 rfl (by decide) ?_
  refine r_istore_n (pc' := 2) (ls' := [(2, vI _), (0, vR (some 50)), (1, vI _)]) d182_1 rfl rfl (by decide) rfl ?_
  refine r_iconst (v := 0) (pc' := 3) d182_2 rfl (by decide) ?_
  refine r_istore_n (pc' := 4) (ls' := [(3, vI _), (2, vI _), (0, vR (some 50)), (1, vI _)]) d182_3 rfl rfl (by decide) rfl ?_
  refine wp_pick (ls' := [(0, vR (some 50)), (1, vI _), (2, vI _), (3, vI _)]) [2, 3, 1, 0] rfl ?_
  have loop : ∀ (r k : Nat), k + r = L → wp (d + 2) 182 Q 0 0 4 [(0, vR (some 50)), (1, vI cell), (2, vI (warm (hi h 51) cell k)), (3, vI (nI k))] [] h := by
    intro r
    induction r with
    | zero =>
      intro k hk
      obtain rfl : k = L := by omega
      refine r_iload_n (pc' := 5) d182_4 rfl rfl rfl ?_
      refine r_aload_n (pc' := 6) d182_5 rfl rfl rfl ?_
      refine r_getS (pc' := 9) d182_6 rfl o182 sf12_7_12 sh50 (pl hN rfl) (rfm0 hM) ?_
      refine r_bipush (v := 20) (pc' := 11) d182_9 rfl (by decide) ?_
      refine r_ialdN (pc' := 12) (j := 20) d182_11 rfl sh51 (pl hN rfl) rfl (by omega) (by decide) ?_
      refine r_icmp_ge 93 (pc' := 15) d182_12 rfl rfl (fun c12 => ?_) (fun c12 => absurd (by rw [hc.2.2.1]; exact nI_le (Nat.le_refl _) (by omega)) c12)
      refine r_iconst (v := 0) (pc' := 94) d182_93 rfl (by decide) ?_
      refine r_istore_n (pc' := 95) (ls' := [(3, vI _), (0, vR (some 50)), (1, vI _), (2, vI _)]) d182_94 rfl rfl (by decide) rfl ?_
      refine r_iconst (v := 0) (pc' := 96) d182_95 rfl (by decide) ?_
      refine r_istore (pc' := 98) (ls' := [(4, vI _), (3, vI _), (0, vR (some 50)), (1, vI _), (2, vI _)]) d182_96 rfl (by decide) rfl ?_
      refine wp_pick (ls' := [(0, vR (some 50)), (1, vI _), (2, vI _), (3, vI _), (4, vI _)]) [2, 3, 4, 1, 0] rfl ?_
      generalize hW : warm (hi h 51) cell k = W0
      have loop : ∀ (r j : Nat), j + r = mm → wp (d + 2) 182 Q 0 0 98 [(0, vR (some 50)), (1, vI cell), (2, vI W0), (3, vI (fatL (hi h 51) cell W0 j)), (4, vI (nI j))] [] h := by
        intro r
        induction r with
        | zero =>
          intro j hj
          obtain rfl : j = mm := by omega
          refine r_iload (pc' := 100) d182_98 rfl rfl ?_
          refine r_aload_n (pc' := 101) d182_100 rfl rfl rfl ?_
          refine r_getS (pc' := 104) d182_101 rfl o182 sf12_7_12 sh50 (pl hN rfl) (rfm0 hM) ?_
          refine r_iconst (v := 1) (pc' := 105) d182_104 rfl (by decide) ?_
          refine r_ialdN (pc' := 106) (j := 1) d182_105 rfl sh51 (pl hN rfl) rfl (by omega) (by decide) ?_
          refine r_icmp_ge 166 (pc' := 109) d182_106 rfl rfl (fun c106 => ?_) (fun c106 => absurd (by rw [hc.1]; exact nI_le (Nat.le_refl _) (by omega)) c106)
          refine r_iload_n (pc' := 167) d182_166 rfl rfl rfl ?_
          refine r_iload_n (pc' := 168) d182_167 rfl rfl rfl ?_
          refine r_iadd (pc' := 169) d182_168 rfl ?_
          refine r_iload_n (pc' := 170) d182_169 rfl rfl rfl ?_
          refine r_iconst (v := 4) (pc' := 171) d182_170 rfl (by decide) ?_
          refine r_irem (pc' := 172) d182_171 rfl (by decide) ?_
          refine r_if_ne 184 (pc' := 175) d182_172 rfl rfl (fun c172 => ?_) (fun c172 => ?_)
          · refine r_iconst (v := 0) (pc' := 185) d182_184 rfl (by decide) ?_
            refine r_iadd (pc' := 186) d182_185 rfl ?_
            exact r_iretI d182_186 rfl (qv (by rw [heatI, hW, windI]; first | rw [if_pos c172] | rw [if_neg c172]) kk)
          · refine r_aload_n (pc' := 176) d182_175 rfl rfl rfl ?_
            refine r_getS (pc' := 179) d182_176 rfl o182 sf12_7_12 sh50 (pl hN rfl) (rfm0 hM) ?_
            refine r_iconst (v := 4) (pc' := 180) d182_179 rfl (by decide) ?_
            refine r_ialdN (pc' := 181) (j := 4) d182_180 rfl sh51 (pl hN rfl) rfl (by omega) (by decide) ?_
            refine r_goto 185 d182_181 rfl ?_
            refine r_iadd (pc' := 186) d182_185 rfl ?_
            exact r_iretI d182_186 rfl (qv (by rw [heatI, hW, windI]; first | rw [if_pos c172] | rw [if_neg c172]) kk)
        | succ r ih =>
          intro j hj
          refine r_iload (pc' := 100) d182_98 rfl rfl ?_
          refine r_aload_n (pc' := 101) d182_100 rfl rfl rfl ?_
          refine r_getS (pc' := 104) d182_101 rfl o182 sf12_7_12 sh50 (pl hN rfl) (rfm0 hM) ?_
          refine r_iconst (v := 1) (pc' := 105) d182_104 rfl (by decide) ?_
          refine r_ialdN (pc' := 106) (j := 1) d182_105 rfl sh51 (pl hN rfl) rfl (by omega) (by decide) ?_
          refine r_icmp_ge 166 (pc' := 109) d182_106 rfl rfl (fun c106 => absurd c106 (by rw [hc.1]; exact nI_ge (by omega) (by omega))) (fun c106 => ?_)
          refine r_iload_n (pc' := 110) d182_109 rfl rfl rfl ?_
          refine r_if_le 158 (pc' := 113) d182_110 rfl rfl (fun c110 => ?_) (fun c110 => ?_)
          · refine r_iload_n (pc' := 159) d182_158 rfl rfl rfl ?_
            refine r_istore_n (pc' := 160) (ls' := [(3, vI _), (0, vR (some 50)), (1, vI _), (2, vI _), (4, vI _)]) d182_159 rfl rfl (by decide) rfl ?_
            refine r_iinc (v := _ + 1) (pc' := 163) (ls' := [(4, vI _), (3, vI _), (0, vR (some 50)), (1, vI _), (2, vI _)]) d182_160 rfl rfl rfl (by decide) rfl ?_
            refine r_goto 98 d182_163 rfl ?_
            refine wp_pick (ls' := [(0, vR (some 50)), (1, vI _), (2, vI _), (3, vI _), (4, vI _)]) [2, 3, 4, 1, 0] rfl ?_
            rw [nI_1]
            have w := ih (j + 1) (by omega)
            rw [fatL] at w
            first | (rw [if_neg (fun z => absurd c110 (Int32.not_le.mpr z.1))] at w; exact w) | (rw [if_neg (fun z => c124 z.2.1)] at w; exact w) | (rw [if_neg (fun z => c140 z.2.2.1)] at w; exact w) | (rw [if_neg (fun z => absurd c151 (Int32.not_lt.mpr z.2.2.2))] at w; exact w) | (rw [if_pos ⟨Int32.not_le.mp c110, c124, c140, Int32.not_lt.mp c151⟩] at w; exact w)
          · refine r_aload_n (pc' := 114) d182_113 rfl rfl rfl ?_
            refine r_getS (pc' := 117) d182_114 rfl o182 sf12_7_12 sh50 (pl hN rfl) (rfm0 hM) ?_
            refine r_bipush (v := 45) (pc' := 119) d182_117 rfl (by decide) ?_
            refine r_iload (pc' := 121) d182_119 rfl rfl ?_
            refine r_iadd (pc' := 122) d182_121 rfl ?_
            refine r_ialdN (pc' := 123) (j := (45 + j)) d182_122 rfl sh51 (pl hN rfl) (by simp only [lit, nI_add, pk_mul]) (by omega) (by decide) ?_
            refine r_iload_n (pc' := 124) d182_123 rfl rfl rfl ?_
            refine r_icmp_ne 158 (pc' := 127) d182_124 rfl rfl (fun c124 => ?_) (fun c124 => ?_)
            · refine r_iload_n (pc' := 159) d182_158 rfl rfl rfl ?_
              refine r_istore_n (pc' := 160) (ls' := [(3, vI _), (0, vR (some 50)), (1, vI _), (2, vI _), (4, vI _)]) d182_159 rfl rfl (by decide) rfl ?_
              refine r_iinc (v := _ + 1) (pc' := 163) (ls' := [(4, vI _), (3, vI _), (0, vR (some 50)), (1, vI _), (2, vI _)]) d182_160 rfl rfl rfl (by decide) rfl ?_
              refine r_goto 98 d182_163 rfl ?_
              refine wp_pick (ls' := [(0, vR (some 50)), (1, vI _), (2, vI _), (3, vI _), (4, vI _)]) [2, 3, 4, 1, 0] rfl ?_
              rw [nI_1]
              have w := ih (j + 1) (by omega)
              rw [fatL] at w
              first | (rw [if_neg (fun z => absurd c110 (Int32.not_le.mpr z.1))] at w; exact w) | (rw [if_neg (fun z => c124 z.2.1)] at w; exact w) | (rw [if_neg (fun z => c140 z.2.2.1)] at w; exact w) | (rw [if_neg (fun z => absurd c151 (Int32.not_lt.mpr z.2.2.2))] at w; exact w) | (rw [if_pos ⟨Int32.not_le.mp c110, c124, c140, Int32.not_lt.mp c151⟩] at w; exact w)
            · refine r_aload_n (pc' := 128) d182_127 rfl rfl rfl ?_
              refine r_getS (pc' := 131) d182_128 rfl o182 sf12_7_12 sh50 (pl hN rfl) (rfm0 hM) ?_
              refine r_iconst (v := 5) (pc' := 132) d182_131 rfl (by decide) ?_
              refine r_iload (pc' := 134) d182_132 rfl rfl ?_
              refine r_iadd (pc' := 135) d182_134 rfl ?_
              refine r_ialdN (pc' := 136) (j := (5 + j)) d182_135 rfl sh51 (pl hN rfl) (by simp only [lit, nI_add, pk_mul]) (by omega) (by decide) ?_
              refine r_iconst (v := 1) (pc' := 137) d182_136 rfl (by decide) ?_
              refine r_call (pc' := 140) [vI _, vI _] [] d182_137 rfl o182 st12_157 rcv0 rfl (by decide) ⟨rfl, rfl⟩ (Nat.le_of_ble_eq_true rfl) rfl (s_isA ?_)
              refine r_if_eqB 158 (pc' := 143) d182_140 rfl rfl (fun c140 => ?_) (fun c140 => ?_)
              · refine r_iload_n (pc' := 159) d182_158 rfl rfl rfl ?_
                refine r_istore_n (pc' := 160) (ls' := [(3, vI _), (0, vR (some 50)), (1, vI _), (2, vI _), (4, vI _)]) d182_159 rfl rfl (by decide) rfl ?_
                refine r_iinc (v := _ + 1) (pc' := 163) (ls' := [(4, vI _), (3, vI _), (0, vR (some 50)), (1, vI _), (2, vI _)]) d182_160 rfl rfl rfl (by decide) rfl ?_
                refine r_goto 98 d182_163 rfl ?_
                refine wp_pick (ls' := [(0, vR (some 50)), (1, vI _), (2, vI _), (3, vI _), (4, vI _)]) [2, 3, 4, 1, 0] rfl ?_
                rw [nI_1]
                have w := ih (j + 1) (by omega)
                rw [fatL] at w
                first | (rw [if_neg (fun z => absurd c110 (Int32.not_le.mpr z.1))] at w; exact w) | (rw [if_neg (fun z => c124 z.2.1)] at w; exact w) | (rw [if_neg (fun z => c140 z.2.2.1)] at w; exact w) | (rw [if_neg (fun z => absurd c151 (Int32.not_lt.mpr z.2.2.2))] at w; exact w) | (rw [if_pos ⟨Int32.not_le.mp c110, c124, c140, Int32.not_lt.mp c151⟩] at w; exact w)
              · refine r_aload_n (pc' := 144) d182_143 rfl rfl rfl ?_
                refine r_iload (pc' := 146) d182_144 rfl rfl ?_
                refine r_call (pc' := 149) [vR (some 50), vI _] [] d182_146 rfl o182 st12_160_12 (rcv1 sh50 (pl hN rfl)) rfl (by decide) ⟨rfl, rfl⟩ (Nat.le_of_ble_eq_true rfl) rfl (s_below hN hM (by omega) ?_)
                refine r_bipush (v := 10) (pc' := 151) d182_149 rfl (by decide) ?_
                refine r_icmp_lt 158 (pc' := 154) d182_151 rfl rfl (fun c151 => ?_) (fun c151 => ?_)
                · refine r_iload_n (pc' := 159) d182_158 rfl rfl rfl ?_
                  refine r_istore_n (pc' := 160) (ls' := [(3, vI _), (0, vR (some 50)), (1, vI _), (2, vI _), (4, vI _)]) d182_159 rfl rfl (by decide) rfl ?_
                  refine r_iinc (v := _ + 1) (pc' := 163) (ls' := [(4, vI _), (3, vI _), (0, vR (some 50)), (1, vI _), (2, vI _)]) d182_160 rfl rfl rfl (by decide) rfl ?_
                  refine r_goto 98 d182_163 rfl ?_
                  refine wp_pick (ls' := [(0, vR (some 50)), (1, vI _), (2, vI _), (3, vI _), (4, vI _)]) [2, 3, 4, 1, 0] rfl ?_
                  rw [nI_1]
                  have w := ih (j + 1) (by omega)
                  rw [fatL] at w
                  first | (rw [if_neg (fun z => absurd c110 (Int32.not_le.mpr z.1))] at w; exact w) | (rw [if_neg (fun z => c124 z.2.1)] at w; exact w) | (rw [if_neg (fun z => c140 z.2.2.1)] at w; exact w) | (rw [if_neg (fun z => absurd c151 (Int32.not_lt.mpr z.2.2.2))] at w; exact w) | (rw [if_pos ⟨Int32.not_le.mp c110, c124, c140, Int32.not_lt.mp c151⟩] at w; exact w)
                · refine r_iconst (v := 3) (pc' := 155) d182_154 rfl (by decide) ?_
                  refine r_goto 159 d182_155 rfl ?_
                  refine r_istore_n (pc' := 160) (ls' := [(3, vI _), (0, vR (some 50)), (1, vI _), (2, vI _), (4, vI _)]) d182_159 rfl rfl (by decide) rfl ?_
                  refine r_iinc (v := _ + 1) (pc' := 163) (ls' := [(4, vI _), (3, vI _), (0, vR (some 50)), (1, vI _), (2, vI _)]) d182_160 rfl rfl rfl (by decide) rfl ?_
                  refine r_goto 98 d182_163 rfl ?_
                  refine wp_pick (ls' := [(0, vR (some 50)), (1, vI _), (2, vI _), (3, vI _), (4, vI _)]) [2, 3, 4, 1, 0] rfl ?_
                  rw [nI_1]
                  have w := ih (j + 1) (by omega)
                  rw [fatL] at w
                  first | (rw [if_neg (fun z => absurd c110 (Int32.not_le.mpr z.1))] at w; exact w) | (rw [if_neg (fun z => c124 z.2.1)] at w; exact w) | (rw [if_neg (fun z => c140 z.2.2.1)] at w; exact w) | (rw [if_neg (fun z => absurd c151 (Int32.not_lt.mpr z.2.2.2))] at w; exact w) | (rw [if_pos ⟨Int32.not_le.mp c110, c124, c140, Int32.not_lt.mp c151⟩] at w; exact w)
      exact loop mm 0 (by omega)
    | succ r ih =>
      intro k hk
      refine r_iload_n (pc' := 5) d182_4 rfl rfl rfl ?_
      refine r_aload_n (pc' := 6) d182_5 rfl rfl rfl ?_
      refine r_getS (pc' := 9) d182_6 rfl o182 sf12_7_12 sh50 (pl hN rfl) (rfm0 hM) ?_
      refine r_bipush (v := 20) (pc' := 11) d182_9 rfl (by decide) ?_
      refine r_ialdN (pc' := 12) (j := 20) d182_11 rfl sh51 (pl hN rfl) rfl (by omega) (by decide) ?_
      refine r_icmp_ge 93 (pc' := 15) d182_12 rfl rfl (fun c12 => absurd c12 (by rw [hc.2.2.1]; exact nI_ge (by omega) (by omega))) (fun c12 => ?_)
      refine r_aload_n (pc' := 16) d182_15 rfl rfl rfl ?_
      refine r_getS (pc' := 19) d182_16 rfl o182 sf12_7_12 sh50 (pl hN rfl) (rfm0 hM) ?_
      refine r_bipush (v := 37) (pc' := 21) d182_19 rfl (by decide) ?_
      refine r_iload_n (pc' := 22) d182_21 rfl rfl rfl ?_
      refine r_iadd (pc' := 23) d182_22 rfl ?_
      refine r_ialdN (pc' := 24) (j := (37 + k)) d182_23 rfl sh51 (pl hN rfl) (by simp only [lit, nI_add, pk_mul]) (by omega) (by decide) ?_
      refine r_if_le 31 (pc' := 27) d182_24 rfl rfl (fun c24 => ?_) (fun c24 => ?_)
      · refine r_aload_n (pc' := 32) d182_31 rfl rfl rfl ?_
        refine r_getS (pc' := 35) d182_32 rfl o182 sf12_7_12 sh50 (pl hN rfl) (rfm0 hM) ?_
        refine r_bipush (v := 29) (pc' := 37) d182_35 rfl (by decide) ?_
        refine r_iload_n (pc' := 38) d182_37 rfl rfl rfl ?_
        refine r_iadd (pc' := 39) d182_38 rfl ?_
        refine r_ialdN (pc' := 40) (j := (29 + k)) d182_39 rfl sh51 (pl hN rfl) (by simp only [lit, nI_add, pk_mul]) (by omega) (by decide) ?_
        refine r_istore (pc' := 42) (ls' := [(4, vI _), (0, vR (some 50)), (1, vI _), (2, vI _), (3, vI _)]) d182_40 rfl (by decide) rfl ?_
        refine r_iload_n (pc' := 43) d182_42 rfl rfl rfl ?_
        refine r_aload_n (pc' := 44) d182_43 rfl rfl rfl ?_
        refine r_getS (pc' := 47) d182_44 rfl o182 sf12_7_12 sh50 (pl hN rfl) (rfm0 hM) ?_
        refine r_bipush (v := 21) (pc' := 49) d182_47 rfl (by decide) ?_
        refine r_iload_n (pc' := 50) d182_49 rfl rfl rfl ?_
        refine r_iadd (pc' := 51) d182_50 rfl ?_
        refine r_ialdN (pc' := 52) (j := (21 + k)) d182_51 rfl sh51 (pl hN rfl) (by simp only [lit, nI_add, pk_mul]) (by omega) (by decide) ?_
        refine r_iload_n (pc' := 53) d182_52 rfl rfl rfl ?_
        refine r_icmp_ne 61 (pc' := 56) d182_53 rfl rfl (fun c53 => ?_) (fun c53 => ?_)
        · refine r_aload_n (pc' := 62) d182_61 rfl rfl rfl ?_
          refine r_getS (pc' := 65) d182_62 rfl o182 sf12_7_12 sh50 (pl hN rfl) (rfm0 hM) ?_
          refine r_bipush (v := 21) (pc' := 67) d182_65 rfl (by decide) ?_
          refine r_iload_n (pc' := 68) d182_67 rfl rfl rfl ?_
          refine r_iadd (pc' := 69) d182_68 rfl ?_
          refine r_ialdN (pc' := 70) (j := (21 + k)) d182_69 rfl sh51 (pl hN rfl) (by simp only [lit, nI_add, pk_mul]) (by omega) (by decide) ?_
          refine r_iload_n (pc' := 71) d182_70 rfl rfl rfl ?_
          refine r_call (pc' := 74) [vI _, vI _] [vI _] d182_71 rfl o182 st12_153 rcv0 rfl (by decide) ⟨rfl, rfl⟩ (Nat.le_of_ble_eq_true rfl) rfl (s_areBeside ?_)
          refine r_if_eqB 84 (pc' := 77) d182_74 rfl rfl (fun c74 => ?_) (fun c74 => ?_)
          · refine r_iconst (v := 0) (pc' := 85) d182_84 rfl (by decide) ?_
            refine r_iadd (pc' := 86) d182_85 rfl ?_
            refine r_istore_n (pc' := 87) (ls' := [(2, vI _), (4, vI _), (0, vR (some 50)), (1, vI _), (3, vI _)]) d182_86 rfl rfl (by decide) rfl ?_
            refine r_iinc (v := _ + 1) (pc' := 90) (ls' := [(3, vI _), (2, vI _), (4, vI _), (0, vR (some 50)), (1, vI _)]) d182_87 rfl rfl rfl (by decide) rfl ?_
            refine r_goto 4 d182_90 rfl ?_
            refine wp_pick (ls' := [(0, vR (some 50)), (1, vI _), (2, vI _), (3, vI _)]) [3, 4, 1, 0] rfl ?_
            rw [nI_1]
            have w := ih (k + 1) (by omega)
            rw [warm, ctr, fireN] at w
            first | (rw [if_pos c24, if_pos c53] at w; exact w) | (rw [if_neg c24, if_pos c53] at w; exact w) | (rw [if_pos c24, if_neg c53, if_pos c74] at w; exact w) | (rw [if_neg c24, if_neg c53, if_pos c74] at w; exact w) | (rw [if_neg c53, if_neg c74] at w; exact w)
          · refine r_iload (pc' := 79) d182_77 rfl rfl ?_
            refine r_iconst (v := 2) (pc' := 80) d182_79 rfl (by decide) ?_
            refine r_idiv (pc' := 81) d182_80 rfl (by decide) ?_
            refine r_goto 85 d182_81 rfl ?_
            refine r_iadd (pc' := 86) d182_85 rfl ?_
            refine r_istore_n (pc' := 87) (ls' := [(2, vI _), (4, vI _), (0, vR (some 50)), (1, vI _), (3, vI _)]) d182_86 rfl rfl (by decide) rfl ?_
            refine r_iinc (v := _ + 1) (pc' := 90) (ls' := [(3, vI _), (2, vI _), (4, vI _), (0, vR (some 50)), (1, vI _)]) d182_87 rfl rfl rfl (by decide) rfl ?_
            refine r_goto 4 d182_90 rfl ?_
            refine wp_pick (ls' := [(0, vR (some 50)), (1, vI _), (2, vI _), (3, vI _)]) [3, 4, 1, 0] rfl ?_
            rw [nI_1]
            have w := ih (k + 1) (by omega)
            rw [warm, ctr, fireN] at w
            first | (rw [if_pos c24, if_pos c53] at w; exact w) | (rw [if_neg c24, if_pos c53] at w; exact w) | (rw [if_pos c24, if_neg c53, if_pos c74] at w; exact w) | (rw [if_neg c24, if_neg c53, if_pos c74] at w; exact w) | (rw [if_neg c53, if_neg c74] at w; exact w)
        · refine r_iload (pc' := 58) d182_56 rfl rfl ?_
          refine r_goto 85 d182_58 rfl ?_
          refine r_iadd (pc' := 86) d182_85 rfl ?_
          refine r_istore_n (pc' := 87) (ls' := [(2, vI _), (4, vI _), (0, vR (some 50)), (1, vI _), (3, vI _)]) d182_86 rfl rfl (by decide) rfl ?_
          refine r_iinc (v := _ + 1) (pc' := 90) (ls' := [(3, vI _), (2, vI _), (4, vI _), (0, vR (some 50)), (1, vI _)]) d182_87 rfl rfl rfl (by decide) rfl ?_
          refine r_goto 4 d182_90 rfl ?_
          refine wp_pick (ls' := [(0, vR (some 50)), (1, vI _), (2, vI _), (3, vI _)]) [3, 4, 1, 0] rfl ?_
          rw [nI_1]
          have w := ih (k + 1) (by omega)
          rw [warm, ctr, fireN] at w
          first | (rw [if_pos c24, if_pos c53] at w; exact w) | (rw [if_neg c24, if_pos c53] at w; exact w) | (rw [if_pos c24, if_neg c53, if_pos c74] at w; exact w) | (rw [if_neg c24, if_neg c53, if_pos c74] at w; exact w) | (rw [if_neg c53, if_neg c74] at w; exact w)
      · refine r_iconst (v := 0) (pc' := 28) d182_27 rfl (by decide) ?_
        refine r_goto 40 d182_28 rfl ?_
        refine r_istore (pc' := 42) (ls' := [(4, vI _), (0, vR (some 50)), (1, vI _), (2, vI _), (3, vI _)]) d182_40 rfl (by decide) rfl ?_
        refine r_iload_n (pc' := 43) d182_42 rfl rfl rfl ?_
        refine r_aload_n (pc' := 44) d182_43 rfl rfl rfl ?_
        refine r_getS (pc' := 47) d182_44 rfl o182 sf12_7_12 sh50 (pl hN rfl) (rfm0 hM) ?_
        refine r_bipush (v := 21) (pc' := 49) d182_47 rfl (by decide) ?_
        refine r_iload_n (pc' := 50) d182_49 rfl rfl rfl ?_
        refine r_iadd (pc' := 51) d182_50 rfl ?_
        refine r_ialdN (pc' := 52) (j := (21 + k)) d182_51 rfl sh51 (pl hN rfl) (by simp only [lit, nI_add, pk_mul]) (by omega) (by decide) ?_
        refine r_iload_n (pc' := 53) d182_52 rfl rfl rfl ?_
        refine r_icmp_ne 61 (pc' := 56) d182_53 rfl rfl (fun c53 => ?_) (fun c53 => ?_)
        · refine r_aload_n (pc' := 62) d182_61 rfl rfl rfl ?_
          refine r_getS (pc' := 65) d182_62 rfl o182 sf12_7_12 sh50 (pl hN rfl) (rfm0 hM) ?_
          refine r_bipush (v := 21) (pc' := 67) d182_65 rfl (by decide) ?_
          refine r_iload_n (pc' := 68) d182_67 rfl rfl rfl ?_
          refine r_iadd (pc' := 69) d182_68 rfl ?_
          refine r_ialdN (pc' := 70) (j := (21 + k)) d182_69 rfl sh51 (pl hN rfl) (by simp only [lit, nI_add, pk_mul]) (by omega) (by decide) ?_
          refine r_iload_n (pc' := 71) d182_70 rfl rfl rfl ?_
          refine r_call (pc' := 74) [vI _, vI _] [vI _] d182_71 rfl o182 st12_153 rcv0 rfl (by decide) ⟨rfl, rfl⟩ (Nat.le_of_ble_eq_true rfl) rfl (s_areBeside ?_)
          refine r_if_eqB 84 (pc' := 77) d182_74 rfl rfl (fun c74 => ?_) (fun c74 => ?_)
          · refine r_iconst (v := 0) (pc' := 85) d182_84 rfl (by decide) ?_
            refine r_iadd (pc' := 86) d182_85 rfl ?_
            refine r_istore_n (pc' := 87) (ls' := [(2, vI _), (4, vI _), (0, vR (some 50)), (1, vI _), (3, vI _)]) d182_86 rfl rfl (by decide) rfl ?_
            refine r_iinc (v := _ + 1) (pc' := 90) (ls' := [(3, vI _), (2, vI _), (4, vI _), (0, vR (some 50)), (1, vI _)]) d182_87 rfl rfl rfl (by decide) rfl ?_
            refine r_goto 4 d182_90 rfl ?_
            refine wp_pick (ls' := [(0, vR (some 50)), (1, vI _), (2, vI _), (3, vI _)]) [3, 4, 1, 0] rfl ?_
            rw [nI_1]
            have w := ih (k + 1) (by omega)
            rw [warm, ctr, fireN] at w
            first | (rw [if_pos c24, if_pos c53] at w; exact w) | (rw [if_neg c24, if_pos c53] at w; exact w) | (rw [if_pos c24, if_neg c53, if_pos c74] at w; exact w) | (rw [if_neg c24, if_neg c53, if_pos c74] at w; exact w) | (rw [if_neg c53, if_neg c74] at w; exact w)
          · refine r_iload (pc' := 79) d182_77 rfl rfl ?_
            refine r_iconst (v := 2) (pc' := 80) d182_79 rfl (by decide) ?_
            refine r_idiv (pc' := 81) d182_80 rfl (by decide) ?_
            refine r_goto 85 d182_81 rfl ?_
            refine r_iadd (pc' := 86) d182_85 rfl ?_
            refine r_istore_n (pc' := 87) (ls' := [(2, vI _), (4, vI _), (0, vR (some 50)), (1, vI _), (3, vI _)]) d182_86 rfl rfl (by decide) rfl ?_
            refine r_iinc (v := _ + 1) (pc' := 90) (ls' := [(3, vI _), (2, vI _), (4, vI _), (0, vR (some 50)), (1, vI _)]) d182_87 rfl rfl rfl (by decide) rfl ?_
            refine r_goto 4 d182_90 rfl ?_
            refine wp_pick (ls' := [(0, vR (some 50)), (1, vI _), (2, vI _), (3, vI _)]) [3, 4, 1, 0] rfl ?_
            rw [nI_1]
            have w := ih (k + 1) (by omega)
            rw [warm, ctr, fireN] at w
            first | (rw [if_pos c24, if_pos c53] at w; exact w) | (rw [if_neg c24, if_pos c53] at w; exact w) | (rw [if_pos c24, if_neg c53, if_pos c74] at w; exact w) | (rw [if_neg c24, if_neg c53, if_pos c74] at w; exact w) | (rw [if_neg c53, if_neg c74] at w; exact w)
        · refine r_iload (pc' := 58) d182_56 rfl rfl ?_
          refine r_goto 85 d182_58 rfl ?_
          refine r_iadd (pc' := 86) d182_85 rfl ?_
          refine r_istore_n (pc' := 87) (ls' := [(2, vI _), (4, vI _), (0, vR (some 50)), (1, vI _), (3, vI _)]) d182_86 rfl rfl (by decide) rfl ?_
          refine r_iinc (v := _ + 1) (pc' := 90) (ls' := [(3, vI _), (2, vI _), (4, vI _), (0, vR (some 50)), (1, vI _)]) d182_87 rfl rfl rfl (by decide) rfl ?_
          refine r_goto 4 d182_90 rfl ?_
          refine wp_pick (ls' := [(0, vR (some 50)), (1, vI _), (2, vI _), (3, vI _)]) [3, 4, 1, 0] rfl ?_
          rw [nI_1]
          have w := ih (k + 1) (by omega)
          rw [warm, ctr, fireN] at w
          first | (rw [if_pos c24, if_pos c53] at w; exact w) | (rw [if_neg c24, if_pos c53] at w; exact w) | (rw [if_pos c24, if_neg c53, if_pos c74] at w; exact w) | (rw [if_neg c24, if_neg c53, if_pos c74] at w; exact w) | (rw [if_neg c53, if_neg c74] at w; exact w)
  exact loop L 0 (by omega)
