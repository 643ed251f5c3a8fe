/-! the class: yards, warmth and the like (printed by wip/whole/m55.py) -/
abbrev wanC (h : Hp) (b z q : Nat) (n : Int32) : Prop := hi h (b + 7) z = -1000000 ∧ hi h (b + 6) z ≤ hi h b 3 + n ∧ hi h (b + 5) z = nI q
theorem y_wants {d : Nat} {h : Hp} {Q : Option AV → Hp → Prop} {b z o q : Nat} {n : Int32} (hN : hn h = 65) (hC : RC h) (hb : b = 17 ∨ b = 31) (ho : SH o = (0, 8)) (hlt : o < 65) (hK : KC h) (hq : hr h o 1 = some (10 + q)) (hq6 : q < 6) (hz : z < 4) (k : Q (some (vI (bI (wanC h b z q n)))) h) : Spec d 69 [vR (some b), vI (nI z), vR (some o), vI n] h Q := by
  refine spec_intro (by decide +kernel) rfl (Nat.le_of_ble_eq_true rfl) ?_
  refine r_aload_n (pc' := 1) d69_0 rfl rfl rfl ?_
  refine r_getS (pc' := 4) d69_1 rfl o69 sf10_33_10 (shY hb) (plo hN (by omega)) (rY13 hC hb) ?_
  refine r_iload_n (pc' := 5) d69_4 rfl rfl rfl ?_
  refine r_ialdN (pc' := 6) (j := z) d69_5 rfl (shY7 hb) (plo hN (by omega)) rfl (by omega) (by decide) ?_
  refine r_ldc (pc' := 8) d69_6 rfl o69 kc10_64 ?_
  refine r_icmp_ne 46 (pc' := 11) d69_8 rfl rfl (fun c8 => ?_) (fun c8 => ?_)
  · refine r_iconst (v := 0) (pc' := 47) d69_46 rfl (by decide) ?_
    exact r_iretZ0 d69_47 rfl (qv (b0 (by first | exact fun w => c8 w.1 | exact fun w => absurd w.2.1 (Int32.not_le.mpr c23) | exact fun w => c39 w.2.2)) k)
  · refine r_aload_n (pc' := 12) d69_11 rfl rfl rfl ?_
    refine r_getS (pc' := 15) d69_12 rfl o69 sf10_30_10 (shY hb) (plo hN (by omega)) (rY12 hC hb) ?_
    refine r_iload_n (pc' := 16) d69_15 rfl rfl rfl ?_
    refine r_ialdN (pc' := 17) (j := z) d69_16 rfl (shY6 hb) (plo hN (by omega)) rfl (by omega) (by decide) ?_
    refine r_aload_n (pc' := 18) d69_17 rfl rfl rfl ?_
    refine r_getI (pc' := 21) d69_18 rfl o69 sf10_43_10 (shY hb) (plo hN (by omega)) ?_
    refine r_iload_n (pc' := 22) d69_21 rfl rfl rfl ?_
    refine r_iadd (pc' := 23) d69_22 rfl ?_
    refine r_icmp_gt 46 (pc' := 26) d69_23 rfl rfl (fun c23 => ?_) (fun c23 => ?_)
    · refine r_iconst (v := 0) (pc' := 47) d69_46 rfl (by decide) ?_
      exact r_iretZ0 d69_47 rfl (qv (b0 (by first | exact fun w => c8 w.1 | exact fun w => absurd w.2.1 (Int32.not_le.mpr c23) | exact fun w => c39 w.2.2)) k)
    · refine r_aload_n (pc' := 27) d69_26 rfl rfl rfl ?_
      refine r_getS (pc' := 30) d69_27 rfl o69 sf10_27_10 (shY hb) (plo hN (by omega)) (rY11 hC hb) ?_
      refine r_iload_n (pc' := 31) d69_30 rfl rfl rfl ?_
      refine r_ialdN (pc' := 32) (j := z) d69_31 rfl (shY5 hb) (plo hN (by omega)) rfl (by omega) (by decide) ?_
      refine r_aload_n (pc' := 33) d69_32 rfl rfl rfl ?_
      refine r_getS (pc' := 36) d69_33 rfl o69 sf10_76_8 ho (plo hN hlt) hq ?_
      refine r_getI (pc' := 39) d69_36 rfl o69 (sfK10_80 hq6) (shK hq6) (plK hN hq6) ?_
      refine wp_v (hK q hq6).1 ?_
      refine r_icmp_ne 46 (pc' := 42) d69_39 rfl rfl (fun c39 => ?_) (fun c39 => ?_)
      · refine r_iconst (v := 0) (pc' := 47) d69_46 rfl (by decide) ?_
        exact r_iretZ0 d69_47 rfl (qv (b0 (by first | exact fun w => c8 w.1 | exact fun w => absurd w.2.1 (Int32.not_le.mpr c23) | exact fun w => c39 w.2.2)) k)
      · refine r_iconst (v := 1) (pc' := 43) d69_42 rfl (by decide) ?_
        refine r_goto 47 d69_43 rfl ?_
        exact r_iretZ1 d69_47 rfl (qv (b1 ⟨c8, Int32.not_lt.mp c23, c39⟩) k)
def sunkV (y : Nat → Int32) (n : Int32) : Int32 := if 0 < y 1 then (y 3 + n) / y 1 - y 3 / y 1 else 0
theorem y_sunkBy {d : Nat} {h : Hp} {Q : Option AV → Hp → Prop} {b : Nat} {n : Int32} (hN : hn h = 65) (hb : b = 17 ∨ b = 31) (k : Q (some (vI (sunkV (hi h b) n))) h) : Spec d 70 [vR (some b), vI n] h Q := by
  refine spec_intro (by decide +kernel) rfl (Nat.le_of_ble_eq_true rfl) ?_
  refine r_aload_n (pc' := 1) d70_0 rfl rfl rfl ?_
  refine r_getI (pc' := 4) d70_1 rfl o70 sf10_85_10 (shY hb) (plo hN (by omega)) ?_
  refine r_if_le 31 (pc' := 7) d70_4 rfl rfl (fun c4 => ?_) (fun c4 => ?_)
  · refine r_iconst (v := 0) (pc' := 32) d70_31 rfl (by decide) ?_
    exact r_iretI d70_32 rfl (qv (by unfold sunkV; first | exact if_neg (Int32.not_lt.mpr c4) | exact if_pos (Int32.not_le.mp c4)) k)
  · refine r_aload_n (pc' := 8) d70_7 rfl rfl rfl ?_
    refine r_getI (pc' := 11) d70_8 rfl o70 sf10_43_10 (shY hb) (plo hN (by omega)) ?_
    refine r_iload_n (pc' := 12) d70_11 rfl rfl rfl ?_
    refine r_iadd (pc' := 13) d70_12 rfl ?_
    refine r_aload_n (pc' := 14) d70_13 rfl rfl rfl ?_
    refine r_getI (pc' := 17) d70_14 rfl o70 sf10_85_10 (shY hb) (plo hN (by omega)) ?_
    refine r_idiv (pc' := 18) d70_17 rfl (fun z => by rw [z] at c4; exact c4 (by decide)) ?_
    refine r_aload_n (pc' := 19) d70_18 rfl rfl rfl ?_
    refine r_getI (pc' := 22) d70_19 rfl o70 sf10_43_10 (shY hb) (plo hN (by omega)) ?_
    refine r_aload_n (pc' := 23) d70_22 rfl rfl rfl ?_
    refine r_getI (pc' := 26) d70_23 rfl o70 sf10_85_10 (shY hb) (plo hN (by omega)) ?_
    refine r_idiv (pc' := 27) d70_26 rfl (fun z => by rw [z] at c4; exact c4 (by decide)) ?_
    refine r_isub (pc' := 28) d70_27 rfl ?_
    refine r_goto 32 d70_28 rfl ?_
    exact r_iretI d70_32 rfl (qv (by unfold sunkV; first | exact if_neg (Int32.not_lt.mpr c4) | exact if_pos (Int32.not_le.mp c4)) k)
theorem abs_sz (v : Int32) : (if 0 ≤ v then v else 0 - v) = szI v := by
  unfold szI
  split
  · rfl
  · rw [Int32.zero_sub]
theorem y_isBeside {d : Nat} {h : Hp} {Q : Option AV → Hp → Prop} {p r : Int32} (k : Q (some (vI (bI (besI p r)))) h) : Spec (d + 1) 72 [vI p, vI r] h Q := by
  refine spec_intro (by decide +kernel) rfl (Nat.le_of_ble_eq_true rfl) ?_
  refine r_iload_n (pc' := 1) d72_0 rfl rfl rfl ?_
  refine r_iconst (v := 4) (pc' := 2) d72_1 rfl (by decide) ?_
  refine r_irem (pc' := 3) d72_2 rfl (by decide) ?_
  refine r_iload_n (pc' := 4) d72_3 rfl rfl rfl ?_
  refine r_iconst (v := 4) (pc' := 5) d72_4 rfl (by decide) ?_
  refine r_irem (pc' := 6) d72_5 rfl (by decide) ?_
  refine r_isub (pc' := 7) d72_6 rfl ?_
  refine r_abs (pc' := 10) d72_7 rfl o72 st10_102 jm_abs2 jm_i jm_abs4 (Nat.le_of_ble_eq_true rfl) ?_
  refine r_iload_n (pc' := 11) d72_10 rfl rfl rfl ?_
  refine r_iconst (v := 4) (pc' := 12) d72_11 rfl (by decide) ?_
  refine r_idiv (pc' := 13) d72_12 rfl (by decide) ?_
  refine r_iload_n (pc' := 14) d72_13 rfl rfl rfl ?_
  refine r_iconst (v := 4) (pc' := 15) d72_14 rfl (by decide) ?_
  refine r_idiv (pc' := 16) d72_15 rfl (by decide) ?_
  refine r_isub (pc' := 17) d72_16 rfl ?_
  refine r_abs (pc' := 20) d72_17 rfl o72 st10_102 jm_abs2 jm_i jm_abs4 (Nat.le_of_ble_eq_true rfl) ?_
  refine r_iadd (pc' := 21) d72_20 rfl ?_
  refine r_iconst (v := 1) (pc' := 22) d72_21 rfl (by decide) ?_
  refine r_icmp_ne 29 (pc' := 25) d72_22 rfl rfl (fun c22 => ?_) (fun c22 => ?_)
  · refine r_iconst (v := 0) (pc' := 30) d72_29 rfl (by decide) ?_
    exact r_iretZ0 d72_30 rfl (qv (b0 (by unfold besI; rw [Int32.add_comm, ← abs_sz, ← abs_sz]; exact c22)) k)
  · refine r_iconst (v := 1) (pc' := 26) d72_25 rfl (by decide) ?_
    refine r_goto 30 d72_26 rfl ?_
    exact r_iretZ1 d72_30 rfl (qv (b1 (by unfold besI; rw [Int32.add_comm, ← abs_sz, ← abs_sz]; exact c22)) k)
def windV (y : Nat → Int32) (cell : Int32) : Int32 := if cell - cell / 4 * 4 = 0 then y 2 else 0
theorem y_windIn {d : Nat} {h : Hp} {Q : Option AV → Hp → Prop} {b : Nat} {cell : Int32} (hN : hn h = 65) (hb : b = 17 ∨ b = 31) (k : Q (some (vI (windV (hi h b) cell))) h) : Spec d 73 [vR (some b), vI cell] h Q := by
  refine spec_intro (by decide +kernel) rfl (Nat.le_of_ble_eq_true rfl) ?_
  refine r_iload_n (pc' := 1) d73_0 rfl rfl rfl ?_
  refine r_iconst (v := 4) (pc' := 2) d73_1 rfl (by decide) ?_
  refine r_irem (pc' := 3) d73_2 rfl (by decide) ?_
  refine r_if_ne 13 (pc' := 6) d73_3 rfl rfl (fun c3 => ?_) (fun c3 => ?_)
  · refine r_iconst (v := 0) (pc' := 14) d73_13 rfl (by decide) ?_
    exact r_iretI d73_14 rfl (qv (by unfold windV; first | exact if_pos c3 | exact if_neg c3) k)
  · refine r_aload_n (pc' := 7) d73_6 rfl rfl rfl ?_
    refine r_getI (pc' := 10) d73_7 rfl o73 sf10_105_10 (shY hb) (plo hN (by omega)) ?_
    refine r_goto 14 d73_10 rfl ?_
    exact r_iretI d73_14 rfl (qv (by unfold windV; first | exact if_pos c3 | exact if_neg c3) k)
def fiV (cf cr : Nat → Int32) (n su : Int32) (c : Nat) : Int32 := if cr c ≤ n then mx0 (cf c - su) else 0
def ctV (cc cf cr : Nat → Int32) (cell n su : Int32) (c : Nat) : Int32 := if cc c = cell then fiV cf cr n su c else if besI (cc c) cell then fiV cf cr n su c / 2 else 0
def wmS (cc cf cr : Nat → Int32) (cell n su : Int32) : Nat → Int32
  | 0 => 0
  | k + 1 => wmS cc cf cr cell n su k + ctV cc cf cr cell n su k
def wmV (y cc cf cr : Nat → Int32) (L : Nat) (cell n : Int32) : Int32 := wmS cc cf cr cell n (sunkV y n) L
theorem y_warmthIn {d : Nat} {h : Hp} {Q : Option AV → Hp → Prop} {b m L e : Nat} {cell n : Int32} (hN : hn h = 65) (hC : RC h) (hb : b = 17 ∨ b = 31) (hc : CntY h b m L e) (kq0 : Q (some (vI (wmV (hi h b) (hi h (b + 1)) (hi h (b + 2)) (hi h (b + 3)) L cell n))) h) : Spec (d + 2) 71 [vR (some b), vI cell, vI n] h Q := by
  obtain ⟨hc1, hc2, hc3, hc4, hc5, hc6⟩ := id hc
  refine spec_intro (by decide +kernel) rfl (Nat.le_of_ble_eq_true rfl) ?_
  refine r_aload_n (pc' := 1) d71_0 rfl rfl rfl ?_
  refine r_iload_n (pc' := 2) d71_1 rfl rfl rfl ?_
  refine r_call (pc' := 5) [vR (some b), vI _] [] d71_2 rfl o71 st10_88_10 (rcv1 (shY hb) (plo hN (by omega))) rfl (by decide) ⟨rfl, rfl⟩ (Nat.le_of_ble_eq_true rfl) rfl (y_sunkBy hN hb ?_)
  refine r_istore_n (pc' := 6) (ls' := [(3, vI _), (0, vR (some b)), (1, vI _), (2, vI _)]) d71_5 rfl rfl (by decide) rfl ?_
  refine r_iconst (v := 0) (pc' := 7) d71_6 rfl (by decide) ?_
  refine r_istore (pc' := 9) (ls' := [(4, vI _), (3, vI _), (0, vR (some b)), (1, vI _), (2, vI _)]) d71_7 rfl (by decide) rfl ?_
  refine r_iconst (v := 0) (pc' := 10) d71_9 rfl (by decide) ?_
  refine r_istore (pc' := 12) (ls' := [(5, vI _), (4, vI _), (3, vI _), (0, vR (some b)), (1, vI _), (2, vI _)]) d71_10 rfl (by decide) rfl ?_
  refine wp_pick (ls' := [(0, vR (some b)), (1, vI _), (2, vI _), (3, vI _), (4, vI _), (5, vI _)]) [3, 4, 5, 2, 1, 0] rfl ?_
  unfold wmV at kq0
  generalize hsu : sunkV (hi h b) n = su at kq0 ⊢
  have loop : ∀ (r k : Nat), k + r = L → wp (d + 2) 71 Q 0 0 12 [(0, vR (some b)), (1, vI cell), (2, vI n), (3, vI su), (4, vI (wmS (hi h (b + 1)) (hi h (b + 2)) (hi h (b + 3)) cell n su k)), (5, vI (nI k))] [] h := by
    intro r
    induction r with
    | zero =>
      intro k hk
      obtain rfl : k = L := by omega
      refine r_iload (pc' := 14) d71_12 rfl rfl ?_
      refine r_aload_n (pc' := 15) d71_14 rfl rfl rfl ?_
      refine r_getI (pc' := 18) d71_15 rfl o71 sf10_47_10 (shY hb) (plo hN (by omega)) ?_
      refine wp_v hc.2.2.1 ?_
      refine r_icmp_ge 101 (pc' := 21) d71_18 rfl rfl (fun c18 => ?_) (fun c18 => absurd (nI_le (Nat.le_refl _) (by omega)) c18)
      refine r_iload (pc' := 103) d71_101 rfl rfl ?_
      exact r_iretI d71_103 rfl kq0
    | succ r ih =>
      intro k hk
      refine r_iload (pc' := 14) d71_12 rfl rfl ?_
      refine r_aload_n (pc' := 15) d71_14 rfl rfl rfl ?_
      refine r_getI (pc' := 18) d71_15 rfl o71 sf10_47_10 (shY hb) (plo hN (by omega)) ?_
      refine wp_v hc.2.2.1 ?_
      refine r_icmp_ge 101 (pc' := 21) d71_18 rfl rfl (fun c18 => absurd c18 (nI_ge (by omega) (by omega))) (fun c18 => ?_)
      refine r_aload_n (pc' := 22) d71_21 rfl rfl rfl ?_
      refine r_getS (pc' := 25) d71_22 rfl o71 sf10_20_10 (shY hb) (plo hN (by omega)) (rY7 hC hb) ?_
      refine r_iload (pc' := 27) d71_25 rfl rfl ?_
      refine r_ialdN (pc' := 28) (j := k) d71_27 rfl (shY3 hb) (plo hN (by omega)) rfl (by omega) (by decide) ?_
      refine r_iload_n (pc' := 29) d71_28 rfl rfl rfl ?_
      refine r_icmp_le 36 (pc' := 32) d71_29 rfl rfl (fun c29 => ?_) (fun c29 => ?_)
      · refine r_iconst (v := 0) (pc' := 37) d71_36 rfl (by decide) ?_
        refine r_aload_n (pc' := 38) d71_37 rfl rfl rfl ?_
        refine r_getS (pc' := 41) d71_38 rfl o71 sf10_17_10 (shY hb) (plo hN (by omega)) (rY6 hC hb) ?_
        refine r_iload (pc' := 43) d71_41 rfl rfl ?_
        refine r_ialdN (pc' := 44) (j := k) d71_43 rfl (shY2 hb) (plo hN (by omega)) rfl (by omega) (by decide) ?_
        refine r_iload_n (pc' := 45) d71_44 rfl rfl rfl ?_
        refine r_isub (pc' := 46) d71_45 rfl ?_
        refine r_max (pc' := 49) d71_46 rfl o71 st10_92 jm_max2 jm_i jm_max4 (Nat.le_of_ble_eq_true rfl) ?_
        refine r_istore (pc' := 51) (ls' := [(6, vI _), (0, vR (some b)), (1, vI _), (2, vI _), (3, vI _), (4, vI _), (5, vI _)]) d71_49 rfl (by decide) rfl ?_
        refine r_aload_n (pc' := 52) d71_51 rfl rfl rfl ?_
        refine r_getS (pc' := 55) d71_52 rfl o71 sf10_11_10 (shY hb) (plo hN (by omega)) (rY5 hC hb) ?_
        refine r_iload (pc' := 57) d71_55 rfl rfl ?_
        refine r_ialdN (pc' := 58) (j := k) d71_57 rfl (shY1 hb) (plo hN (by omega)) rfl (by omega) (by decide) ?_
        refine r_iload_n (pc' := 59) d71_58 rfl rfl rfl ?_
        refine r_icmp_ne 72 (pc' := 62) d71_59 rfl rfl (fun c59 => ?_) (fun c59 => ?_)
        · refine r_aload_n (pc' := 73) d71_72 rfl rfl rfl ?_
          refine r_getS (pc' := 76) d71_73 rfl o71 sf10_11_10 (shY hb) (plo hN (by omega)) (rY5 hC hb) ?_
          refine r_iload (pc' := 78) d71_76 rfl rfl ?_
          refine r_ialdN (pc' := 79) (j := k) d71_78 rfl (shY1 hb) (plo hN (by omega)) rfl (by omega) (by decide) ?_
          refine r_iload_n (pc' := 80) d71_79 rfl rfl rfl ?_
          refine r_call (pc' := 83) [vI _, vI _] [] d71_80 rfl o71 st10_98 rcv0 rfl (by decide) ⟨rfl, rfl⟩ (Nat.le_of_ble_eq_true rfl) rfl (y_isBeside ?_)
          refine r_if_eqB 95 (pc' := 86) d71_83 rfl rfl (fun c83 => ?_) (fun c83 => ?_)
          · refine r_iinc (v := _ + 1) (pc' := 98) (ls' := [(5, vI _), (6, vI _), (0, vR (some b)), (1, vI _), (2, vI _), (3, vI _), (4, vI _)]) d71_95 rfl rfl rfl (by decide) rfl ?_
            refine r_goto 12 d71_98 rfl ?_
            refine wp_pick (ls' := [(0, vR (some b)), (1, vI _), (2, vI _), (3, vI _), (4, vI _), (5, vI _)]) [2, 3, 4, 5, 6, 0] rfl ?_
            rw [nI_1]
            have w := ih (k + 1) (by omega)
            rw [wmS, ctV, fiV] at w
            rw [if_neg c59, if_neg c83, Int32.add_zero] at w
            exact w
          · refine r_iload (pc' := 88) d71_86 rfl rfl ?_
            refine r_iload (pc' := 90) d71_88 rfl rfl ?_
            refine r_iconst (v := 2) (pc' := 91) d71_90 rfl (by decide) ?_
            refine r_idiv (pc' := 92) d71_91 rfl (by decide) ?_
            refine r_iadd (pc' := 93) d71_92 rfl ?_
            refine r_istore (pc' := 95) (ls' := [(4, vI _), (6, vI _), (0, vR (some b)), (1, vI _), (2, vI _), (3, vI _), (5, vI _)]) d71_93 rfl (by decide) rfl ?_
            refine r_iinc (v := _ + 1) (pc' := 98) (ls' := [(5, vI _), (4, vI _), (6, vI _), (0, vR (some b)), (1, vI _), (2, vI _), (3, vI _)]) d71_95 rfl rfl rfl (by decide) rfl ?_
            refine r_goto 12 d71_98 rfl ?_
            refine wp_pick (ls' := [(0, vR (some b)), (1, vI _), (2, vI _), (3, vI _), (4, vI _), (5, vI _)]) [3, 4, 5, 6, 1, 0] rfl ?_
            rw [nI_1]
            have w := ih (k + 1) (by omega)
            rw [wmS, ctV, fiV] at w
            rw [if_pos c29, if_neg c59, if_pos c83] at w
            exact w
        · refine r_iload (pc' := 64) d71_62 rfl rfl ?_
          refine r_iload (pc' := 66) d71_64 rfl rfl ?_
          refine r_iadd (pc' := 67) d71_66 rfl ?_
          refine r_istore (pc' := 69) (ls' := [(4, vI _), (6, vI _), (0, vR (some b)), (1, vI _), (2, vI _), (3, vI _), (5, vI _)]) d71_67 rfl (by decide) rfl ?_
          refine r_goto 95 d71_69 rfl ?_
          refine r_iinc (v := _ + 1) (pc' := 98) (ls' := [(5, vI _), (4, vI _), (6, vI _), (0, vR (some b)), (1, vI _), (2, vI _), (3, vI _)]) d71_95 rfl rfl rfl (by decide) rfl ?_
          refine r_goto 12 d71_98 rfl ?_
          refine wp_pick (ls' := [(0, vR (some b)), (1, vI _), (2, vI _), (3, vI _), (4, vI _), (5, vI _)]) [3, 4, 5, 6, 1, 0] rfl ?_
          rw [nI_1]
          have w := ih (k + 1) (by omega)
          rw [wmS, ctV, fiV] at w
          rw [if_pos c29, if_pos c59] at w
          exact w
      · refine r_iconst (v := 0) (pc' := 33) d71_32 rfl (by decide) ?_
        refine r_goto 49 d71_33 rfl ?_
        refine r_istore (pc' := 51) (ls' := [(6, vI _), (0, vR (some b)), (1, vI _), (2, vI _), (3, vI _), (4, vI _), (5, vI _)]) d71_49 rfl (by decide) rfl ?_
        refine r_aload_n (pc' := 52) d71_51 rfl rfl rfl ?_
        refine r_getS (pc' := 55) d71_52 rfl o71 sf10_11_10 (shY hb) (plo hN (by omega)) (rY5 hC hb) ?_
        refine r_iload (pc' := 57) d71_55 rfl rfl ?_
        refine r_ialdN (pc' := 58) (j := k) d71_57 rfl (shY1 hb) (plo hN (by omega)) rfl (by omega) (by decide) ?_
        refine r_iload_n (pc' := 59) d71_58 rfl rfl rfl ?_
        refine r_icmp_ne 72 (pc' := 62) d71_59 rfl rfl (fun c59 => ?_) (fun c59 => ?_)
        · refine r_aload_n (pc' := 73) d71_72 rfl rfl rfl ?_
          refine r_getS (pc' := 76) d71_73 rfl o71 sf10_11_10 (shY hb) (plo hN (by omega)) (rY5 hC hb) ?_
          refine r_iload (pc' := 78) d71_76 rfl rfl ?_
          refine r_ialdN (pc' := 79) (j := k) d71_78 rfl (shY1 hb) (plo hN (by omega)) rfl (by omega) (by decide) ?_
          refine r_iload_n (pc' := 80) d71_79 rfl rfl rfl ?_
          refine r_call (pc' := 83) [vI _, vI _] [] d71_80 rfl o71 st10_98 rcv0 rfl (by decide) ⟨rfl, rfl⟩ (Nat.le_of_ble_eq_true rfl) rfl (y_isBeside ?_)
          refine r_if_eqB 95 (pc' := 86) d71_83 rfl rfl (fun c83 => ?_) (fun c83 => ?_)
          · refine r_iinc (v := _ + 1) (pc' := 98) (ls' := [(5, vI _), (6, vI _), (0, vR (some b)), (1, vI _), (2, vI _), (3, vI _), (4, vI _)]) d71_95 rfl rfl rfl (by decide) rfl ?_
            refine r_goto 12 d71_98 rfl ?_
            refine wp_pick (ls' := [(0, vR (some b)), (1, vI _), (2, vI _), (3, vI _), (4, vI _), (5, vI _)]) [2, 3, 4, 5, 6, 0] rfl ?_
            rw [nI_1]
            have w := ih (k + 1) (by omega)
            rw [wmS, ctV, fiV] at w
            rw [if_neg c59, if_neg c83, Int32.add_zero] at w
            exact w
          · refine r_iload (pc' := 88) d71_86 rfl rfl ?_
            refine r_iload (pc' := 90) d71_88 rfl rfl ?_
            refine r_iconst (v := 2) (pc' := 91) d71_90 rfl (by decide) ?_
            refine r_idiv (pc' := 92) d71_91 rfl (by decide) ?_
            refine r_iadd (pc' := 93) d71_92 rfl ?_
            refine r_istore (pc' := 95) (ls' := [(4, vI _), (6, vI _), (0, vR (some b)), (1, vI _), (2, vI _), (3, vI _), (5, vI _)]) d71_93 rfl (by decide) rfl ?_
            refine r_iinc (v := _ + 1) (pc' := 98) (ls' := [(5, vI _), (4, vI _), (6, vI _), (0, vR (some b)), (1, vI _), (2, vI _), (3, vI _)]) d71_95 rfl rfl rfl (by decide) rfl ?_
            refine r_goto 12 d71_98 rfl ?_
            refine wp_pick (ls' := [(0, vR (some b)), (1, vI _), (2, vI _), (3, vI _), (4, vI _), (5, vI _)]) [3, 4, 5, 6, 1, 0] rfl ?_
            rw [nI_1]
            have w := ih (k + 1) (by omega)
            rw [wmS, ctV, fiV] at w
            rw [if_neg c29, if_neg c59, if_pos c83] at w
            exact w
        · refine r_iload (pc' := 64) d71_62 rfl rfl ?_
          refine r_iload (pc' := 66) d71_64 rfl rfl ?_
          refine r_iadd (pc' := 67) d71_66 rfl ?_
          refine r_istore (pc' := 69) (ls' := [(4, vI _), (6, vI _), (0, vR (some b)), (1, vI _), (2, vI _), (3, vI _), (5, vI _)]) d71_67 rfl (by decide) rfl ?_
          refine r_goto 95 d71_69 rfl ?_
          refine r_iinc (v := _ + 1) (pc' := 98) (ls' := [(5, vI _), (4, vI _), (6, vI _), (0, vR (some b)), (1, vI _), (2, vI _), (3, vI _)]) d71_95 rfl rfl rfl (by decide) rfl ?_
          refine r_goto 12 d71_98 rfl ?_
          refine wp_pick (ls' := [(0, vR (some b)), (1, vI _), (2, vI _), (3, vI _), (4, vI _), (5, vI _)]) [3, 4, 5, 6, 1, 0] rfl ?_
          rw [nI_1]
          have w := ih (k + 1) (by omega)
          rw [wmS, ctV, fiV] at w
          rw [if_neg c29, if_pos c59] at w
          exact w
  exact loop L 0 (by omega)
def rsV (y cc cf cr : Nat → Int32) (L q : Nat) (n : Int32) (f : Nat → Int32) : Nat → Int32 := if inC (f 2) then roastV q (wmV y cc cf cr L (f 2) n) (windV y (f 2)) f else if f 2 = 13 then f else restV 1 f
theorem y_roast {d : Nat} {h : Hp} {Q : Option AV → Hp → Prop} {b m L e o q : Nat} {n : Int32} (hN : hn h = 65) (hC : RC h) (hb : b = 17 ∨ b = 31) (hc : CntY h b m L e) (ho : SH o = (0, 8)) (hlt : o < 65) (hK : KC h) (hq : hr h o 1 = some (10 + q)) (hq6 : q < 6) (k : Q none (setw h o (rsV (hi h b) (hi h (b + 1)) (hi h (b + 2)) (hi h (b + 3)) L q n (hi h o)))) : Spec (d + 3) 74 [vR (some b), vR (some o), vI n] h Q := by
  refine spec_intro (by decide +kernel) rfl (Nat.le_of_ble_eq_true rfl) ?_
  refine r_aload_n (pc' := 1) d74_0 rfl rfl rfl ?_
  refine r_getI (pc' := 4) d74_1 rfl o74 sf10_65_8 ho (plo hN hlt) ?_
  refine r_call (pc' := 7) [vI _] [] d74_4 rfl o74 st10_68 rcv0 rfl (by decide) ⟨rfl, rfl⟩ (Nat.le_of_ble_eq_true rfl) rfl (t_isCell ?_)
  refine r_if_eqB 34 (pc' := 10) d74_7 rfl rfl (fun c7 => ?_) (fun c7 => ?_)
  · refine r_aload_n (pc' := 35) d74_34 rfl rfl rfl ?_
    refine r_call (pc' := 38) [vR (some o)] [] d74_35 rfl o74 st10_118_8 (rcv1 ho (plo hN hlt)) rfl (by decide) ⟨rfl, rfl⟩ (Nat.le_of_ble_eq_true rfl) rfl (t_isServed hN ho hlt ?_)
    refine r_if_neB 46 (pc' := 41) d74_38 rfl rfl (fun c38 => ?_) (fun c38 => ?_)
    · exact r_ret d74_46 rfl (qh (by unfold rsV; rw [if_neg c7, if_pos c38]; exact setw_self h o) k)
    · refine r_aload_n (pc' := 42) d74_41 rfl rfl rfl ?_
      refine r_iconst (v := 1) (pc' := 43) d74_42 rfl (by decide) ?_
      refine r_call (pc' := 46) [vR (some o), vI _] [] d74_43 rfl o74 st10_122_8 (rcv1 ho (plo hN hlt)) rfl (by decide) ⟨rfl, rfl⟩ (Nat.le_of_ble_eq_true rfl) rfl (t_rest hN ho hlt ?_)
      exact r_ret d74_46 rfl (qh (congrArg (setw h o) (by unfold rsV; first | exact if_pos c7 | (rw [if_neg c7]; exact if_neg c38))) k)
  · refine r_aload_n (pc' := 11) d74_10 rfl rfl rfl ?_
    refine r_aload_n (pc' := 12) d74_11 rfl rfl rfl ?_
    refine r_aload_n (pc' := 13) d74_12 rfl rfl rfl ?_
    refine r_getI (pc' := 16) d74_13 rfl o74 sf10_65_8 ho (plo hN hlt) ?_
    refine r_iload_n (pc' := 17) d74_16 rfl rfl rfl ?_
    refine r_call (pc' := 20) [vR (some b), vI _, vI _] [vR (some o)] d74_17 rfl o74 st10_108_10 (rcv1 (shY hb) (plo hN (by omega))) rfl (by decide) ⟨rfl, rfl⟩ (Nat.le_of_ble_eq_true rfl) rfl (y_warmthIn hN hC hb hc ?_)
    refine r_aload_n (pc' := 21) d74_20 rfl rfl rfl ?_
    refine r_aload_n (pc' := 22) d74_21 rfl rfl rfl ?_
    refine r_getI (pc' := 25) d74_22 rfl o74 sf10_65_8 ho (plo hN hlt) ?_
    refine r_call (pc' := 28) [vR (some b), vI _] [vI _, vR (some o)] d74_25 rfl o74 st10_111_10 (rcv1 (shY hb) (plo hN (by omega))) rfl (by decide) ⟨rfl, rfl⟩ (Nat.le_of_ble_eq_true rfl) rfl (y_windIn hN hb ?_)
    refine r_call (pc' := 31) [vR (some o), vI _, vI _] [] d74_28 rfl o74 st10_114_8 (rcv1 ho (plo hN hlt)) rfl (by decide) ⟨rfl, rfl⟩ (Nat.le_of_ble_eq_true rfl) rfl (t_roastBy hN ho hlt hK hq hq6 ?_)
    refine r_goto 46 d74_31 rfl ?_
    exact r_ret d74_46 rfl (qh (congrArg (setw h o) (by unfold rsV; first | exact if_pos c7 | (rw [if_neg c7]; exact if_neg c38))) k)
def fiS (f : Nat → Int32) : Nat → Int32
  | 0 => 0
  | k + 1 => fiS f k + f k
def mxS (f : Nat → Int32) : Nat → Int32
  | 0 => 0
  | k + 1 => if mxS f k < f k then f k else mxS f k
theorem y_fireOfAll {d : Nat} {h : Hp} {Q : Option AV → Hp → Prop} {b m L e : Nat} (hN : hn h = 65) (hC : RC h) (hb : b = 17 ∨ b = 31) (hc : CntY h b m L e) (kk : Q (some (vI (fiS (hi h (b + 2)) L))) h) : Spec d 77 [vR (some b)] h Q := by
  obtain ⟨hc1, hc2, hc3, hc4, hc5, hc6⟩ := id hc
  refine spec_intro (by decide +kernel) rfl (Nat.le_of_ble_eq_true rfl) ?_
  refine r_iconst (v := 0) (pc' := 1) d77_0 rfl (by decide) ?_
  refine r_istore_n (pc' := 2) (ls' := [(1, vI _), (0, vR (some b))]) d77_1 rfl rfl (by decide) rfl ?_
  refine r_iconst (v := 0) (pc' := 3) d77_2 rfl (by decide) ?_
  refine r_istore_n (pc' := 4) (ls' := [(2, vI _), (1, vI _), (0, vR (some b))]) d77_3 rfl rfl (by decide) rfl ?_
  refine wp_pick (ls' := [(0, vR (some b)), (1, vI _), (2, vI _)]) [2, 1, 0] rfl ?_
  have loop : ∀ (r k : Nat), k + r = L → wp d 77 Q 0 0 4 [(0, vR (some b)), (1, vI (fiS (hi h (b + 2)) k)), (2, vI (nI k))] [] h := by
    intro r
    induction r with
    | zero =>
      intro k hk
      obtain rfl : k = L := by omega
      refine r_iload_n (pc' := 5) d77_4 rfl rfl rfl ?_
      refine r_aload_n (pc' := 6) d77_5 rfl rfl rfl ?_
      refine r_getI (pc' := 9) d77_6 rfl o77 sf10_47_10 (shY hb) (plo hN (by omega)) ?_
      refine wp_v hc.2.2.1 ?_
      refine r_icmp_ge 27 (pc' := 12) d77_9 rfl rfl (fun c9 => ?_) (fun c9 => absurd (nI_le (Nat.le_refl _) (by omega)) c9)
      refine r_iload_n (pc' := 28) d77_27 rfl rfl rfl ?_
      exact r_iretI d77_28 rfl kk
    | succ r ih =>
      intro k hk
      refine r_iload_n (pc' := 5) d77_4 rfl rfl rfl ?_
      refine r_aload_n (pc' := 6) d77_5 rfl rfl rfl ?_
      refine r_getI (pc' := 9) d77_6 rfl o77 sf10_47_10 (shY hb) (plo hN (by omega)) ?_
      refine wp_v hc.2.2.1 ?_
      refine r_icmp_ge 27 (pc' := 12) d77_9 rfl rfl (fun c9 => absurd c9 (nI_ge (by omega) (by omega))) (fun c9 => ?_)
      refine r_iload_n (pc' := 13) d77_12 rfl rfl rfl ?_
      refine r_aload_n (pc' := 14) d77_13 rfl rfl rfl ?_
      refine r_getS (pc' := 17) d77_14 rfl o77 sf10_17_10 (shY hb) (plo hN (by omega)) (rY6 hC hb) ?_
      refine r_iload_n (pc' := 18) d77_17 rfl rfl rfl ?_
      refine r_ialdN (pc' := 19) (j := k) d77_18 rfl (shY2 hb) (plo hN (by omega)) rfl (by omega) (by decide) ?_
      refine r_iadd (pc' := 20) d77_19 rfl ?_
      refine r_istore_n (pc' := 21) (ls' := [(1, vI _), (0, vR (some b)), (2, vI _)]) d77_20 rfl rfl (by decide) rfl ?_
      refine r_iinc (v := _ + 1) (pc' := 24) (ls' := [(2, vI _), (1, vI _), (0, vR (some b))]) d77_21 rfl rfl rfl (by decide) rfl ?_
      refine r_goto 4 d77_24 rfl ?_
      refine wp_pick (ls' := [(0, vR (some b)), (1, vI _), (2, vI _)]) [2, 1, 0] rfl ?_
      rw [nI_1]
      exact ih (k + 1) (by omega)
  exact loop L 0 (by omega)
def mfV (y : Nat → Int32) (mo : Int32) : Int32 := if mo = 0 ∨ y 1 ≤ 0 then 0 else (y 3 / y 1 + mo) * y 1 - y 3
theorem y_minutesOfFire {d : Nat} {h : Hp} {Q : Option AV → Hp → Prop} {b m L e : Nat} (hN : hn h = 65) (hC : RC h) (hb : b = 17 ∨ b = 31) (hc : CntY h b m L e) (kk : Q (some (vI (mfV (hi h b) (mxS (hi h (b + 2)) L)))) h) : Spec (d + 1) 78 [vR (some b)] h Q := by
  obtain ⟨hc1, hc2, hc3, hc4, hc5, hc6⟩ := id hc
  refine spec_intro (by decide +kernel) rfl (Nat.le_of_ble_eq_true rfl) ?_
  refine r_iconst (v := 0) (pc' := 1) d78_0 rfl (by decide) ?_
  refine r_istore_n (pc' := 2) (ls' := [(1, vI _), (0, vR (some b))]) d78_1 rfl rfl (by decide) rfl ?_
  refine r_iconst (v := 0) (pc' := 3) d78_2 rfl (by decide) ?_
  refine r_istore_n (pc' := 4) (ls' := [(2, vI _), (1, vI _), (0, vR (some b))]) d78_3 rfl rfl (by decide) rfl ?_
  refine wp_pick (ls' := [(0, vR (some b)), (1, vI _), (2, vI _)]) [2, 1, 0] rfl ?_
  have loop : ∀ (r k : Nat), k + r = L → wp (d + 1) 78 Q 0 0 4 [(0, vR (some b)), (1, vI (mxS (hi h (b + 2)) k)), (2, vI (nI k))] [] h := by
    intro r
    induction r with
    | zero =>
      intro k hk
      obtain rfl : k = L := by omega
      refine r_iload_n (pc' := 5) d78_4 rfl rfl rfl ?_
      refine r_aload_n (pc' := 6) d78_5 rfl rfl rfl ?_
      refine r_getI (pc' := 9) d78_6 rfl o78 sf10_47_10 (shY hb) (plo hN (by omega)) ?_
      refine wp_v hc.2.2.1 ?_
      refine r_icmp_ge 29 (pc' := 12) d78_9 rfl rfl (fun c9 => ?_) (fun c9 => absurd (nI_le (Nat.le_refl _) (by omega)) c9)
      refine r_iload_n (pc' := 30) d78_29 rfl rfl rfl ?_
      refine r_if_eq 40 (pc' := 33) d78_30 rfl rfl (fun c30 => ?_) (fun c30 => ?_)
      · refine r_iconst (v := 0) (pc' := 41) d78_40 rfl (by decide) ?_
        refine r_goto 65 d78_41 rfl ?_
        exact r_iretI d78_65 rfl (qv (by unfold mfV; first | exact if_pos (Or.inl c30) | exact if_pos (Or.inr (Int32.not_lt.mp c37)) | exact if_neg (fun z => z.elim c30 (Int32.not_le.mpr c37))) kk)
      · refine r_aload_n (pc' := 34) d78_33 rfl rfl rfl ?_
        refine r_getI (pc' := 37) d78_34 rfl o78 sf10_85_10 (shY hb) (plo hN (by omega)) ?_
        refine r_if_gt 44 (pc' := 40) d78_37 rfl rfl (fun c37 => ?_) (fun c37 => ?_)
        · refine r_aload_n (pc' := 45) d78_44 rfl rfl rfl ?_
          refine r_getI (pc' := 48) d78_45 rfl o78 sf10_43_10 (shY hb) (plo hN (by omega)) ?_
          refine r_aload_n (pc' := 49) d78_48 rfl rfl rfl ?_
          refine r_getI (pc' := 52) d78_49 rfl o78 sf10_85_10 (shY hb) (plo hN (by omega)) ?_
          refine r_idiv (pc' := 53) d78_52 rfl (fun z => by rw [z] at c37; exact absurd c37 (by decide)) ?_
          refine r_iload_n (pc' := 54) d78_53 rfl rfl rfl ?_
          refine r_iadd (pc' := 55) d78_54 rfl ?_
          refine r_aload_n (pc' := 56) d78_55 rfl rfl rfl ?_
          refine r_getI (pc' := 59) d78_56 rfl o78 sf10_85_10 (shY hb) (plo hN (by omega)) ?_
          refine r_imul (pc' := 60) d78_59 rfl ?_
          refine r_aload_n (pc' := 61) d78_60 rfl rfl rfl ?_
          refine r_getI (pc' := 64) d78_61 rfl o78 sf10_43_10 (shY hb) (plo hN (by omega)) ?_
          refine r_isub (pc' := 65) d78_64 rfl ?_
          exact r_iretI d78_65 rfl (qv (by unfold mfV; first | exact if_pos (Or.inl c30) | exact if_pos (Or.inr (Int32.not_lt.mp c37)) | exact if_neg (fun z => z.elim c30 (Int32.not_le.mpr c37))) kk)
        · refine r_iconst (v := 0) (pc' := 41) d78_40 rfl (by decide) ?_
          refine r_goto 65 d78_41 rfl ?_
          exact r_iretI d78_65 rfl (qv (by unfold mfV; first | exact if_pos (Or.inl c30) | exact if_pos (Or.inr (Int32.not_lt.mp c37)) | exact if_neg (fun z => z.elim c30 (Int32.not_le.mpr c37))) kk)
    | succ r ih =>
      intro k hk
      refine r_iload_n (pc' := 5) d78_4 rfl rfl rfl ?_
      refine r_aload_n (pc' := 6) d78_5 rfl rfl rfl ?_
      refine r_getI (pc' := 9) d78_6 rfl o78 sf10_47_10 (shY hb) (plo hN (by omega)) ?_
      refine wp_v hc.2.2.1 ?_
      refine r_icmp_ge 29 (pc' := 12) d78_9 rfl rfl (fun c9 => absurd c9 (nI_ge (by omega) (by omega))) (fun c9 => ?_)
      refine r_iload_n (pc' := 13) d78_12 rfl rfl rfl ?_
      refine r_aload_n (pc' := 14) d78_13 rfl rfl rfl ?_
      refine r_getS (pc' := 17) d78_14 rfl o78 sf10_17_10 (shY hb) (plo hN (by omega)) (rY6 hC hb) ?_
      refine r_iload_n (pc' := 18) d78_17 rfl rfl rfl ?_
      refine r_ialdN (pc' := 19) (j := k) d78_18 rfl (shY2 hb) (plo hN (by omega)) rfl (by omega) (by decide) ?_
      refine r_max (pc' := 22) d78_19 rfl o78 st10_92 jm_max2 jm_i jm_max4 (Nat.le_of_ble_eq_true rfl) ?_
      refine r_istore_n (pc' := 23) (ls' := [(1, vI _), (0, vR (some b)), (2, vI _)]) d78_22 rfl rfl (by decide) rfl ?_
      refine r_iinc (v := _ + 1) (pc' := 26) (ls' := [(2, vI _), (1, vI _), (0, vR (some b))]) d78_23 rfl rfl rfl (by decide) rfl ?_
      refine r_goto 4 d78_26 rfl ?_
      refine wp_pick (ls' := [(0, vR (some b)), (1, vI _), (2, vI _)]) [2, 1, 0] rfl ?_
      rw [nI_1]
      exact ih (k + 1) (by omega)
  exact loop L 0 (by omega)
def sdS (f : Nat → Int32) : Nat → Int32
  | 0 => 0
  | k + 1 => sdS f k + bI (f k = 13)
theorem y_servedCount {d : Nat} {h : Hp} {Q : Option AV → Hp → Prop} {b m L e : Nat} (hN : hn h = 65) (hC : RC h) (hb : b = 17 ∨ b = 31) (hc : CntY h b m L e) (kk : Q (some (vI (sdS (plF h b) m))) h) : Spec (d + 1) 79 [vR (some b)] h Q := by
  obtain ⟨hc1, hc2, hc3, hc4, hc5, hc6⟩ := id hc
  refine spec_intro (by decide +kernel) rfl (Nat.le_of_ble_eq_true rfl) ?_
  refine r_iconst (v := 0) (pc' := 1) d79_0 rfl (by decide) ?_
  refine r_istore_n (pc' := 2) (ls' := [(1, vI _), (0, vR (some b))]) d79_1 rfl rfl (by decide) rfl ?_
  refine r_iconst (v := 0) (pc' := 3) d79_2 rfl (by decide) ?_
  refine r_istore_n (pc' := 4) (ls' := [(2, vI _), (1, vI _), (0, vR (some b))]) d79_3 rfl rfl (by decide) rfl ?_
  refine wp_pick (ls' := [(0, vR (some b)), (1, vI _), (2, vI _)]) [2, 1, 0] rfl ?_
  have loop : ∀ (r k : Nat), k + r = m → wp (d + 1) 79 Q 0 0 4 [(0, vR (some b)), (1, vI (sdS (plF h b) k)), (2, vI (nI k))] [] h := by
    intro r
    induction r with
    | zero =>
      intro k hk
      obtain rfl : k = m := by omega
      refine r_iload_n (pc' := 5) d79_4 rfl rfl rfl ?_
      refine r_aload_n (pc' := 6) d79_5 rfl rfl rfl ?_
      refine r_getI (pc' := 9) d79_6 rfl o79 sf10_50_10 (shY hb) (plo hN (by omega)) ?_
      refine wp_v hc.1 ?_
      refine r_icmp_ge 33 (pc' := 12) d79_9 rfl rfl (fun c9 => ?_) (fun c9 => absurd (nI_le (Nat.le_refl _) (by omega)) c9)
      refine r_iload_n (pc' := 34) d79_33 rfl rfl rfl ?_
      exact r_iretI d79_34 rfl kk
    | succ r ih =>
      intro k hk
      refine r_iload_n (pc' := 5) d79_4 rfl rfl rfl ?_
      refine r_aload_n (pc' := 6) d79_5 rfl rfl rfl ?_
      refine r_getI (pc' := 9) d79_6 rfl o79 sf10_50_10 (shY hb) (plo hN (by omega)) ?_
      refine wp_v hc.1 ?_
      refine r_icmp_ge 33 (pc' := 12) d79_9 rfl rfl (fun c9 => absurd c9 (nI_ge (by omega) (by omega))) (fun c9 => ?_)
      refine r_iload_n (pc' := 13) d79_12 rfl rfl rfl ?_
      refine r_aload_n (pc' := 14) d79_13 rfl rfl rfl ?_
      refine r_getS (pc' := 17) d79_14 rfl o79 sf10_23_10 (shY hb) (plo hN (by omega)) (rY9 hC hb) ?_
      refine r_iload_n (pc' := 18) d79_17 rfl rfl rfl ?_
      refine r_aaldTN (pc' := 19) (j := k) d79_18 rfl (shY4 hb) (plo hN (by omega)) rfl (by omega) (by decide) (rYt hC hb (by omega)) ?_
      refine r_call (pc' := 22) [vR (some (b + 8 + k))] [vI _] d79_19 rfl o79 st10_118_8 (rcv1 (shT hb (by omega)) (plo hN (by omega))) rfl (by decide) ⟨rfl, rfl⟩ (Nat.le_of_ble_eq_true rfl) rfl (t_isServed hN (shT hb (by omega)) (by omega) ?_)
      refine r_call (pc' := 25) [vI _] [vI _] d79_22 rfl o79 st10_134 rcv0 rfl (by decide) ⟨rfl, rfl⟩ (Nat.le_of_ble_eq_true rfl) rfl (t_asBitB ?_)
      refine r_iadd (pc' := 26) d79_25 rfl ?_
      refine r_istore_n (pc' := 27) (ls' := [(1, vI _), (0, vR (some b)), (2, vI _)]) d79_26 rfl rfl (by decide) rfl ?_
      refine r_iinc (v := _ + 1) (pc' := 30) (ls' := [(2, vI _), (1, vI _), (0, vR (some b))]) d79_27 rfl rfl rfl (by decide) rfl ?_
      refine r_goto 4 d79_30 rfl ?_
      refine wp_pick (ls' := [(0, vR (some b)), (1, vI _), (2, vI _)]) [2, 1, 0] rfl ?_
      rw [nI_1]
      exact ih (k + 1) (by omega)
  exact loop m 0 (by omega)
abbrev buC (h : Hp) (b k : Nat) : Prop := ¬ hi h (b + 8 + k) 7 = 0 ∧ ¬ hi h (b + 8 + k) 2 = 13
abbrev doC (h : Hp) (b k : Nat) : Prop := (ndK (kq h (b + 8 + k)) ≤ hi h (b + 8 + k) 3 ∧ hi h (b + 8 + k) 7 = 0) ∧ ¬ hi h (b + 8 + k) 2 = 13
def buS (h : Hp) (b : Nat) : Nat → Int32
  | 0 => 0
  | k + 1 => buS h b k ||| (bI (buC h b k) <<< (nI k &&& 31))
def doS (h : Hp) (b : Nat) : Nat → Int32
  | 0 => 0
  | k + 1 => doS h b k ||| (bI (doC h b k) <<< (nI k &&& 31))
theorem y_burntOnes {d : Nat} {h : Hp} {Q : Option AV → Hp → Prop} {b m L e : Nat} (hN : hn h = 65) (hC : RC h) (hb : b = 17 ∨ b = 31) (hc : CntY h b m L e) (hK : KC h) (hT : KT h b) (kk : Q (some (vI (buS h b m))) h) : Spec (d + 2) 81 [vR (some b)] h Q := by
  obtain ⟨hc1, hc2, hc3, hc4, hc5, hc6⟩ := id hc
  refine spec_intro (by decide +kernel) rfl (Nat.le_of_ble_eq_true rfl) ?_
  refine r_iconst (v := 0) (pc' := 1) d81_0 rfl (by decide) ?_
  refine r_istore_n (pc' := 2) (ls' := [(1, vI _), (0, vR (some b))]) d81_1 rfl rfl (by decide) rfl ?_
  refine r_iconst (v := 0) (pc' := 3) d81_2 rfl (by decide) ?_
  refine r_istore_n (pc' := 4) (ls' := [(2, vI _), (1, vI _), (0, vR (some b))]) d81_3 rfl rfl (by decide) rfl ?_
  refine wp_pick (ls' := [(0, vR (some b)), (1, vI _), (2, vI _)]) [2, 1, 0] rfl ?_
  have loop : ∀ (r k : Nat), k + r = m → wp (d + 2) 81 Q 0 0 4 [(0, vR (some b)), (1, vI (buS h b k)), (2, vI (nI k))] [] h := by
    intro r
    induction r with
    | zero =>
      intro k hk
      obtain rfl : k = m := by omega
      refine r_iload_n (pc' := 5) d81_4 rfl rfl rfl ?_
      refine r_aload_n (pc' := 6) d81_5 rfl rfl rfl ?_
      refine r_getI (pc' := 9) d81_6 rfl o81 sf10_50_10 (shY hb) (plo hN (by omega)) ?_
      refine wp_v hc.1 ?_
      refine r_icmp_ge 55 (pc' := 12) d81_9 rfl rfl (fun c9 => ?_) (fun c9 => absurd (nI_le (Nat.le_refl _) (by omega)) c9)
      refine r_iload_n (pc' := 56) d81_55 rfl rfl rfl ?_
      exact r_iretI d81_56 rfl kk
    | succ r ih =>
      intro k hk
      refine r_iload_n (pc' := 5) d81_4 rfl rfl rfl ?_
      refine r_aload_n (pc' := 6) d81_5 rfl rfl rfl ?_
      refine r_getI (pc' := 9) d81_6 rfl o81 sf10_50_10 (shY hb) (plo hN (by omega)) ?_
      refine wp_v hc.1 ?_
      refine r_icmp_ge 55 (pc' := 12) d81_9 rfl rfl (fun c9 => absurd c9 (nI_ge (by omega) (by omega))) (fun c9 => ?_)
      refine r_iload_n (pc' := 13) d81_12 rfl rfl rfl ?_
      refine r_aload_n (pc' := 14) d81_13 rfl rfl rfl ?_
      refine r_getS (pc' := 17) d81_14 rfl o81 sf10_23_10 (shY hb) (plo hN (by omega)) (rY9 hC hb) ?_
      refine r_iload_n (pc' := 18) d81_17 rfl rfl rfl ?_
      refine r_aaldTN (pc' := 19) (j := k) d81_18 rfl (shY4 hb) (plo hN (by omega)) rfl (by omega) (by decide) (rYt hC hb (by omega)) ?_
      refine r_getI (pc' := 22) d81_19 rfl o81 sf10_138_8 (shT hb (by omega)) (plo hN (by omega)) ?_
      refine r_if_eq 41 (pc' := 25) d81_22 rfl rfl (fun c22 => ?_) (fun c22 => ?_)
      · refine r_iconst (v := 0) (pc' := 42) d81_41 rfl (by decide) ?_
        refine r_call (pc' := 45) [vI _] [vI _] d81_42 rfl o81 st10_134 rcv0 rfl (by decide) ⟨rfl, rfl⟩ (Nat.le_of_ble_eq_true rfl) rfl (t_asBit ?_)
        refine r_iload_n (pc' := 46) d81_45 rfl rfl rfl ?_
        refine r_ishl (pc' := 47) d81_46 rfl ?_
        refine r_ior (pc' := 48) d81_47 rfl ?_
        refine r_istore_n (pc' := 49) (ls' := [(1, vI _), (0, vR (some b)), (2, vI _)]) d81_48 rfl rfl (by decide) rfl ?_
        refine r_iinc (v := _ + 1) (pc' := 52) (ls' := [(2, vI _), (1, vI _), (0, vR (some b))]) d81_49 rfl rfl rfl (by decide) rfl ?_
        refine r_goto 4 d81_52 rfl ?_
        refine wp_pick (ls' := [(0, vR (some b)), (1, vI _), (2, vI _)]) [2, 1, 0] rfl ?_
        rw [nI_1]
        have w := ih (k + 1) (by omega)
        rw [buS, b0 (fun z => z.1 c22)] at w
        exact w
      · refine r_aload_n (pc' := 26) d81_25 rfl rfl rfl ?_
        refine r_getS (pc' := 29) d81_26 rfl o81 sf10_23_10 (shY hb) (plo hN (by omega)) (rY9 hC hb) ?_
        refine r_iload_n (pc' := 30) d81_29 rfl rfl rfl ?_
        refine r_aaldTN (pc' := 31) (j := k) d81_30 rfl (shY4 hb) (plo hN (by omega)) rfl (by omega) (by decide) (rYt hC hb (by omega)) ?_
        refine r_call (pc' := 34) [vR (some (b + 8 + k))] [vI _] d81_31 rfl o81 st10_118_8 (rcv1 (shT hb (by omega)) (plo hN (by omega))) rfl (by decide) ⟨rfl, rfl⟩ (Nat.le_of_ble_eq_true rfl) rfl (t_isServed hN (shT hb (by omega)) (by omega) ?_)
        refine r_if_neB 41 (pc' := 37) d81_34 rfl rfl (fun c34 => ?_) (fun c34 => ?_)
        · refine r_iconst (v := 0) (pc' := 42) d81_41 rfl (by decide) ?_
          refine r_call (pc' := 45) [vI _] [vI _] d81_42 rfl o81 st10_134 rcv0 rfl (by decide) ⟨rfl, rfl⟩ (Nat.le_of_ble_eq_true rfl) rfl (t_asBit ?_)
          refine r_iload_n (pc' := 46) d81_45 rfl rfl rfl ?_
          refine r_ishl (pc' := 47) d81_46 rfl ?_
          refine r_ior (pc' := 48) d81_47 rfl ?_
          refine r_istore_n (pc' := 49) (ls' := [(1, vI _), (0, vR (some b)), (2, vI _)]) d81_48 rfl rfl (by decide) rfl ?_
          refine r_iinc (v := _ + 1) (pc' := 52) (ls' := [(2, vI _), (1, vI _), (0, vR (some b))]) d81_49 rfl rfl rfl (by decide) rfl ?_
          refine r_goto 4 d81_52 rfl ?_
          refine wp_pick (ls' := [(0, vR (some b)), (1, vI _), (2, vI _)]) [2, 1, 0] rfl ?_
          rw [nI_1]
          have w := ih (k + 1) (by omega)
          rw [buS, b0 (fun z => z.2 c34)] at w
          exact w
        · refine r_iconst (v := 1) (pc' := 38) d81_37 rfl (by decide) ?_
          refine r_goto 42 d81_38 rfl ?_
          refine r_call (pc' := 45) [vI _] [vI _] d81_42 rfl o81 st10_134 rcv0 rfl (by decide) ⟨rfl, rfl⟩ (Nat.le_of_ble_eq_true rfl) rfl (t_asBit ?_)
          refine r_iload_n (pc' := 46) d81_45 rfl rfl rfl ?_
          refine r_ishl (pc' := 47) d81_46 rfl ?_
          refine r_ior (pc' := 48) d81_47 rfl ?_
          refine r_istore_n (pc' := 49) (ls' := [(1, vI _), (0, vR (some b)), (2, vI _)]) d81_48 rfl rfl (by decide) rfl ?_
          refine r_iinc (v := _ + 1) (pc' := 52) (ls' := [(2, vI _), (1, vI _), (0, vR (some b))]) d81_49 rfl rfl rfl (by decide) rfl ?_
          refine r_goto 4 d81_52 rfl ?_
          refine wp_pick (ls' := [(0, vR (some b)), (1, vI _), (2, vI _)]) [2, 1, 0] rfl ?_
          rw [nI_1]
          have w := ih (k + 1) (by omega)
          rw [buS, b1 ⟨c22, c34⟩] at w
          exact w
  exact loop m 0 (by omega)
theorem y_doneOnes {d : Nat} {h : Hp} {Q : Option AV → Hp → Prop} {b m L e : Nat} (hN : hn h = 65) (hC : RC h) (hb : b = 17 ∨ b = 31) (hc : CntY h b m L e) (hK : KC h) (hT : KT h b) (kk : Q (some (vI (doS h b m))) h) : Spec (d + 2) 82 [vR (some b)] h Q := by
  obtain ⟨hc1, hc2, hc3, hc4, hc5, hc6⟩ := id hc
  refine spec_intro (by decide +kernel) rfl (Nat.le_of_ble_eq_true rfl) ?_
  refine r_iconst (v := 0) (pc' := 1) d82_0 rfl (by decide) ?_
  refine r_istore_n (pc' := 2) (ls' := [(1, vI _), (0, vR (some b))]) d82_1 rfl rfl (by decide) rfl ?_
  refine r_iconst (v := 0) (pc' := 3) d82_2 rfl (by decide) ?_
  refine r_istore_n (pc' := 4) (ls' := [(2, vI _), (1, vI _), (0, vR (some b))]) d82_3 rfl rfl (by decide) rfl ?_
  refine wp_pick (ls' := [(0, vR (some b)), (1, vI _), (2, vI _)]) [2, 1, 0] rfl ?_
  have loop : ∀ (r k : Nat), k + r = m → wp (d + 2) 82 Q 0 0 4 [(0, vR (some b)), (1, vI (doS h b k)), (2, vI (nI k))] [] h := by
    intro r
    induction r with
    | zero =>
      intro k hk
      obtain rfl : k = m := by omega
      refine r_iload_n (pc' := 5) d82_4 rfl rfl rfl ?_
      refine r_aload_n (pc' := 6) d82_5 rfl rfl rfl ?_
      refine r_getI (pc' := 9) d82_6 rfl o82 sf10_50_10 (shY hb) (plo hN (by omega)) ?_
      refine wp_v hc.1 ?_
      refine r_icmp_ge 55 (pc' := 12) d82_9 rfl rfl (fun c9 => ?_) (fun c9 => absurd (nI_le (Nat.le_refl _) (by omega)) c9)
      refine r_iload_n (pc' := 56) d82_55 rfl rfl rfl ?_
      exact r_iretI d82_56 rfl kk
    | succ r ih =>
      intro k hk
      refine r_iload_n (pc' := 5) d82_4 rfl rfl rfl ?_
      refine r_aload_n (pc' := 6) d82_5 rfl rfl rfl ?_
      refine r_getI (pc' := 9) d82_6 rfl o82 sf10_50_10 (shY hb) (plo hN (by omega)) ?_
      refine wp_v hc.1 ?_
      refine r_icmp_ge 55 (pc' := 12) d82_9 rfl rfl (fun c9 => absurd c9 (nI_ge (by omega) (by omega))) (fun c9 => ?_)
      refine r_iload_n (pc' := 13) d82_12 rfl rfl rfl ?_
      refine r_aload_n (pc' := 14) d82_13 rfl rfl rfl ?_
      refine r_getS (pc' := 17) d82_14 rfl o82 sf10_23_10 (shY hb) (plo hN (by omega)) (rY9 hC hb) ?_
      refine r_iload_n (pc' := 18) d82_17 rfl rfl rfl ?_
      refine r_aaldTN (pc' := 19) (j := k) d82_18 rfl (shY4 hb) (plo hN (by omega)) rfl (by omega) (by decide) (rYt hC hb (by omega)) ?_
      refine r_call (pc' := 22) [vR (some (b + 8 + k))] [vI _] d82_19 rfl o82 st10_145_8 (rcv1 (shT hb (by omega)) (plo hN (by omega))) rfl (by decide) ⟨rfl, rfl⟩ (Nat.le_of_ble_eq_true rfl) rfl (t_isDone hN (shT hb (by omega)) (by omega) hK (hT k (by omega)).1 (hT k (by omega)).2 ?_)
      refine r_if_eqB 41 (pc' := 25) d82_22 rfl rfl (fun c22 => ?_) (fun c22 => ?_)
      · refine r_iconst (v := 0) (pc' := 42) d82_41 rfl (by decide) ?_
        refine r_call (pc' := 45) [vI _] [vI _] d82_42 rfl o82 st10_134 rcv0 rfl (by decide) ⟨rfl, rfl⟩ (Nat.le_of_ble_eq_true rfl) rfl (t_asBit ?_)
        refine r_iload_n (pc' := 46) d82_45 rfl rfl rfl ?_
        refine r_ishl (pc' := 47) d82_46 rfl ?_
        refine r_ior (pc' := 48) d82_47 rfl ?_
        refine r_istore_n (pc' := 49) (ls' := [(1, vI _), (0, vR (some b)), (2, vI _)]) d82_48 rfl rfl (by decide) rfl ?_
        refine r_iinc (v := _ + 1) (pc' := 52) (ls' := [(2, vI _), (1, vI _), (0, vR (some b))]) d82_49 rfl rfl rfl (by decide) rfl ?_
        refine r_goto 4 d82_52 rfl ?_
        refine wp_pick (ls' := [(0, vR (some b)), (1, vI _), (2, vI _)]) [2, 1, 0] rfl ?_
        rw [nI_1]
        have w := ih (k + 1) (by omega)
        rw [doS, b0 (fun z => c22 z.1)] at w
        exact w
      · refine r_aload_n (pc' := 26) d82_25 rfl rfl rfl ?_
        refine r_getS (pc' := 29) d82_26 rfl o82 sf10_23_10 (shY hb) (plo hN (by omega)) (rY9 hC hb) ?_
        refine r_iload_n (pc' := 30) d82_29 rfl rfl rfl ?_
        refine r_aaldTN (pc' := 31) (j := k) d82_30 rfl (shY4 hb) (plo hN (by omega)) rfl (by omega) (by decide) (rYt hC hb (by omega)) ?_
        refine r_call (pc' := 34) [vR (some (b + 8 + k))] [vI _] d82_31 rfl o82 st10_118_8 (rcv1 (shT hb (by omega)) (plo hN (by omega))) rfl (by decide) ⟨rfl, rfl⟩ (Nat.le_of_ble_eq_true rfl) rfl (t_isServed hN (shT hb (by omega)) (by omega) ?_)
        refine r_if_neB 41 (pc' := 37) d82_34 rfl rfl (fun c34 => ?_) (fun c34 => ?_)
        · refine r_iconst (v := 0) (pc' := 42) d82_41 rfl (by decide) ?_
          refine r_call (pc' := 45) [vI _] [vI _] d82_42 rfl o82 st10_134 rcv0 rfl (by decide) ⟨rfl, rfl⟩ (Nat.le_of_ble_eq_true rfl) rfl (t_asBit ?_)
          refine r_iload_n (pc' := 46) d82_45 rfl rfl rfl ?_
          refine r_ishl (pc' := 47) d82_46 rfl ?_
          refine r_ior (pc' := 48) d82_47 rfl ?_
          refine r_istore_n (pc' := 49) (ls' := [(1, vI _), (0, vR (some b)), (2, vI _)]) d82_48 rfl rfl (by decide) rfl ?_
          refine r_iinc (v := _ + 1) (pc' := 52) (ls' := [(2, vI _), (1, vI _), (0, vR (some b))]) d82_49 rfl rfl rfl (by decide) rfl ?_
          refine r_goto 4 d82_52 rfl ?_
          refine wp_pick (ls' := [(0, vR (some b)), (1, vI _), (2, vI _)]) [2, 1, 0] rfl ?_
          rw [nI_1]
          have w := ih (k + 1) (by omega)
          rw [doS, b0 (fun z => z.2 c34)] at w
          exact w
        · refine r_iconst (v := 1) (pc' := 38) d82_37 rfl (by decide) ?_
          refine r_goto 42 d82_38 rfl ?_
          refine r_call (pc' := 45) [vI _] [vI _] d82_42 rfl o82 st10_134 rcv0 rfl (by decide) ⟨rfl, rfl⟩ (Nat.le_of_ble_eq_true rfl) rfl (t_asBit ?_)
          refine r_iload_n (pc' := 46) d82_45 rfl rfl rfl ?_
          refine r_ishl (pc' := 47) d82_46 rfl ?_
          refine r_ior (pc' := 48) d82_47 rfl ?_
          refine r_istore_n (pc' := 49) (ls' := [(1, vI _), (0, vR (some b)), (2, vI _)]) d82_48 rfl rfl (by decide) rfl ?_
          refine r_iinc (v := _ + 1) (pc' := 52) (ls' := [(2, vI _), (1, vI _), (0, vR (some b))]) d82_49 rfl rfl rfl (by decide) rfl ?_
          refine r_goto 4 d82_52 rfl ?_
          refine wp_pick (ls' := [(0, vR (some b)), (1, vI _), (2, vI _)]) [2, 1, 0] rfl ?_
          rw [nI_1]
          have w := ih (k + 1) (by omega)
          rw [doS, b1 ⟨c22, c34⟩] at w
          exact w
  exact loop m 0 (by omega)
