/-! the class: what is asked (printed by wip/whole/m59.py) -/
def cThQ (h : Hp) (o w : Nat) : Int32 := if w = 0 then (if hi h o 2 = 13 then -1000000 else hi h o 2) else if w = 1 then hi h o 3 else if w = 2 then (if 0 = hi h o 6 then hi h o 4 else hi h o 5) else if w = 3 then (if 1 = hi h o 6 then hi h o 4 else hi h o 5) else if w = 4 then hi h o 6 else if w = 5 then (if hi h o 7 = 0 then 0 else 1) else bI (ndK (kq h o) ≤ hi h o 3)
theorem C_thing {d : Nat} {h : Hp} {Q : Option AV → Hp → Prop} {b m L e : Nat} {t what : Int32} (g : GI h b m L e) (hb : b = 17 ∨ b = 31) (kB : (¬ inR t m ∨ ¬ (0 ≤ what ∧ what ≤ 6)) → Q (some (vI (-1000001))) h)
    (kW : ∀ j : Nat, j < m → t = nI j → ∀ w : Nat, w ≤ 6 → what = nI w → Q (some (vI (cThQ h (b + 8 + j) w))) h) : Spec (d + 2) 104 [vR (some 0), vI t, vI what] h Q := by
  obtain ⟨hN, hC, h5, hc, hK, hT⟩ := id g
  obtain ⟨hc1, hc2, hc3, hc4, hc5, hc6⟩ := id hc
  refine spec_intro (by decide +kernel) rfl (Nat.le_of_ble_eq_true rfl) ?_
  refine r_aload_n (pc' := 1) d104_0 rfl rfl rfl ?_
  refine r_getS (pc' := 4) d104_1 rfl o104 sf11_52_11 sh0 (pl hN rfl) h5 ?_
  refine r_iload_n (pc' := 5) d104_4 rfl rfl rfl ?_
  refine r_call (pc' := 8) [vR (some b), vI _] [] d104_5 rfl o104 st11_177_10 (rcv1 (shY hb) (plo hN (by omega))) rfl (by decide) ⟨rfl, rfl⟩ (Nat.le_of_ble_eq_true rfl) rfl (y_thingAt hN hC hb hc (fun hbad => ?_) (fun j hj0 hj => ?_))
  · refine r_astore_nN (pc' := 9) (ls' := [(3, vR none), (0, vR (some 0)), (1, vI _), (2, vI _)]) d104_8 rfl rfl (by decide) rfl ?_
    refine r_aload_nN (pc' := 10) d104_9 rfl rfl rfl ?_
    refine r_nonN 16 (pc' := 13) d104_10 rfl rfl ?_
    refine r_ldc (pc' := 15) d104_13 rfl o104 kc11_100 ?_
    exact r_iretI d104_15 rfl (kB (Or.inl hbad))
  · refine r_astore_n (pc' := 9) (ls' := [(3, vR (some (b + 8 + j))), (0, vR (some 0)), (1, vI _), (2, vI _)]) d104_8 rfl rfl (by decide) rfl ?_
    refine r_aload_n (pc' := 10) d104_9 rfl rfl rfl ?_
    refine r_nonS 16 (pc' := 13) d104_10 rfl rfl ?_
    refine r_iload_n (pc' := 17) d104_16 rfl rfl rfl ?_
    by_cases hw : 0 ≤ what ∧ what ≤ 6
    · obtain ⟨w, hw8, rfl⟩ := nat2 (n := 6) hw (by decide)
      rcases (show w = 0 ∨ w = 1 ∨ w = 2 ∨ w = 3 ∨ w = 4 ∨ w = 5 ∨ w = 6 by omega) with rfl | rfl | rfl | rfl | rfl | rfl | rfl
      · refine r_tableIn (off := 43) 60 d104_17 (by decide) (by decide) (by decide) rfl ?_
        refine r_aload_n (pc' := 61) d104_60 rfl rfl rfl ?_
        refine r_call (pc' := 64) [vR (some (b + 8 + j))] [] d104_61 rfl o104 st11_181_8 (rcv1 (shT hb (by omega)) (plo hN (by omega))) rfl (by decide) ⟨rfl, rfl⟩ (Nat.le_of_ble_eq_true rfl) rfl (t_isServed hN (shT hb (by omega)) (by omega) ?_)
        refine r_if_eqB 72 (pc' := 67) d104_64 rfl rfl (fun c64 => ?_) (fun c64 => ?_)
        · refine r_aload_n (pc' := 73) d104_72 rfl rfl rfl ?_
          refine r_getI (pc' := 76) d104_73 rfl o104 sf11_195_8 (shT hb (by omega)) (plo hN (by omega)) ?_
          exact r_iretI d104_76 rfl (qv (by unfold cThQ; rw [if_pos rfl]; simp only [c64, if_true, if_false]) (kW j hj0 hj 0 (by decide) rfl))
        · refine r_ldc (pc' := 69) d104_67 rfl o104 kc11_243 ?_
          refine r_goto 76 d104_69 rfl ?_
          exact r_iretI d104_76 rfl (qv (by unfold cThQ; rw [if_pos rfl]; simp only [c64, if_true, if_false]) (kW j hj0 hj 0 (by decide) rfl))
      · refine r_tableIn (off := 60) 77 d104_17 (by decide) (by decide) (by decide) rfl ?_
        refine r_aload_n (pc' := 78) d104_77 rfl rfl rfl ?_
        refine r_getI (pc' := 81) d104_78 rfl o104 sf11_244_8 (shT hb (by omega)) (plo hN (by omega)) ?_
        exact r_iretI d104_81 rfl (kW j hj0 hj 1 (by decide) rfl)
      · refine r_tableIn (off := 65) 82 d104_17 (by decide) (by decide) (by decide) rfl ?_
        refine r_aload_n (pc' := 83) d104_82 rfl rfl rfl ?_
        refine r_iconst (v := 0) (pc' := 84) d104_83 rfl (by decide) ?_
        refine r_call (pc' := 87) [vR (some (b + 8 + j)), vI _] [] d104_84 rfl o104 st11_247_8 (rcv1 (shT hb (by omega)) (plo hN (by omega))) rfl (by decide) ⟨rfl, rfl⟩ (Nat.le_of_ble_eq_true rfl) rfl (t_skinOf hN (shT hb (by omega)) (by omega) ?_)
        exact r_iretI d104_87 rfl (kW j hj0 hj 2 (by decide) rfl)
      · refine r_tableIn (off := 71) 88 d104_17 (by decide) (by decide) (by decide) rfl ?_
        refine r_aload_n (pc' := 89) d104_88 rfl rfl rfl ?_
        refine r_iconst (v := 1) (pc' := 90) d104_89 rfl (by decide) ?_
        refine r_call (pc' := 93) [vR (some (b + 8 + j)), vI _] [] d104_90 rfl o104 st11_247_8 (rcv1 (shT hb (by omega)) (plo hN (by omega))) rfl (by decide) ⟨rfl, rfl⟩ (Nat.le_of_ble_eq_true rfl) rfl (t_skinOf hN (shT hb (by omega)) (by omega) ?_)
        exact r_iretI d104_93 rfl (kW j hj0 hj 3 (by decide) rfl)
      · refine r_tableIn (off := 77) 94 d104_17 (by decide) (by decide) (by decide) rfl ?_
        refine r_aload_n (pc' := 95) d104_94 rfl rfl rfl ?_
        refine r_getI (pc' := 98) d104_95 rfl o104 sf11_188_8 (shT hb (by omega)) (plo hN (by omega)) ?_
        exact r_iretI d104_98 rfl (kW j hj0 hj 4 (by decide) rfl)
      · refine r_tableIn (off := 82) 99 d104_17 (by decide) (by decide) (by decide) rfl ?_
        refine r_aload_n (pc' := 100) d104_99 rfl rfl rfl ?_
        refine r_getI (pc' := 103) d104_100 rfl o104 sf11_250_8 (shT hb (by omega)) (plo hN (by omega)) ?_
        refine r_call (pc' := 106) [vI _] [] d104_103 rfl o104 st11_253 rcv0 rfl (by decide) ⟨rfl, rfl⟩ (Nat.le_of_ble_eq_true rfl) rfl (t_asBit ?_)
        exact r_iretI d104_106 rfl (kW j hj0 hj 5 (by decide) rfl)
      · refine r_tableIn (off := 90) 107 d104_17 (by decide) (by decide) (by decide) rfl ?_
        refine r_aload_n (pc' := 108) d104_107 rfl rfl rfl ?_
        refine r_call (pc' := 111) [vR (some (b + 8 + j))] [] d104_108 rfl o104 st11_257_8 (rcv1 (shT hb (by omega)) (plo hN (by omega))) rfl (by decide) ⟨rfl, rfl⟩ (Nat.le_of_ble_eq_true rfl) rfl (t_isThrough hN (shT hb (by omega)) (by omega) hK (hT j (by omega)).1 (hT j (by omega)).2 ?_)
        refine r_call (pc' := 114) [vI _] [] d104_111 rfl o104 st11_253 rcv0 rfl (by decide) ⟨rfl, rfl⟩ (Nat.le_of_ble_eq_true rfl) rfl (t_asBitB ?_)
        exact r_iretI d104_114 rfl (kW j hj0 hj 6 (by decide) rfl)
    · refine r_tableOut 115 d104_17 (by simp only [Int32.le_iff_toInt_le] at hw; rw [show (0 : Int32).toInt = 0 from rfl, show (6 : Int32).toInt = 6 from rfl] at hw; omega) rfl ?_
      refine r_ldc (pc' := 117) d104_115 rfl o104 kc11_100 ?_
      exact r_iretI d104_117 rfl (kB (Or.inr hw))
theorem C_eater {d : Nat} {h : Hp} {Q : Option AV → Hp → Prop} {b m L e : Nat} {t what : Int32} (g : GI h b m L e) (hb : b = 17 ∨ b = 31) (kB : (¬ inR t e ∨ ¬ (0 ≤ what ∧ what ≤ 2)) → Q (some (vI (-1000001))) h)
    (kW : ∀ j : Nat, j < e → t = nI j → ∀ w : Nat, w ≤ 2 → what = nI w → Q (some (vI (if w = 0 then hi h (b + 5) j else if w = 1 then hi h (b + 6) j else hi h (b + 7) j))) h) : Spec (d + 1) 105 [vR (some 0), vI t, vI what] h Q := by
  obtain ⟨hN, hC, h5, hc, hK, hT⟩ := id g
  obtain ⟨hc1, hc2, hc3, hc4, hc5, hc6⟩ := id hc
  refine spec_intro (by decide +kernel) rfl (Nat.le_of_ble_eq_true rfl) ?_
  refine r_aload_n (pc' := 1) d105_0 rfl rfl rfl ?_
  refine r_getS (pc' := 4) d105_1 rfl o105 sf11_52_11 sh0 (pl hN rfl) h5 ?_
  refine r_iload_n (pc' := 5) d105_4 rfl rfl rfl ?_
  refine r_call (pc' := 8) [vR (some b), vI _] [] d105_5 rfl o105 st11_211_10 (rcv1 (shY hb) (plo hN (by omega))) rfl (by decide) ⟨rfl, rfl⟩ (Nat.le_of_ble_eq_true rfl) rfl (y_isEater hN hC hb hc ?_)
  refine r_if_neB 14 (pc' := 11) d105_8 rfl rfl (fun c8 => ?_) (fun c8 => ?_)
  · obtain ⟨j, hj0, rfl⟩ := inr3 (by omega) c8
    refine r_iload_n (pc' := 15) d105_14 rfl rfl rfl ?_
    by_cases hw : 0 ≤ what ∧ what ≤ 2
    · obtain ⟨w, hw8, rfl⟩ := nat2 (n := 2) hw (by decide)
      rcases (show w = 0 ∨ w = 1 ∨ w = 2 by omega) with rfl | rfl | rfl
      · refine r_tableIn (off := 25) 40 d105_15 (by decide) (by decide) (by decide) rfl ?_
        refine r_aload_n (pc' := 41) d105_40 rfl rfl rfl ?_
        refine r_getS (pc' := 44) d105_41 rfl o105 sf11_52_11 sh0 (pl hN rfl) h5 ?_
        refine r_getS (pc' := 47) d105_44 rfl o105 sf11_260_10 (shY hb) (plo hN (by omega)) (rY11 hC hb) ?_
        refine r_iload_n (pc' := 48) d105_47 rfl rfl rfl ?_
        refine r_ialdN (pc' := 49) (j := j) d105_48 rfl (shY5 hb) (plo hN (by omega)) rfl (by omega) (by decide) ?_
        exact r_iretI d105_49 rfl (kW j hj0 rfl 0 (by decide) rfl)
      · refine r_tableIn (off := 35) 50 d105_15 (by decide) (by decide) (by decide) rfl ?_
        refine r_aload_n (pc' := 51) d105_50 rfl rfl rfl ?_
        refine r_getS (pc' := 54) d105_51 rfl o105 sf11_52_11 sh0 (pl hN rfl) h5 ?_
        refine r_getS (pc' := 57) d105_54 rfl o105 sf11_263_10 (shY hb) (plo hN (by omega)) (rY12 hC hb) ?_
        refine r_iload_n (pc' := 58) d105_57 rfl rfl rfl ?_
        refine r_ialdN (pc' := 59) (j := j) d105_58 rfl (shY6 hb) (plo hN (by omega)) rfl (by omega) (by decide) ?_
        exact r_iretI d105_59 rfl (kW j hj0 rfl 1 (by decide) rfl)
      · refine r_tableIn (off := 45) 60 d105_15 (by decide) (by decide) (by decide) rfl ?_
        refine r_aload_n (pc' := 61) d105_60 rfl rfl rfl ?_
        refine r_getS (pc' := 64) d105_61 rfl o105 sf11_52_11 sh0 (pl hN rfl) h5 ?_
        refine r_getS (pc' := 67) d105_64 rfl o105 sf11_221_10 (shY hb) (plo hN (by omega)) (rY13 hC hb) ?_
        refine r_iload_n (pc' := 68) d105_67 rfl rfl rfl ?_
        refine r_ialdN (pc' := 69) (j := j) d105_68 rfl (shY7 hb) (plo hN (by omega)) rfl (by omega) (by decide) ?_
        exact r_iretI d105_69 rfl (kW j hj0 rfl 2 (by decide) rfl)
    · refine r_tableOut 70 d105_15 (by simp only [Int32.le_iff_toInt_le] at hw; rw [show (0 : Int32).toInt = 0 from rfl, show (2 : Int32).toInt = 2 from rfl] at hw; omega) rfl ?_
      refine r_ldc (pc' := 72) d105_70 rfl o105 kc11_100 ?_
      exact r_iretI d105_72 rfl (kB (Or.inr hw))
  · refine r_ldc (pc' := 13) d105_11 rfl o105 kc11_100 ?_
    exact r_iretI d105_13 rfl (kB (Or.inl c8))
theorem C_ember {d : Nat} {h : Hp} {Q : Option AV → Hp → Prop} {b m L e : Nat} {t what : Int32} (g : GI h b m L e) (hb : b = 17 ∨ b = 31) (kB : (¬ inR t L ∨ ¬ (0 ≤ what ∧ what ≤ 2)) → Q (some (vI (-1000001))) h)
    (kW : ∀ j : Nat, j < L → t = nI j → ∀ w : Nat, w ≤ 2 → what = nI w → Q (some (vI (if w = 0 then hi h (b + 1) j else if w = 1 then hi h (b + 2) j else hi h (b + 3) j))) h) : Spec (d + 1) 106 [vR (some 0), vI t, vI what] h Q := by
  obtain ⟨hN, hC, h5, hc, hK, hT⟩ := id g
  obtain ⟨hc1, hc2, hc3, hc4, hc5, hc6⟩ := id hc
  refine spec_intro (by decide +kernel) rfl (Nat.le_of_ble_eq_true rfl) ?_
  refine r_iload_n (pc' := 1) d106_0 rfl rfl rfl ?_
  refine r_if_lt 15 (pc' := 4) d106_1 rfl rfl (fun c1 => ?_) (fun c1 => ?_)
  · refine r_ldc (pc' := 17) d106_15 rfl o106 kc11_100 ?_
    exact r_iretI d106_17 rfl (kB (Or.inl (inr4 (by omega) (by first | exact Or.inl c1 | exact Or.inr (Int32.not_lt.mp c12)))))
  · refine r_iload_n (pc' := 5) d106_4 rfl rfl rfl ?_
    refine r_aload_n (pc' := 6) d106_5 rfl rfl rfl ?_
    refine r_getS (pc' := 9) d106_6 rfl o106 sf11_52_11 sh0 (pl hN rfl) h5 ?_
    refine r_getI (pc' := 12) d106_9 rfl o106 sf11_201_10 (shY hb) (plo hN (by omega)) ?_
    refine wp_v hc.2.2.1 ?_
    refine r_icmp_lt 18 (pc' := 15) d106_12 rfl rfl (fun c12 => ?_) (fun c12 => ?_)
    · obtain ⟨j, hj0, rfl⟩ := inr1 (m := L) c1 (Int32.not_le.mpr c12) (by omega)
      refine r_iload_n (pc' := 19) d106_18 rfl rfl rfl ?_
      by_cases hw : 0 ≤ what ∧ what ≤ 2
      · obtain ⟨w, hw8, rfl⟩ := nat2 (n := 2) hw (by decide)
        rcases (show w = 0 ∨ w = 1 ∨ w = 2 by omega) with rfl | rfl | rfl
        · refine r_tableIn (off := 25) 44 d106_19 (by decide) (by decide) (by decide) rfl ?_
          refine r_aload_n (pc' := 45) d106_44 rfl rfl rfl ?_
          refine r_getS (pc' := 48) d106_45 rfl o106 sf11_52_11 sh0 (pl hN rfl) h5 ?_
          refine r_getS (pc' := 51) d106_48 rfl o106 sf11_266_10 (shY hb) (plo hN (by omega)) (rY5 hC hb) ?_
          refine r_iload_n (pc' := 52) d106_51 rfl rfl rfl ?_
          refine r_ialdN (pc' := 53) (j := j) d106_52 rfl (shY1 hb) (plo hN (by omega)) rfl (by omega) (by decide) ?_
          exact r_iretI d106_53 rfl (kW j hj0 rfl 0 (by decide) rfl)
        · refine r_tableIn (off := 35) 54 d106_19 (by decide) (by decide) (by decide) rfl ?_
          refine r_aload_n (pc' := 55) d106_54 rfl rfl rfl ?_
          refine r_getS (pc' := 58) d106_55 rfl o106 sf11_52_11 sh0 (pl hN rfl) h5 ?_
          refine r_getS (pc' := 61) d106_58 rfl o106 sf11_269_10 (shY hb) (plo hN (by omega)) (rY6 hC hb) ?_
          refine r_iload_n (pc' := 62) d106_61 rfl rfl rfl ?_
          refine r_ialdN (pc' := 63) (j := j) d106_62 rfl (shY2 hb) (plo hN (by omega)) rfl (by omega) (by decide) ?_
          exact r_iretI d106_63 rfl (kW j hj0 rfl 1 (by decide) rfl)
        · refine r_tableIn (off := 45) 64 d106_19 (by decide) (by decide) (by decide) rfl ?_
          refine r_aload_n (pc' := 65) d106_64 rfl rfl rfl ?_
          refine r_getS (pc' := 68) d106_65 rfl o106 sf11_52_11 sh0 (pl hN rfl) h5 ?_
          refine r_getS (pc' := 71) d106_68 rfl o106 sf11_272_10 (shY hb) (plo hN (by omega)) (rY7 hC hb) ?_
          refine r_iload_n (pc' := 72) d106_71 rfl rfl rfl ?_
          refine r_ialdN (pc' := 73) (j := j) d106_72 rfl (shY3 hb) (plo hN (by omega)) rfl (by omega) (by decide) ?_
          exact r_iretI d106_73 rfl (kW j hj0 rfl 2 (by decide) rfl)
      · refine r_tableOut 74 d106_19 (by simp only [Int32.le_iff_toInt_le] at hw; rw [show (0 : Int32).toInt = 0 from rfl, show (2 : Int32).toInt = 2 from rfl] at hw; omega) rfl ?_
        refine r_ldc (pc' := 76) d106_74 rfl o106 kc11_100 ?_
        exact r_iretI d106_76 rfl (kB (Or.inr hw))
    · refine r_ldc (pc' := 17) d106_15 rfl o106 kc11_100 ?_
      exact r_iretI d106_17 rfl (kB (Or.inl (inr4 (by omega) (by first | exact Or.inl c1 | exact Or.inr (Int32.not_lt.mp c12)))))
def rpS (f : Nat → Int32) : Nat → Int32
  | 0 => 0
  | k + 1 => rpS f k + bI (¬ f k = -1)
theorem c_present {d : Nat} {h : Hp} {Q : Option AV → Hp → Prop} (hN : hn h = 65) (hC : RC h) (kk : Q (some (vI (rpS (hi h 3) 8))) h) : Spec (d + 1) 37 [vR (some 1)] h Q := by
  refine spec_intro (by decide +kernel) rfl (Nat.le_of_ble_eq_true rfl) ?_
  refine r_iconst (v := 0) (pc' := 1) d37_0 rfl (by decide) ?_
  refine r_istore_n (pc' := 2) (ls' := [(1, vI _), (0, vR (some 1))]) d37_1 rfl rfl (by decide) rfl ?_
  refine r_iconst (v := 0) (pc' := 3) d37_2 rfl (by decide) ?_
  refine r_istore_n (pc' := 4) (ls' := [(2, vI _), (1, vI _), (0, vR (some 1))]) d37_3 rfl rfl (by decide) rfl ?_
  refine wp_pick (ls' := [(0, vR (some 1)), (1, vI _), (2, vI _)]) [2, 1, 0] rfl ?_
  have loop : ∀ (r k : Nat), k + r = 8 → wp (d + 1) 37 Q 0 0 4 [(0, vR (some 1)), (1, vI (rpS (hi h 3) k)), (2, vI (nI k))] [] h := by
    intro r
    induction r with
    | zero =>
      intro k hk
      obtain rfl : k = 8 := by omega
      refine r_iload_n (pc' := 5) d37_4 rfl rfl rfl ?_
      refine r_bipush (v := 8) (pc' := 7) d37_5 rfl (by decide) ?_
      refine r_icmp_ge 35 (pc' := 10) d37_7 rfl rfl (fun c7 => ?_) (fun c7 => absurd (by decide) c7)
      refine r_iload_n (pc' := 36) d37_35 rfl rfl rfl ?_
      exact r_iretI d37_36 rfl kk
    | succ r ih =>
      intro k hk
      refine r_iload_n (pc' := 5) d37_4 rfl rfl rfl ?_
      refine r_bipush (v := 8) (pc' := 7) d37_5 rfl (by decide) ?_
      refine r_icmp_ge 35 (pc' := 10) d37_7 rfl rfl (fun c7 => absurd c7 (nI_ge (a := k) (b := 8) (by omega) (by decide))) (fun c7 => ?_)
      refine r_iload_n (pc' := 11) d37_10 rfl rfl rfl ?_
      refine r_aload_n (pc' := 12) d37_11 rfl rfl rfl ?_
      refine r_iload_n (pc' := 13) d37_12 rfl rfl rfl ?_
      refine r_call (pc' := 16) [vR (some 1), vI _] [vI _] d37_13 rfl o37 st5_25_5 (rcv1 sh1 (pl hN rfl)) rfl (by decide) ⟨rfl, rfl⟩ (Nat.le_of_ble_eq_true rfl) rfl (c_isMissing hN hC (by omega) ?_)
      refine r_if_neB 23 (pc' := 19) d37_16 rfl rfl (fun c16 => ?_) (fun c16 => ?_)
      · refine r_iconst (v := 0) (pc' := 24) d37_23 rfl (by decide) ?_
        refine r_call (pc' := 27) [vI _] [vI _] d37_24 rfl o37 st5_29 rcv0 rfl (by decide) ⟨rfl, rfl⟩ (Nat.le_of_ble_eq_true rfl) rfl (t_asBit ?_)
        refine r_iadd (pc' := 28) d37_27 rfl ?_
        refine r_istore_n (pc' := 29) (ls' := [(1, vI _), (0, vR (some 1)), (2, vI _)]) d37_28 rfl rfl (by decide) rfl ?_
        refine r_iinc (v := _ + 1) (pc' := 32) (ls' := [(2, vI _), (1, vI _), (0, vR (some 1))]) d37_29 rfl rfl rfl (by decide) rfl ?_
        refine r_goto 4 d37_32 rfl ?_
        refine wp_pick (ls' := [(0, vR (some 1)), (1, vI _), (2, vI _)]) [2, 1, 0] rfl ?_
        rw [nI_1]
        have w := ih (k + 1) (by omega)
        rw [rpS, b0 (fun z => z c16)] at w
        exact w
      · refine r_iconst (v := 1) (pc' := 20) d37_19 rfl (by decide) ?_
        refine r_goto 24 d37_20 rfl ?_
        refine r_call (pc' := 27) [vI _] [vI _] d37_24 rfl o37 st5_29 rcv0 rfl (by decide) ⟨rfl, rfl⟩ (Nat.le_of_ble_eq_true rfl) rfl (t_asBit ?_)
        refine r_iadd (pc' := 28) d37_27 rfl ?_
        refine r_istore_n (pc' := 29) (ls' := [(1, vI _), (0, vR (some 1)), (2, vI _)]) d37_28 rfl rfl (by decide) rfl ?_
        refine r_iinc (v := _ + 1) (pc' := 32) (ls' := [(2, vI _), (1, vI _), (0, vR (some 1))]) d37_29 rfl rfl rfl (by decide) rfl ?_
        refine r_goto 4 d37_32 rfl ?_
        refine wp_pick (ls' := [(0, vR (some 1)), (1, vI _), (2, vI _)]) [2, 1, 0] rfl ?_
        rw [nI_1]
        have w := ih (k + 1) (by omega)
        rw [rpS, b1 c16] at w
        exact w
  exact loop 8 0 rfl
def ccQ (h : Hp) (b m L : Nat) (w : Nat) : Int32 := if w = 0 then rpS (hi h 3) 8 else if w = 1 then hi h b 8 else if w = 2 then hi h b 4 else if w = 3 then hi h b 10 else if w = 4 then hi h b 3 else if w = 5 then sdS (plF h b) m else if w = 6 then fiS (hi h (b + 2)) L else if w = 7 then hi h 0 10 else hi h 5 1
theorem C_count {d : Nat} {h : Hp} {Q : Option AV → Hp → Prop} {b m L e : Nat} {what : Int32} (g : GI h b m L e) (hb : b = 17 ∨ b = 31) (kB : ¬ (0 ≤ what ∧ what ≤ 8) → Q (some (vI (-1000001))) h)
    (kW : ∀ w : Nat, w ≤ 8 → what = nI w → Q (some (vI (ccQ h b m L w))) h) : Spec (d + 2) 143 [vR (some 0), vI what] h Q := by
  obtain ⟨hN, hC, h5, hc, hK, hT⟩ := id g
  obtain ⟨hc1, hc2, hc3, hc4, hc5, hc6⟩ := id hc
  refine spec_intro (by decide +kernel) rfl (Nat.le_of_ble_eq_true rfl) ?_
  refine r_iload_n (pc' := 1) d143_0 rfl rfl rfl ?_
  by_cases hw : 0 ≤ what ∧ what ≤ 8
  · obtain ⟨w, hw8, rfl⟩ := nat2 (n := 8) hw (by decide)
    rcases (show w = 0 ∨ w = 1 ∨ w = 2 ∨ w = 3 ∨ w = 4 ∨ w = 5 ∨ w = 6 ∨ w = 7 ∨ w = 8 by omega) with rfl | rfl | rfl | rfl | rfl | rfl | rfl | rfl | rfl
    · refine r_tableIn (off := 51) 52 d143_1 (by decide) (by decide) (by decide) rfl ?_
      refine r_aload_n (pc' := 53) d143_52 rfl rfl rfl ?_
      refine r_getS (pc' := 56) d143_53 rfl o143 sf11_10_11 sh0 (pl hN rfl) (rfc0_0 hC) ?_
      refine r_call (pc' := 59) [vR (some 1)] [] d143_56 rfl o143 st11_420_5 (rcv1 sh1 (pl hN rfl)) rfl (by decide) ⟨rfl, rfl⟩ (Nat.le_of_ble_eq_true rfl) rfl (c_present hN hC ?_)
      exact r_iretI d143_59 rfl (kW 0 (by decide) rfl)
    · refine r_tableIn (off := 59) 60 d143_1 (by decide) (by decide) (by decide) rfl ?_
      refine r_aload_n (pc' := 61) d143_60 rfl rfl rfl ?_
      refine r_getS (pc' := 64) d143_61 rfl o143 sf11_52_11 sh0 (pl hN rfl) h5 ?_
      refine r_getI (pc' := 67) d143_64 rfl o143 sf11_161_10 (shY hb) (plo hN (by omega)) ?_
      exact r_iretI d143_67 rfl (kW 1 (by decide) rfl)
    · refine r_tableIn (off := 67) 68 d143_1 (by decide) (by decide) (by decide) rfl ?_
      refine r_aload_n (pc' := 69) d143_68 rfl rfl rfl ?_
      refine r_getS (pc' := 72) d143_69 rfl o143 sf11_52_11 sh0 (pl hN rfl) h5 ?_
      refine r_getI (pc' := 75) d143_72 rfl o143 sf11_201_10 (shY hb) (plo hN (by omega)) ?_
      exact r_iretI d143_75 rfl (kW 2 (by decide) rfl)
    · refine r_tableIn (off := 75) 76 d143_1 (by decide) (by decide) (by decide) rfl ?_
      refine r_aload_n (pc' := 77) d143_76 rfl rfl rfl ?_
      refine r_getS (pc' := 80) d143_77 rfl o143 sf11_52_11 sh0 (pl hN rfl) h5 ?_
      refine r_getI (pc' := 83) d143_80 rfl o143 sf11_367_10 (shY hb) (plo hN (by omega)) ?_
      exact r_iretI d143_83 rfl (kW 3 (by decide) rfl)
    · refine r_tableIn (off := 83) 84 d143_1 (by decide) (by decide) (by decide) rfl ?_
      refine r_aload_n (pc' := 85) d143_84 rfl rfl rfl ?_
      refine r_getS (pc' := 88) d143_85 rfl o143 sf11_52_11 sh0 (pl hN rfl) h5 ?_
      refine r_getI (pc' := 91) d143_88 rfl o143 sf11_168_10 (shY hb) (plo hN (by omega)) ?_
      exact r_iretI d143_91 rfl (kW 4 (by decide) rfl)
    · refine r_tableIn (off := 91) 92 d143_1 (by decide) (by decide) (by decide) rfl ?_
      refine r_aload_n (pc' := 93) d143_92 rfl rfl rfl ?_
      refine r_getS (pc' := 96) d143_93 rfl o143 sf11_52_11 sh0 (pl hN rfl) h5 ?_
      refine r_call (pc' := 99) [vR (some b)] [] d143_96 rfl o143 st11_224_10 (rcv1 (shY hb) (plo hN (by omega))) rfl (by decide) ⟨rfl, rfl⟩ (Nat.le_of_ble_eq_true rfl) rfl (y_servedCount hN hC hb hc ?_)
      exact r_iretI d143_99 rfl (kW 5 (by decide) rfl)
    · refine r_tableIn (off := 99) 100 d143_1 (by decide) (by decide) (by decide) rfl ?_
      refine r_aload_n (pc' := 101) d143_100 rfl rfl rfl ?_
      refine r_getS (pc' := 104) d143_101 rfl o143 sf11_52_11 sh0 (pl hN rfl) h5 ?_
      refine r_call (pc' := 107) [vR (some b)] [] d143_104 rfl o143 st11_423_10 (rcv1 (shY hb) (plo hN (by omega))) rfl (by decide) ⟨rfl, rfl⟩ (Nat.le_of_ble_eq_true rfl) rfl (y_fireOfAll hN hC hb hc ?_)
      exact r_iretI d143_107 rfl (kW 6 (by decide) rfl)
    · refine r_tableIn (off := 107) 108 d143_1 (by decide) (by decide) (by decide) rfl ?_
      refine r_aload_n (pc' := 109) d143_108 rfl rfl rfl ?_
      refine r_getI (pc' := 112) d143_109 rfl o143 sf11_158_11 sh0 (pl hN rfl) ?_
      exact r_iretI d143_112 rfl (kW 7 (by decide) rfl)
    · refine r_tableIn (off := 112) 113 d143_1 (by decide) (by decide) (by decide) rfl ?_
      refine r_aload_n (pc' := 114) d143_113 rfl rfl rfl ?_
      refine r_getS (pc' := 117) d143_114 rfl o143 sf11_19_11 sh0 (pl hN rfl) (rfc0_1 hC) ?_
      refine r_getI (pc' := 120) d143_117 rfl o143 sf11_142_4 sh5 (pl hN rfl) ?_
      exact r_iretI d143_120 rfl (kW 8 (by decide) rfl)
  · refine r_tableOut 121 d143_1 (by simp only [Int32.le_iff_toInt_le] at hw; rw [show (0 : Int32).toInt = 0 from rfl, show (8 : Int32).toInt = 8 from rfl] at hw; omega) rfl ?_
    refine r_ldc (pc' := 123) d143_121 rfl o143 kc11_100 ?_
    exact r_iretI d143_123 rfl (kB hw)
theorem c_isImage {d : Nat} {h : Hp} {Q : Option AV → Hp → Prop} {u : Int32} (k : Q (some (vI (bI (0 ≤ u ∧ u ≤ 1)))) h) : Spec d 137 [vI u] h Q := by
  refine spec_intro (by decide +kernel) rfl (Nat.le_of_ble_eq_true rfl) ?_
  refine r_iload_n (pc' := 1) d137_0 rfl rfl rfl ?_
  refine r_if_lt 13 (pc' := 4) d137_1 rfl rfl (fun c1 => ?_) (fun c1 => ?_)
  · refine r_iconst (v := 0) (pc' := 14) d137_13 rfl (by decide) ?_
    exact r_iretZ0 d137_14 rfl (qv (b0 (by first | exact fun w => absurd w.1 (Int32.not_le.mpr c1) | (intro w; have w2 := w.2; simp only [Int32.le_iff_toInt_le] at *; rw [show (2 : Int32).toInt = 2 from rfl] at c6; rw [show (1 : Int32).toInt = 1 from rfl] at w2; omega))) k)
  · refine r_iload_n (pc' := 5) d137_4 rfl rfl rfl ?_
    refine r_iconst (v := 2) (pc' := 6) d137_5 rfl (by decide) ?_
    refine r_icmp_ge 13 (pc' := 9) d137_6 rfl rfl (fun c6 => ?_) (fun c6 => ?_)
    · refine r_iconst (v := 0) (pc' := 14) d137_13 rfl (by decide) ?_
      exact r_iretZ0 d137_14 rfl (qv (b0 (by first | exact fun w => absurd w.1 (Int32.not_le.mpr c1) | (intro w; have w2 := w.2; simp only [Int32.le_iff_toInt_le] at *; rw [show (2 : Int32).toInt = 2 from rfl] at c6; rw [show (1 : Int32).toInt = 1 from rfl] at w2; omega))) k)
    · refine r_iconst (v := 1) (pc' := 10) d137_9 rfl (by decide) ?_
      refine r_goto 14 d137_10 rfl ?_
      exact r_iretZ1 d137_14 rfl (qv (b1 (by refine ⟨Int32.not_lt.mp c1, ?_⟩; simp only [Int32.le_iff_toInt_le] at *; rw [show (2 : Int32).toInt = 2 from rfl] at c6; rw [show (1 : Int32).toInt = 1 from rfl]; omega)) k)
theorem C_image {d : Nat} {h : Hp} {Q : Option AV → Hp → Prop} {b m L e : Nat} {u : Int32} (g : GI h b m L e) (hb : b = 17 ∨ b = 31) (kB : ¬ (0 ≤ u ∧ u ≤ 1) → Q (some (vI (-1000001))) h) (kS : (0 ≤ u ∧ u ≤ 1) → hi h 0 7 = 0 → Q (some (vI (-1000002))) h)
    (kW : ¬ hi h 0 7 = 0 → ∀ k : Nat, k ≤ 1 → u = nI k → Q (some (vI 1)) (seti (imA h b 46 (84 * k) 84) 47 k 1)) : Spec (d + 3) 135 [vR (some 0), vI u] h Q := by
  obtain ⟨hN, hC, h5, hc, hK, hT⟩ := id g
  obtain ⟨hc1, hc2, hc3, hc4, hc5, hc6⟩ := id hc
  refine spec_intro (by decide +kernel) rfl (Nat.le_of_ble_eq_true rfl) ?_
  refine r_iload_n (pc' := 1) d135_0 rfl rfl rfl ?_
  refine r_call (pc' := 4) [vI _] [] d135_1 rfl o135 st11_399 rcv0 rfl (by decide) ⟨rfl, rfl⟩ (Nat.le_of_ble_eq_true rfl) rfl (c_isImage ?_)
  refine r_if_neB 10 (pc' := 7) d135_4 rfl rfl (fun c4 => ?_) (fun c4 => ?_)
  · refine r_aload_n (pc' := 11) d135_10 rfl rfl rfl ?_
    refine r_getI (pc' := 14) d135_11 rfl o135 sf11_154_11 sh0 (pl hN rfl) ?_
    refine r_if_ne 20 (pc' := 17) d135_14 rfl rfl (fun c14 => ?_) (fun c14 => ?_)
    · obtain ⟨k, hk1, rfl⟩ := nat2 (n := 1) c4 (by decide)
      refine r_aload_n (pc' := 21) d135_20 rfl rfl rfl ?_
      refine r_getS (pc' := 24) d135_21 rfl o135 sf11_52_11 sh0 (pl hN rfl) h5 ?_
      refine r_aload_n (pc' := 25) d135_24 rfl rfl rfl ?_
      refine r_getS (pc' := 28) d135_25 rfl o135 sf11_63_11 sh0 (pl hN rfl) (rfc0_11 hC) ?_
      refine r_iload_n (pc' := 29) d135_28 rfl rfl rfl ?_
      refine r_bipush (v := 84) (pc' := 31) d135_29 rfl (by decide) ?_
      refine r_imul (pc' := 32) d135_31 rfl ?_
      rw [show nI k * 84 = nI (84 * k) by rw [lit 84, pk_mul, Nat.mul_comm]]
      refine r_call (pc' := 35) [vR (some b), vR (some 46), vI _] [] d135_32 rfl o135 st11_234_10 (rcv1 (shY hb) (plo hN (by omega))) rfl (by decide) ⟨rfl, rfl⟩ (Nat.le_of_ble_eq_true rfl) rfl (y_save hN hC hb hK hT sh46 (by decide) (by decide) (by omega) (by decide) ?_)
      refine r_aload_n (pc' := 36) d135_35 rfl rfl rfl ?_
      refine r_getS (pc' := 39) d135_36 rfl o135 sf11_66_11 sh0 (pl hN rfl) (rfc0_12 hC) ?_
      refine r_iload_n (pc' := 40) d135_39 rfl rfl rfl ?_
      refine r_iconst (v := 1) (pc' := 41) d135_40 rfl (by decide) ?_
      refine r_bastN (pc' := 42) (j := k) d135_41 rfl sh47 (pl hN rfl) rfl (by omega) (by decide) (Or.inr rfl) ?_
      refine r_iconst (v := 1) (pc' := 43) d135_42 rfl (by decide) ?_
      exact r_iretI d135_43 rfl (kW c14 k hk1 rfl)
    · refine r_ldc (pc' := 19) d135_17 rfl o135 kc11_167 ?_
      exact r_iretI d135_19 rfl (kS c4 c14)
  · refine r_ldc (pc' := 9) d135_7 rfl o135 kc11_100 ?_
    exact r_iretI d135_9 rfl (kB c4)
theorem C_restore {d : Nat} {h : Hp} {Q : Option AV → Hp → Prop} {b m L e : Nat} {u : Int32} (g : GI h b m L e) (hb : b = 17 ∨ b = 31) (kB : ¬ (0 ≤ u ∧ u ≤ 1) → Q (some (vI (-1000001))) h) (kS : ∀ k : Nat, k ≤ 1 → u = nI k → hi h 47 k = 0 → Q (some (vI (-1000002))) h)
    (kW : ∀ k : Nat, k ≤ 1 → u = nI k → ¬ hi h 47 k = 0 → Q (some (vI 1)) (seti (ldH h b 46 (84 * k) 6) 0 10 0)) : Spec (d + 3) 136 [vR (some 0), vI u] h Q := by
  obtain ⟨hN, hC, h5, hc, hK, hT⟩ := id g
  obtain ⟨hc1, hc2, hc3, hc4, hc5, hc6⟩ := id hc
  refine spec_intro (by decide +kernel) rfl (Nat.le_of_ble_eq_true rfl) ?_
  refine r_iload_n (pc' := 1) d136_0 rfl rfl rfl ?_
  refine r_call (pc' := 4) [vI _] [] d136_1 rfl o136 st11_399 rcv0 rfl (by decide) ⟨rfl, rfl⟩ (Nat.le_of_ble_eq_true rfl) rfl (c_isImage ?_)
  refine r_if_neB 10 (pc' := 7) d136_4 rfl rfl (fun c4 => ?_) (fun c4 => ?_)
  · obtain ⟨k, hk1, rfl⟩ := nat2 (n := 1) c4 (by decide)
    refine r_aload_n (pc' := 11) d136_10 rfl rfl rfl ?_
    refine r_getS (pc' := 14) d136_11 rfl o136 sf11_66_11 sh0 (pl hN rfl) (rfc0_12 hC) ?_
    refine r_iload_n (pc' := 15) d136_14 rfl rfl rfl ?_
    refine r_baldN (pc' := 16) (j := k) d136_15 rfl sh47 (pl hN rfl) rfl (by omega) (by decide) ?_
    refine r_if_ne 22 (pc' := 19) d136_16 rfl rfl (fun c16 => ?_) (fun c16 => ?_)
    · refine r_aload_n (pc' := 23) d136_22 rfl rfl rfl ?_
      refine r_getS (pc' := 26) d136_23 rfl o136 sf11_52_11 sh0 (pl hN rfl) h5 ?_
      refine r_aload_n (pc' := 27) d136_26 rfl rfl rfl ?_
      refine r_getS (pc' := 30) d136_27 rfl o136 sf11_63_11 sh0 (pl hN rfl) (rfc0_11 hC) ?_
      refine r_iload_n (pc' := 31) d136_30 rfl rfl rfl ?_
      refine r_bipush (v := 84) (pc' := 33) d136_31 rfl (by decide) ?_
      refine r_imul (pc' := 34) d136_33 rfl ?_
      rw [show nI k * 84 = nI (84 * k) by rw [lit 84, pk_mul, Nat.mul_comm]]
      refine r_call (pc' := 37) [vR (some b), vR (some 46), vI _] [] d136_34 rfl o136 st11_230_10 (rcv1 (shY hb) (plo hN (by omega))) rfl (by decide) ⟨rfl, rfl⟩ (Nat.le_of_ble_eq_true rfl) rfl (y_load hN hC hb sh46 (by decide) (by decide) (by omega) (by decide) ?_)
      refine r_aload_n (pc' := 38) d136_37 rfl rfl rfl ?_
      refine r_iconst (v := 0) (pc' := 39) d136_38 rfl (by decide) ?_
      refine r_putI (pc' := 42) d136_39 rfl o136 sp11_158_11 sh0 (fun w => absurd w (by decide)) (Or.inl rfl) (pl hN rfl) ?_
      refine r_iconst (v := 1) (pc' := 43) d136_42 rfl (by decide) ?_
      exact r_iretI d136_43 rfl (kW k hk1 rfl c16)
    · refine r_ldc (pc' := 21) d136_19 rfl o136 kc11_167 ?_
      exact r_iretI d136_21 rfl (kS k hk1 rfl c16)
  · refine r_ldc (pc' := 9) d136_7 rfl o136 kc11_100 ?_
    exact r_iretI d136_9 rfl (kB c4)
theorem C_kind {d : Nat} {h : Hp} {Q : Option AV → Hp → Prop} {b m L e : Nat} {t : Int32} (g : GI h b m L e) (hb : b = 17 ∨ b = 31) (kB : ¬ inR t m → Q (some (vI (-1000001))) h)
    (kW : ∀ j : Nat, j < m → t = nI j → Q (some (vI (nI (kq h (b + 8 + j))))) h) : Spec (d + 1) 138 [vR (some 0), vI t] h Q := by
  obtain ⟨hN, hC, h5, hc, hK, hT⟩ := id g
  obtain ⟨hc1, hc2, hc3, hc4, hc5, hc6⟩ := id hc
  refine spec_intro (by decide +kernel) rfl (Nat.le_of_ble_eq_true rfl) ?_
  refine r_aload_n (pc' := 1) d138_0 rfl rfl rfl ?_
  refine r_getS (pc' := 4) d138_1 rfl o138 sf11_52_11 sh0 (pl hN rfl) h5 ?_
  refine r_iload_n (pc' := 5) d138_4 rfl rfl rfl ?_
  refine r_call (pc' := 8) [vR (some b), vI _] [] d138_5 rfl o138 st11_177_10 (rcv1 (shY hb) (plo hN (by omega))) rfl (by decide) ⟨rfl, rfl⟩ (Nat.le_of_ble_eq_true rfl) rfl (y_thingAt hN hC hb hc (fun hbad => ?_) (fun j hj0 hj => ?_))
  · refine r_astore_nN (pc' := 9) (ls' := [(2, vR none), (0, vR (some 0)), (1, vI _)]) d138_8 rfl rfl (by decide) rfl ?_
    refine r_aload_nN (pc' := 10) d138_9 rfl rfl rfl ?_
    refine r_nonN 18 (pc' := 13) d138_10 rfl rfl ?_
    refine r_ldc (pc' := 15) d138_13 rfl o138 kc11_100 ?_
    refine r_goto 25 d138_15 rfl ?_
    exact r_iretI d138_25 rfl (kB hbad)
  · refine r_astore_n (pc' := 9) (ls' := [(2, vR (some (b + 8 + j))), (0, vR (some 0)), (1, vI _)]) d138_8 rfl rfl (by decide) rfl ?_
    refine r_aload_n (pc' := 10) d138_9 rfl rfl rfl ?_
    refine r_nonS 18 (pc' := 13) d138_10 rfl rfl ?_
    refine r_aload_n (pc' := 19) d138_18 rfl rfl rfl ?_
    refine r_getS (pc' := 22) d138_19 rfl o138 sf11_333_8 (shT hb (by omega)) (plo hN (by omega)) (hT j (by omega)).1 ?_
    refine r_getI (pc' := 25) d138_22 rfl o138 (sfK11_402 (hT j (by omega)).2) (shK (hT j (by omega)).2) (plK hN (hT j (by omega)).2) ?_
    refine wp_v (y := nI (kq h (b + 8 + j))) (hK _ (hT j (by omega)).2).1 ?_
    exact r_iretI d138_25 rfl (kW j hj0 hj)
abbrev oneC (q w : Nat) : Prop := w = 0 ∨ (w = 1 ∧ 1 ≤ q ∧ q ≤ 3) ∨ (w = 2 ∧ q = 2) ∨ (w = 3 ∧ q = 3) ∨ (w = 4 ∧ 4 ≤ q ∧ q ≤ 5) ∨ (w = 5 ∧ q = 5)
theorem c_isOneOf {d : Nat} {h : Hp} {Q : Option AV → Hp → Prop} {q w : Nat} (hN : hn h = 65) (hq6 : q < 6) (hw : w ≤ 5) (k : Q (some (vI (bI (oneC q w)))) h) : Spec d 140 [vR (some (10 + q)), vI (nI w)] h Q := by
  refine spec_intro (by decide +kernel) rfl (Nat.le_of_ble_eq_true rfl) ?_
  refine r_iload_n (pc' := 1) d140_0 rfl rfl rfl ?_
  rcases (show w = 0 ∨ w = 1 ∨ w = 2 ∨ w = 3 ∨ w = 4 ∨ w = 5 by omega) with rfl | rfl | rfl | rfl | rfl | rfl
  · refine r_tableIn (off := 39) 40 d140_1 (by decide) (by decide) (by decide) rfl ?_
    refine r_iconst (v := 1) (pc' := 41) d140_40 rfl (by decide) ?_
    exact r_iretZ1 d140_41 rfl (qv (b1 (Or.inl rfl)) k)
  · refine r_tableIn (off := 41) 42 d140_1 (by decide) (by decide) (by decide) rfl ?_
    refine r_aload_n (pc' := 43) d140_42 rfl rfl rfl ?_
    rcases (show q = 0 ∨ q = 1 ∨ q = 2 ∨ q = 3 ∨ q = 4 ∨ q = 5 by omega) with rfl | rfl | rfl | rfl | rfl | rfl
    · refine r_inst (ci := 3) false (pc' := 46) d140_43 rfl o140 cl11_81 (shK (q := 0) (by decide)) (pl hN rfl) (by decide +kernel) ?_
      exact r_iretZ0 d140_46 rfl (qv (b0 (by decide)) k)
    · refine r_inst (ci := 6) true (pc' := 46) d140_43 rfl o140 cl11_81 (shK (q := 1) (by decide)) (pl hN rfl) (by decide +kernel) ?_
      exact r_iretZ1 d140_46 rfl (qv (b1 (by decide)) k)
    · refine r_inst (ci := 1) true (pc' := 46) d140_43 rfl o140 cl11_81 (shK (q := 2) (by decide)) (pl hN rfl) (by decide +kernel) ?_
      exact r_iretZ1 d140_46 rfl (qv (b1 (by decide)) k)
    · refine r_inst (ci := 7) true (pc' := 46) d140_43 rfl o140 cl11_81 (shK (q := 3) (by decide)) (pl hN rfl) (by decide +kernel) ?_
      exact r_iretZ1 d140_46 rfl (qv (b1 (by decide)) k)
    · refine r_inst (ci := 0) false (pc' := 46) d140_43 rfl o140 cl11_81 (shK (q := 4) (by decide)) (pl hN rfl) (by decide +kernel) ?_
      exact r_iretZ0 d140_46 rfl (qv (b0 (by decide)) k)
    · refine r_inst (ci := 2) false (pc' := 46) d140_43 rfl o140 cl11_81 (shK (q := 5) (by decide)) (pl hN rfl) (by decide +kernel) ?_
      exact r_iretZ0 d140_46 rfl (qv (b0 (by decide)) k)
  · refine r_tableIn (off := 46) 47 d140_1 (by decide) (by decide) (by decide) rfl ?_
    refine r_aload_n (pc' := 48) d140_47 rfl rfl rfl ?_
    rcases (show q = 0 ∨ q = 1 ∨ q = 2 ∨ q = 3 ∨ q = 4 ∨ q = 5 by omega) with rfl | rfl | rfl | rfl | rfl | rfl
    · refine r_inst (ci := 3) false (pc' := 51) d140_48 rfl o140 cl11_84 (shK (q := 0) (by decide)) (pl hN rfl) (by decide +kernel) ?_
      exact r_iretZ0 d140_51 rfl (qv (b0 (by decide)) k)
    · refine r_inst (ci := 6) false (pc' := 51) d140_48 rfl o140 cl11_84 (shK (q := 1) (by decide)) (pl hN rfl) (by decide +kernel) ?_
      exact r_iretZ0 d140_51 rfl (qv (b0 (by decide)) k)
    · refine r_inst (ci := 1) true (pc' := 51) d140_48 rfl o140 cl11_84 (shK (q := 2) (by decide)) (pl hN rfl) (by decide +kernel) ?_
      exact r_iretZ1 d140_51 rfl (qv (b1 (by decide)) k)
    · refine r_inst (ci := 7) false (pc' := 51) d140_48 rfl o140 cl11_84 (shK (q := 3) (by decide)) (pl hN rfl) (by decide +kernel) ?_
      exact r_iretZ0 d140_51 rfl (qv (b0 (by decide)) k)
    · refine r_inst (ci := 0) false (pc' := 51) d140_48 rfl o140 cl11_84 (shK (q := 4) (by decide)) (pl hN rfl) (by decide +kernel) ?_
      exact r_iretZ0 d140_51 rfl (qv (b0 (by decide)) k)
    · refine r_inst (ci := 2) false (pc' := 51) d140_48 rfl o140 cl11_84 (shK (q := 5) (by decide)) (pl hN rfl) (by decide +kernel) ?_
      exact r_iretZ0 d140_51 rfl (qv (b0 (by decide)) k)
  · refine r_tableIn (off := 51) 52 d140_1 (by decide) (by decide) (by decide) rfl ?_
    refine r_aload_n (pc' := 53) d140_52 rfl rfl rfl ?_
    rcases (show q = 0 ∨ q = 1 ∨ q = 2 ∨ q = 3 ∨ q = 4 ∨ q = 5 by omega) with rfl | rfl | rfl | rfl | rfl | rfl
    · refine r_inst (ci := 3) false (pc' := 56) d140_53 rfl o140 cl11_87 (shK (q := 0) (by decide)) (pl hN rfl) (by decide +kernel) ?_
      exact r_iretZ0 d140_56 rfl (qv (b0 (by decide)) k)
    · refine r_inst (ci := 6) false (pc' := 56) d140_53 rfl o140 cl11_87 (shK (q := 1) (by decide)) (pl hN rfl) (by decide +kernel) ?_
      exact r_iretZ0 d140_56 rfl (qv (b0 (by decide)) k)
    · refine r_inst (ci := 1) false (pc' := 56) d140_53 rfl o140 cl11_87 (shK (q := 2) (by decide)) (pl hN rfl) (by decide +kernel) ?_
      exact r_iretZ0 d140_56 rfl (qv (b0 (by decide)) k)
    · refine r_inst (ci := 7) true (pc' := 56) d140_53 rfl o140 cl11_87 (shK (q := 3) (by decide)) (pl hN rfl) (by decide +kernel) ?_
      exact r_iretZ1 d140_56 rfl (qv (b1 (by decide)) k)
    · refine r_inst (ci := 0) false (pc' := 56) d140_53 rfl o140 cl11_87 (shK (q := 4) (by decide)) (pl hN rfl) (by decide +kernel) ?_
      exact r_iretZ0 d140_56 rfl (qv (b0 (by decide)) k)
    · refine r_inst (ci := 2) false (pc' := 56) d140_53 rfl o140 cl11_87 (shK (q := 5) (by decide)) (pl hN rfl) (by decide +kernel) ?_
      exact r_iretZ0 d140_56 rfl (qv (b0 (by decide)) k)
  · refine r_tableIn (off := 56) 57 d140_1 (by decide) (by decide) (by decide) rfl ?_
    refine r_aload_n (pc' := 58) d140_57 rfl rfl rfl ?_
    rcases (show q = 0 ∨ q = 1 ∨ q = 2 ∨ q = 3 ∨ q = 4 ∨ q = 5 by omega) with rfl | rfl | rfl | rfl | rfl | rfl
    · refine r_inst (ci := 3) false (pc' := 61) d140_58 rfl o140 cl11_90 (shK (q := 0) (by decide)) (pl hN rfl) (by decide +kernel) ?_
      exact r_iretZ0 d140_61 rfl (qv (b0 (by decide)) k)
    · refine r_inst (ci := 6) false (pc' := 61) d140_58 rfl o140 cl11_90 (shK (q := 1) (by decide)) (pl hN rfl) (by decide +kernel) ?_
      exact r_iretZ0 d140_61 rfl (qv (b0 (by decide)) k)
    · refine r_inst (ci := 1) false (pc' := 61) d140_58 rfl o140 cl11_90 (shK (q := 2) (by decide)) (pl hN rfl) (by decide +kernel) ?_
      exact r_iretZ0 d140_61 rfl (qv (b0 (by decide)) k)
    · refine r_inst (ci := 7) false (pc' := 61) d140_58 rfl o140 cl11_90 (shK (q := 3) (by decide)) (pl hN rfl) (by decide +kernel) ?_
      exact r_iretZ0 d140_61 rfl (qv (b0 (by decide)) k)
    · refine r_inst (ci := 0) true (pc' := 61) d140_58 rfl o140 cl11_90 (shK (q := 4) (by decide)) (pl hN rfl) (by decide +kernel) ?_
      exact r_iretZ1 d140_61 rfl (qv (b1 (by decide)) k)
    · refine r_inst (ci := 2) true (pc' := 61) d140_58 rfl o140 cl11_90 (shK (q := 5) (by decide)) (pl hN rfl) (by decide +kernel) ?_
      exact r_iretZ1 d140_61 rfl (qv (b1 (by decide)) k)
  · refine r_tableIn (off := 61) 62 d140_1 (by decide) (by decide) (by decide) rfl ?_
    refine r_aload_n (pc' := 63) d140_62 rfl rfl rfl ?_
    rcases (show q = 0 ∨ q = 1 ∨ q = 2 ∨ q = 3 ∨ q = 4 ∨ q = 5 by omega) with rfl | rfl | rfl | rfl | rfl | rfl
    · refine r_inst (ci := 3) false (pc' := 66) d140_63 rfl o140 cl11_93 (shK (q := 0) (by decide)) (pl hN rfl) (by decide +kernel) ?_
      exact r_iretZ0 d140_66 rfl (qv (b0 (by decide)) k)
    · refine r_inst (ci := 6) false (pc' := 66) d140_63 rfl o140 cl11_93 (shK (q := 1) (by decide)) (pl hN rfl) (by decide +kernel) ?_
      exact r_iretZ0 d140_66 rfl (qv (b0 (by decide)) k)
    · refine r_inst (ci := 1) false (pc' := 66) d140_63 rfl o140 cl11_93 (shK (q := 2) (by decide)) (pl hN rfl) (by decide +kernel) ?_
      exact r_iretZ0 d140_66 rfl (qv (b0 (by decide)) k)
    · refine r_inst (ci := 7) false (pc' := 66) d140_63 rfl o140 cl11_93 (shK (q := 3) (by decide)) (pl hN rfl) (by decide +kernel) ?_
      exact r_iretZ0 d140_66 rfl (qv (b0 (by decide)) k)
    · refine r_inst (ci := 0) false (pc' := 66) d140_63 rfl o140 cl11_93 (shK (q := 4) (by decide)) (pl hN rfl) (by decide +kernel) ?_
      exact r_iretZ0 d140_66 rfl (qv (b0 (by decide)) k)
    · refine r_inst (ci := 2) true (pc' := 66) d140_63 rfl o140 cl11_93 (shK (q := 5) (by decide)) (pl hN rfl) (by decide +kernel) ?_
      exact r_iretZ1 d140_66 rfl (qv (b1 (by decide)) k)
theorem C_as {d : Nat} {h : Hp} {Q : Option AV → Hp → Prop} {b m L e : Nat} {t u : Int32} (g : GI h b m L e) (hb : b = 17 ∨ b = 31) (kB : (¬ inR t m ∨ ¬ (0 ≤ u ∧ u ≤ 5)) → Q (some (vI (-1000001))) h)
    (kF : ∀ j : Nat, j < m → t = nI j → ∀ w : Nat, w ≤ 5 → u = nI w → ¬ oneC (kq h (b + 8 + j)) w → Q (some (vI (-1000013))) (seti h 0 16 3))
    (kW : ∀ j : Nat, j < m → t = nI j → ∀ w : Nat, w ≤ 5 → u = nI w → oneC (kq h (b + 8 + j)) w → Q (some (vI t)) (seti h 0 16 0)) : Spec (d + 1) 139 [vR (some 0), vI t, vI u] h Q := by
  obtain ⟨hN, hC, h5, hc, hK, hT⟩ := id g
  obtain ⟨hc1, hc2, hc3, hc4, hc5, hc6⟩ := id hc
  refine spec_intro (by decide +kernel) rfl (Nat.le_of_ble_eq_true rfl) ?_
  refine r_aload_n (pc' := 1) d139_0 rfl rfl rfl ?_
  refine r_getS (pc' := 4) d139_1 rfl o139 sf11_52_11 sh0 (pl hN rfl) h5 ?_
  refine r_iload_n (pc' := 5) d139_4 rfl rfl rfl ?_
  refine r_call (pc' := 8) [vR (some b), vI _] [] d139_5 rfl o139 st11_177_10 (rcv1 (shY hb) (plo hN (by omega))) rfl (by decide) ⟨rfl, rfl⟩ (Nat.le_of_ble_eq_true rfl) rfl (y_thingAt hN hC hb hc (fun hbad => ?_) (fun j hj0 hj => ?_))
  · refine r_astore_nN (pc' := 9) (ls' := [(3, vR none), (0, vR (some 0)), (1, vI _), (2, vI _)]) d139_8 rfl rfl (by decide) rfl ?_
    refine r_aload_nN (pc' := 10) d139_9 rfl rfl rfl ?_
    refine r_nulN 26 (pc' := 13) d139_10 rfl rfl ?_
    refine r_ldc (pc' := 28) d139_26 rfl o139 kc11_100 ?_
    exact r_iretI d139_28 rfl (kB (by first | exact Or.inl hbad | exact Or.inr (fun w => absurd w.1 (Int32.not_le.mpr c14)) | exact Or.inr (fun w => c23 (by have z := w.2; simp only [Int32.le_iff_toInt_le, Int32.lt_iff_toInt_lt] at *; rw [show (5 : Int32).toInt = 5 from rfl] at z; rw [show (nI 6).toInt = 6 from rfl]; omega))))
  · refine r_astore_n (pc' := 9) (ls' := [(3, vR (some (b + 8 + j))), (0, vR (some 0)), (1, vI _), (2, vI _)]) d139_8 rfl rfl (by decide) rfl ?_
    refine r_aload_n (pc' := 10) d139_9 rfl rfl rfl ?_
    refine r_nulS 26 (pc' := 13) d139_10 rfl rfl ?_
    refine r_iload_n (pc' := 14) d139_13 rfl rfl rfl ?_
    refine r_if_lt 26 (pc' := 17) d139_14 rfl rfl (fun c14 => ?_) (fun c14 => ?_)
    · refine r_ldc (pc' := 28) d139_26 rfl o139 kc11_100 ?_
      exact r_iretI d139_28 rfl (kB (by first | exact Or.inl hbad | exact Or.inr (fun w => absurd w.1 (Int32.not_le.mpr c14)) | exact Or.inr (fun w => c23 (by have z := w.2; simp only [Int32.le_iff_toInt_le, Int32.lt_iff_toInt_lt] at *; rw [show (5 : Int32).toInt = 5 from rfl] at z; rw [show (nI 6).toInt = 6 from rfl]; omega))))
    · refine r_iload_n (pc' := 18) d139_17 rfl rfl rfl ?_
      refine r_aload_n (pc' := 19) d139_18 rfl rfl rfl ?_
      refine r_getS (pc' := 22) d139_19 rfl o139 sf11_34_11 sh0 (pl hN rfl) (rfc0_3 hC) ?_
      refine r_alen (pc' := 23) d139_22 rfl sh9 (by decide) (pl hN rfl) ?_
      refine r_icmp_lt 29 (pc' := 26) d139_23 rfl rfl (fun c23 => ?_) (fun c23 => ?_)
      · obtain ⟨w, hw5, rfl⟩ := inr1 (m := 6) c14 (Int32.not_le.mpr c23) (by decide)
        refine r_aload_n (pc' := 30) d139_29 rfl rfl rfl ?_
        refine r_getS (pc' := 33) d139_30 rfl o139 sf11_333_8 (shT hb (by omega)) (plo hN (by omega)) (hT j (by omega)).1 ?_
        refine r_iload_n (pc' := 34) d139_33 rfl rfl rfl ?_
        refine r_call (pc' := 37) [vR (some (10 + kq h (b + 8 + j))), vI _] [] d139_34 rfl o139 st11_405 rcv0 rfl (by decide) ⟨rfl, rfl⟩ (Nat.le_of_ble_eq_true rfl) rfl (c_isOneOf hN (hT j (by omega)).2 (by omega) ?_)
        refine r_if_eqB 48 (pc' := 40) d139_37 rfl rfl (fun c37 => ?_) (fun c37 => ?_)
        · refine r_aload_n (pc' := 49) d139_48 rfl rfl rfl ?_
          refine r_iconst (v := 3) (pc' := 50) d139_49 rfl (by decide) ?_
          refine r_call (pc' := 53) [vR (some 0), vI _] [] d139_50 rfl o139 st11_101_11 (rcv1 sh0 (pl hN rfl)) rfl (by decide) ⟨rfl, rfl⟩ (Nat.le_of_ble_eq_true rfl) rfl (c_found hN ?_)
          exact r_iretI d139_53 rfl (qv (by decide) (kF j hj0 hj w (by omega) rfl c37))
        · refine r_aload_n (pc' := 41) d139_40 rfl rfl rfl ?_
          refine r_iload_n (pc' := 42) d139_41 rfl rfl rfl ?_
          refine r_call (pc' := 45) [vR (some 0), vI _] [] d139_42 rfl o139 st11_109_11 (rcv1 sh0 (pl hN rfl)) rfl (by decide) ⟨rfl, rfl⟩ (Nat.le_of_ble_eq_true rfl) rfl (c_answered hN ?_)
          refine r_goto 53 d139_45 rfl ?_
          exact r_iretI d139_53 rfl (kW j hj0 hj w (by omega) rfl c37)
      · refine r_ldc (pc' := 28) d139_26 rfl o139 kc11_100 ?_
        exact r_iretI d139_28 rfl (kB (by first | exact Or.inl hbad | exact Or.inr (fun w => absurd w.1 (Int32.not_le.mpr c14)) | exact Or.inr (fun w => c23 (by have z := w.2; simp only [Int32.le_iff_toInt_le, Int32.lt_iff_toInt_lt] at *; rw [show (5 : Int32).toInt = 5 from rfl] at z; rw [show (nI 6).toInt = 6 from rfl]; omega))))
def cMk (q : Nat) (f : Nat → Int32) : Int32 := if q = 2 then 2 * (f 0 + f 4) else if q = 3 then f 0 + f 4 - 1000 else f 0 + f 4
def cMkL (q : Nat) : List Nat := if q = 2 then [24, 21, 20] else if q = 3 then [22, 21, 20] else [21, 20]
def cCh (q : Nat) (f : Nat → Int32) : Int32 := if q = 5 then 2 * (f 3 - 100) else f 3 - 100
def cChL (q : Nat) : List Nat := if q = 5 then [14, 13, 10] else [13, 10]
def casV (q w : Nat) (f : Nat → Int32) : Int32 := if w = 0 then (if 4 ≤ q then cCh q f else if q = 2 then -(f 3 + cMk q f) else f 3 + cMk q f) else (if 4 ≤ q then f 0 - cCh q f else cMk q f)
def casL (q w : Nat) : List Nat := if w = 0 then (if 4 ≤ q then cChL q else if q = 2 then 12 :: 11 :: 10 :: cMkL q else 11 :: 10 :: cMkL q) else (if 4 ≤ q then 23 :: 20 :: cChL q else cMkL q)
theorem r_ask46 {d : Nat} {Q : Option AV → Hp → Prop} {ls : List (Nat × AV)} {h : Hp} {q o : Nat} (hN : hn h = 65) (hC : RC h) (ho : SH o = (0, 8)) (hlt : o < 65) (ha : hi h 7 1 = nI 0) (hq1 : 1 ≤ q) (hq6 : q < 6) (kk : wp (d + 6) 141 Q 0 0 49 ls [vI (casV q 0 (hi h o))] (trL h 0 (casL q 0))) : wp (d + 6) 141 Q 0 0 46 ls [vR (some 7), vR (some o), vR (some (10 + q))] h := by
  rcases (show q = 1 ∨ q = 2 ∨ q = 3 ∨ q = 4 ∨ q = 5 by omega) with rfl | rfl | rfl | rfl | rfl
  · exact r_call (pc' := 49) [vR (some (10 + 1)), vR (some o), vR (some 7)] [] d141_46 rfl o141 st11_410_6 (rcv1 (shK (q := 1) (by decide)) (pl hN rfl)) rfl (by decide) ⟨rfl, rfl⟩ (Nat.le_of_ble_eq_true rfl) rfl (k_40_1 (a := 0) hN hC ho hlt ha (by decide) kk)
  · exact r_call (pc' := 49) [vR (some (10 + 2)), vR (some o), vR (some 7)] [] d141_46 rfl o141 st11_410_1 (rcv1 (shK (q := 2) (by decide)) (pl hN rfl)) rfl (by decide) ⟨rfl, rfl⟩ (Nat.le_of_ble_eq_true rfl) rfl (k_4 (a := 0) hN hC ho hlt ha (by decide) kk)
  · exact r_call (pc' := 49) [vR (some (10 + 3)), vR (some o), vR (some 7)] [] d141_46 rfl o141 st11_410_7 (rcv1 (shK (q := 3) (by decide)) (pl hN rfl)) rfl (by decide) ⟨rfl, rfl⟩ (Nat.le_of_ble_eq_true rfl) rfl (k_40_3 (a := 0) hN hC ho hlt ha (by decide) kk)
  · exact r_call (pc' := 49) [vR (some (10 + 4)), vR (some o), vR (some 7)] [] d141_46 rfl o141 st11_410_0 (rcv1 (shK (q := 4) (by decide)) (pl hN rfl)) rfl (by decide) ⟨rfl, rfl⟩ (Nat.le_of_ble_eq_true rfl) rfl (k_1_4 (a := 0) hN hC ho hlt ha (by decide) kk)
  · exact r_call (pc' := 49) [vR (some (10 + 5)), vR (some o), vR (some 7)] [] d141_46 rfl o141 st11_410_2 (rcv1 (shK (q := 5) (by decide)) (pl hN rfl)) rfl (by decide) ⟨rfl, rfl⟩ (Nat.le_of_ble_eq_true rfl) rfl (k_7 (a := 0) hN hC ho hlt ha (by decide) kk)
theorem r_ask61 {d : Nat} {Q : Option AV → Hp → Prop} {ls : List (Nat × AV)} {h : Hp} {q o : Nat} (hN : hn h = 65) (hC : RC h) (ho : SH o = (0, 8)) (hlt : o < 65) (ha : hi h 7 1 = nI 0) (hq1 : 1 ≤ q) (hq6 : q < 6) (kk : wp (d + 6) 141 Q 0 0 64 ls [vI (casV q 1 (hi h o))] (trL h 0 (casL q 1))) : wp (d + 6) 141 Q 0 0 61 ls [vR (some 7), vR (some o), vR (some (10 + q))] h := by
  rcases (show q = 1 ∨ q = 2 ∨ q = 3 ∨ q = 4 ∨ q = 5 by omega) with rfl | rfl | rfl | rfl | rfl
  · exact r_call (pc' := 64) [vR (some (10 + 1)), vR (some o), vR (some 7)] [] d141_61 rfl o141 st11_414_6 (rcv1 (shK (q := 1) (by decide)) (pl hN rfl)) rfl (by decide) ⟨rfl, rfl⟩ (Nat.le_of_ble_eq_true rfl) rfl (k_41_1 (a := 0) hN hC ho hlt ha (by decide) kk)
  · exact r_call (pc' := 64) [vR (some (10 + 2)), vR (some o), vR (some 7)] [] d141_61 rfl o141 st11_414_1 (rcv1 (shK (q := 2) (by decide)) (pl hN rfl)) rfl (by decide) ⟨rfl, rfl⟩ (Nat.le_of_ble_eq_true rfl) rfl (k_5 (a := 0) hN hC ho hlt ha (by decide) kk)
  · exact r_call (pc' := 64) [vR (some (10 + 3)), vR (some o), vR (some 7)] [] d141_61 rfl o141 st11_414_7 (rcv1 (shK (q := 3) (by decide)) (pl hN rfl)) rfl (by decide) ⟨rfl, rfl⟩ (Nat.le_of_ble_eq_true rfl) rfl (k_43 (a := 0) hN hC ho hlt ha (by decide) kk)
  · exact r_call (pc' := 64) [vR (some (10 + 4)), vR (some o), vR (some 7)] [] d141_61 rfl o141 st11_414_0 (rcv1 (shK (q := 4) (by decide)) (pl hN rfl)) rfl (by decide) ⟨rfl, rfl⟩ (Nat.le_of_ble_eq_true rfl) rfl (k_2_4 (a := 0) hN hC ho hlt ha (by decide) kk)
  · exact r_call (pc' := 64) [vR (some (10 + 5)), vR (some o), vR (some 7)] [] d141_61 rfl o141 st11_414_2 (rcv1 (shK (q := 5) (by decide)) (pl hN rfl)) rfl (by decide) ⟨rfl, rfl⟩ (Nat.le_of_ble_eq_true rfl) rfl (k_2_5 (a := 0) hN hC ho hlt ha (by decide) kk)
theorem ask1 {x : Int32} (h1 : ¬ x < 0) (h2 : x ≤ 1) (h3 : ¬ x = 0) : x = 1 := by
  obtain ⟨j, hj, rfl⟩ := nat_of (n := 1) (Int32.not_lt.mp h1) h2 (by decide)
  rcases (show j = 0 ∨ j = 1 by omega) with rfl | rfl
  · exact absurd rfl h3
  · rfl
theorem C_ask {d : Nat} {h : Hp} {Q : Option AV → Hp → Prop} {b m L e : Nat} {t what : Int32} (g : GI h b m L e) (hb : b = 17 ∨ b = 31) (hq1 : ∀ j, j < m → 1 ≤ kq h (b + 8 + j)) (kB : (¬ inR t m ∨ ¬ (0 ≤ what ∧ what ≤ 1)) → Q (some (vI (-1000001))) h)
    (kW : ∀ j : Nat, j < m → t = nI j → ∀ w : Nat, w ≤ 1 → what = nI w → Q (some (vI (casV (kq h (b + 8 + j)) w (hi h (b + 8 + j))))) (trL (seti h 7 1 0) 0 (casL (kq h (b + 8 + j)) w))) : Spec (d + 6) 141 [vR (some 0), vI t, vI what] h Q := by
  obtain ⟨hN, hC, h5, hc, hK, hT⟩ := id g
  obtain ⟨hc1, hc2, hc3, hc4, hc5, hc6⟩ := id hc
  refine spec_intro (by decide +kernel) rfl (Nat.le_of_ble_eq_true rfl) ?_
  refine r_aload_n (pc' := 1) d141_0 rfl rfl rfl ?_
  refine r_getS (pc' := 4) d141_1 rfl o141 sf11_52_11 sh0 (pl hN rfl) h5 ?_
  refine r_iload_n (pc' := 5) d141_4 rfl rfl rfl ?_
  refine r_call (pc' := 8) [vR (some b), vI _] [] d141_5 rfl o141 st11_177_10 (rcv1 (shY hb) (plo hN (by omega))) rfl (by decide) ⟨rfl, rfl⟩ (Nat.le_of_ble_eq_true rfl) rfl (y_thingAt hN hC hb hc (fun hbad => ?_) (fun j hj0 hj => ?_))
  · refine r_astore_nN (pc' := 9) (ls' := [(3, vR none), (0, vR (some 0)), (1, vI _), (2, vI _)]) d141_8 rfl rfl (by decide) rfl ?_
    refine r_aload_nN (pc' := 10) d141_9 rfl rfl rfl ?_
    refine r_nulN 22 (pc' := 13) d141_10 rfl rfl ?_
    refine r_ldc (pc' := 24) d141_22 rfl o141 kc11_100 ?_
    exact r_iretI d141_24 rfl (kB (by first | exact Or.inl hbad | exact Or.inr (fun w => absurd w.1 (Int32.not_le.mpr c14)) | exact Or.inr (fun w => c19 w.2)))
  · refine r_astore_n (pc' := 9) (ls' := [(3, vR (some (b + 8 + j))), (0, vR (some 0)), (1, vI _), (2, vI _)]) d141_8 rfl rfl (by decide) rfl ?_
    refine r_aload_n (pc' := 10) d141_9 rfl rfl rfl ?_
    refine r_nulS 22 (pc' := 13) d141_10 rfl rfl ?_
    refine r_iload_n (pc' := 14) d141_13 rfl rfl rfl ?_
    refine r_if_lt 22 (pc' := 17) d141_14 rfl rfl (fun c14 => ?_) (fun c14 => ?_)
    · refine r_ldc (pc' := 24) d141_22 rfl o141 kc11_100 ?_
      exact r_iretI d141_24 rfl (kB (by first | exact Or.inl hbad | exact Or.inr (fun w => absurd w.1 (Int32.not_le.mpr c14)) | exact Or.inr (fun w => c19 w.2)))
    · refine r_iload_n (pc' := 18) d141_17 rfl rfl rfl ?_
      refine r_iconst (v := 1) (pc' := 19) d141_18 rfl (by decide) ?_
      refine r_icmp_le 25 (pc' := 22) d141_19 rfl rfl (fun c19 => ?_) (fun c19 => ?_)
      · refine r_aload_n (pc' := 26) d141_25 rfl rfl rfl ?_
        refine r_getS (pc' := 29) d141_26 rfl o141 sf11_26_11 sh0 (pl hN rfl) (rfc0_2 hC) ?_
        refine r_iconst (v := 0) (pc' := 30) d141_29 rfl (by decide) ?_
        refine r_putI (pc' := 33) d141_30 rfl o141 sp11_409_9 sh7 (fun w => absurd w (by decide)) (Or.inl rfl) (pl hN rfl) ?_
        refine r_iload_n (pc' := 34) d141_33 rfl rfl rfl ?_
        refine r_if_ne 52 (pc' := 37) d141_34 rfl rfl (fun c34 => ?_) (fun c34 => ?_)
        · refine r_aload_n (pc' := 53) d141_52 rfl rfl rfl ?_
          refine r_getS (pc' := 56) d141_53 rfl o141 sf11_333_8 (shT hb (by omega)) (plo hN (by omega)) (hT j (by omega)).1 ?_
          refine r_aload_n (pc' := 57) d141_56 rfl rfl rfl ?_
          refine r_aload_n (pc' := 58) d141_57 rfl rfl rfl ?_
          refine r_getS (pc' := 61) d141_58 rfl o141 sf11_26_11 sh0 (pl hN rfl) (rfc0_2 hC) ?_
          refine r_ask61 hN hC (shT hb (by omega)) (by omega) rfl (hq1 j hj0) (hT j (by omega)).2 ?_
          exact r_iretI d141_64 rfl (qv (by rw [hi_seti_ne _ _ _ _ _ (show b + 8 + j ≠ 7 by omega)]) (kW j hj0 hj 1 (by decide) (by rw [ask1 c14 c19 c34]; rfl)))
        · refine r_aload_n (pc' := 38) d141_37 rfl rfl rfl ?_
          refine r_getS (pc' := 41) d141_38 rfl o141 sf11_333_8 (shT hb (by omega)) (plo hN (by omega)) (hT j (by omega)).1 ?_
          refine r_aload_n (pc' := 42) d141_41 rfl rfl rfl ?_
          refine r_aload_n (pc' := 43) d141_42 rfl rfl rfl ?_
          refine r_getS (pc' := 46) d141_43 rfl o141 sf11_26_11 sh0 (pl hN rfl) (rfc0_2 hC) ?_
          refine r_ask46 hN hC (shT hb (by omega)) (by omega) rfl (hq1 j hj0) (hT j (by omega)).2 ?_
          refine r_goto 64 d141_49 rfl ?_
          exact r_iretI d141_64 rfl (qv (by rw [hi_seti_ne _ _ _ _ _ (show b + 8 + j ≠ 7 by omega)]) (kW j hj0 hj 0 (by decide) (by rw [show what = 0 from c34]; rfl)))
      · refine r_ldc (pc' := 24) d141_22 rfl o141 kc11_100 ?_
        exact r_iretI d141_24 rfl (kB (by first | exact Or.inl hbad | exact Or.inr (fun w => absurd w.1 (Int32.not_le.mpr c14)) | exact Or.inr (fun w => c19 w.2)))
theorem C_trace {d : Nat} {h : Hp} {Q : Option AV → Hp → Prop} {i : Int32} {a : Nat} (hN : hn h = 65) (hC : RC h) (ha : hi h 7 1 = nI a) (ha16 : a ≤ 16) (kN : ¬ inR i a → Q (some (vI (-1000000))) h)
    (kW : ∀ j : Nat, j < a → i = nI j → Q (some (vI (hi h 8 j))) h) : Spec d 142 [vR (some 0), vI i] h Q := by
  refine spec_intro (by decide +kernel) rfl (Nat.le_of_ble_eq_true rfl) ?_
  refine r_iload_n (pc' := 1) d142_0 rfl rfl rfl ?_
  refine r_if_lt 27 (pc' := 4) d142_1 rfl rfl (fun c1 => ?_) (fun c1 => ?_)
  · refine r_ldc (pc' := 29) d142_27 rfl o142 kc11_243 ?_
    exact r_iretI d142_29 rfl (kN (inr4 (by omega) (by first | exact Or.inl c1 | exact Or.inr c12)))
  · refine r_iload_n (pc' := 5) d142_4 rfl rfl rfl ?_
    refine r_aload_n (pc' := 6) d142_5 rfl rfl rfl ?_
    refine r_getS (pc' := 9) d142_6 rfl o142 sf11_26_11 sh0 (pl hN rfl) (rfc0_2 hC) ?_
    refine r_getI (pc' := 12) d142_9 rfl o142 sf11_409_9 sh7 (pl hN rfl) ?_
    refine wp_v ha ?_
    refine r_icmp_ge 27 (pc' := 15) d142_12 rfl rfl (fun c12 => ?_) (fun c12 => ?_)
    · refine r_ldc (pc' := 29) d142_27 rfl o142 kc11_243 ?_
      exact r_iretI d142_29 rfl (kN (inr4 (by omega) (by first | exact Or.inl c1 | exact Or.inr c12)))
    · obtain ⟨j, hj0, rfl⟩ := inr1 (m := a) c1 c12 (by omega)
      refine r_aload_n (pc' := 16) d142_15 rfl rfl rfl ?_
      refine r_getS (pc' := 19) d142_16 rfl o142 sf11_26_11 sh0 (pl hN rfl) (rfc0_2 hC) ?_
      refine r_getS (pc' := 22) d142_19 rfl o142 sf11_417_9 sh7 (pl hN rfl) (rfc7_0 hC) ?_
      refine r_iload_n (pc' := 23) d142_22 rfl rfl rfl ?_
      refine r_ialdN (pc' := 24) (j := j) d142_23 rfl sh8 (pl hN rfl) rfl (by omega) (by decide) ?_
      refine r_goto 29 d142_24 rfl ?_
      exact r_iretI d142_29 rfl (kW j hj0 rfl)
theorem C_fault {d : Nat} {h : Hp} {Q : Option AV → Hp → Prop} (hN : hn h = 65) (hC : RC h) (k : Q (some (vI (hi h 5 5))) h) : Spec d 95 [vR (some 0)] h Q := by
  refine spec_intro (by decide +kernel) rfl (Nat.le_of_ble_eq_true rfl) ?_
  refine r_aload_n (pc' := 1) d95_0 rfl rfl rfl ?_
  refine r_getS (pc' := 4) d95_1 rfl o95 sf11_19_11 sh0 (pl hN rfl) (rfc0_1 hC) ?_
  refine r_getI (pc' := 7) d95_4 rfl o95 sf11_164_4 sh5 (pl hN rfl) ?_
  exact r_iretI d95_7 rfl k
theorem C_status {d : Nat} {h : Hp} {Q : Option AV → Hp → Prop} (hN : hn h = 65) (k : Q (some (vI (hi h 0 16))) h) : Spec d 144 [vR (some 0)] h Q := by
  refine spec_intro (by decide +kernel) rfl (Nat.le_of_ble_eq_true rfl) ?_
  refine r_aload_n (pc' := 1) d144_0 rfl rfl rfl ?_
  refine r_getI (pc' := 4) d144_1 rfl o144 sf11_134_11 sh0 (pl hN rfl) ?_
  exact r_iretI d144_4 rfl k
theorem c_take {d : Nat} {h : Hp} {Q : Option AV → Hp → Prop} {a : Nat} {v : Int32} (hN : hn h = 65) (hC : RC h) (ha : hi h 5 1 = nI a) (ha160 : a ≤ 160) (kF : a = 160 → Q (some (vI 0)) h) (kW : a < 160 → Q (some (vI 1)) (seti (seti h 6 a v) 5 1 (nI (a + 1)))) : Spec d 14 [vR (some 5), vI v] h Q := by
  refine spec_intro (by decide +kernel) rfl (Nat.le_of_ble_eq_true rfl) ?_
  refine r_aload_n (pc' := 1) d14_0 rfl rfl rfl ?_
  refine r_getI (pc' := 4) d14_1 rfl o14 sf4_15_4 sh5 (pl hN rfl) ?_
  refine wp_v ha ?_
  refine r_sipush (v := 160) (pc' := 7) d14_4 rfl (by decide) ?_
  refine r_icmp_lt 12 (pc' := 10) d14_7 rfl rfl (fun c7 => ?_) (fun c7 => ?_)
  · have ha1 : a < 160 := (nI_ltI (by omega) (by decide)).mp c7
    refine r_aload_n (pc' := 13) d14_12 rfl rfl rfl ?_
    refine r_getS (pc' := 16) d14_13 rfl o14 sf4_11_4 sh5 (pl hN rfl) (rfc5_0 hC) ?_
    refine r_aload_n (pc' := 17) d14_16 rfl rfl rfl ?_
    refine r_getI (pc' := 20) d14_17 rfl o14 sf4_15_4 sh5 (pl hN rfl) ?_
    refine wp_v ha ?_
    refine r_iload_n (pc' := 21) d14_20 rfl rfl rfl ?_
    refine r_iastN (pc' := 22) (j := a) d14_21 rfl sh6 (pl hN rfl) rfl (by omega) (by decide) ?_
    refine r_aload_n (pc' := 23) d14_22 rfl rfl rfl ?_
    refine r_dupR (pc' := 24) d14_23 rfl ?_
    refine r_getI (pc' := 27) d14_24 rfl o14 sf4_15_4 sh5 (pl hN rfl) ?_
    refine wp_v ha ?_
    refine r_iconst (v := 1) (pc' := 28) d14_27 rfl (by decide) ?_
    refine r_iadd (pc' := 29) d14_28 rfl ?_
    refine r_putI (pc' := 32) d14_29 rfl o14 sp4_15_4 sh5 (fun w => absurd w (by decide)) (Or.inl rfl) (pl hN rfl) ?_
    refine r_iconst (v := 1) (pc' := 33) d14_32 rfl (by decide) ?_
    exact r_iretZ1 d14_33 rfl (qh (congrArg (seti _ 5 1) (nI_1 a).symm) (kW ha1))
  · refine r_iconst (v := 0) (pc' := 11) d14_10 rfl (by decide) ?_
    exact r_iretZ0 d14_11 rfl (kF (by rcases Nat.lt_or_ge a 160 with z | z; exact absurd (nI_lt (a := a) (b := 160) z (by decide)) c7; omega))
theorem C_feed {d : Nat} {h : Hp} {Q : Option AV → Hp → Prop} {letter : Int32} {a : Nat} (hN : hn h = 65) (hC : RC h) (ha : hi h 5 1 = nI a) (ha160 : a ≤ 160) (kB : ¬ (0 ≤ letter ∧ letter ≤ 255) → Q (some (vI (-1000001))) h)
    (kF : (0 ≤ letter ∧ letter ≤ 255) → a = 160 → Q (some (vI (-1000003))) h)
    (kW : (0 ≤ letter ∧ letter ≤ 255) → a < 160 → Q (some (vI (nI (a + 1)))) (seti (seti h 6 a letter) 5 1 (nI (a + 1)))) : Spec (d + 1) 93 [vR (some 0), vI letter] h Q := by
  refine spec_intro (by decide +kernel) rfl (Nat.le_of_ble_eq_true rfl) ?_
  refine r_iload_n (pc' := 1) d93_0 rfl rfl rfl ?_
  refine r_if_lt 11 (pc' := 4) d93_1 rfl rfl (fun c1 => ?_) (fun c1 => ?_)
  · refine r_ldc (pc' := 13) d93_11 rfl o93 kc11_100 ?_
    exact r_iretI d93_13 rfl (kB (by first | exact fun w => absurd w.1 (Int32.not_le.mpr c1) | exact fun w => c8 w.2))
  · refine r_iload_n (pc' := 5) d93_4 rfl rfl rfl ?_
    refine r_sipush (v := 255) (pc' := 8) d93_5 rfl (by decide) ?_
    refine r_icmp_le 14 (pc' := 11) d93_8 rfl rfl (fun c8 => ?_) (fun c8 => ?_)
    · refine r_aload_n (pc' := 15) d93_14 rfl rfl rfl ?_
      refine r_getS (pc' := 18) d93_15 rfl o93 sf11_19_11 sh0 (pl hN rfl) (rfc0_1 hC) ?_
      refine r_iload_n (pc' := 19) d93_18 rfl rfl rfl ?_
      refine r_call (pc' := 22) [vR (some 5), vI _] [] d93_19 rfl o93 st11_139_4 (rcv1 sh5 (pl hN rfl)) rfl (by decide) ⟨rfl, rfl⟩ (Nat.le_of_ble_eq_true rfl) rfl (c_take hN hC ha ha160 (fun hf => ?_) (fun hf => ?_))
      · refine r_if_eq 35 (pc' := 25) d93_22 rfl rfl (fun c22 => ?_) (fun c22 => absurd (by decide) c22)
        refine r_ldc (pc' := 37) d93_35 rfl o93 kc11_145 ?_
        exact r_iretI d93_37 rfl (kF ⟨Int32.not_lt.mp c1, c8⟩ hf)
      · refine r_if_eq 35 (pc' := 25) d93_22 rfl rfl (fun c22 => absurd c22 (by decide)) (fun c22 => ?_)
        refine r_aload_n (pc' := 26) d93_25 rfl rfl rfl ?_
        refine r_getS (pc' := 29) d93_26 rfl o93 sf11_19_11 sh0 (pl hN rfl) (rfc0_1 hC) ?_
        refine r_getI (pc' := 32) d93_29 rfl o93 sf11_142_4 sh5 (pl hN rfl) ?_
        refine r_goto 37 d93_32 rfl ?_
        exact r_iretI d93_37 rfl (kW ⟨Int32.not_lt.mp c1, c8⟩ hf)
    · refine r_ldc (pc' := 13) d93_11 rfl o93 kc11_100 ?_
      exact r_iretI d93_13 rfl (kB (by first | exact fun w => absurd w.1 (Int32.not_le.mpr c1) | exact fun w => c8 w.2))
