/-! the class: servable, hand, judged, fuel (printed by wip/whole/m64.py) -/
theorem C_fuel {d : Nat} {h : Hp} {Q : Option AV → Hp → Prop} {b m L e : Nat} (g : GI h b m L e) (hb : b = 17 ∨ b = 31) (kS : hi h 0 7 = 0 → Q (some (vI (-1000002))) h) (kW : ¬ hi h 0 7 = 0 → Q (some (vI (if (200 : Int32) < (mfV (hi h b) (mxS (hi h (b + 2)) L)) then -1000000 else (mfV (hi h b) (mxS (hi h (b + 2)) L))))) h) : Spec (d + 2) 134 [vR (some 0)] h Q := by
  obtain ⟨hN, hC, h5, hc, hK, hT⟩ := id g
  obtain ⟨hc1, hc2, hc3, hc4, hc5, hc6⟩ := id hc
  refine spec_intro (by decide +kernel) rfl (Nat.le_of_ble_eq_true rfl) ?_
  refine r_aload_n (pc' := 1) d134_0 rfl rfl rfl ?_
  refine r_getI (pc' := 4) d134_1 rfl o134 sf11_154_11 sh0 (pl hN rfl) ?_
  refine r_if_ne 10 (pc' := 7) d134_4 rfl rfl (fun c4 => ?_) (fun c4 => ?_)
  · refine r_aload_n (pc' := 11) d134_10 rfl rfl rfl ?_
    refine r_getS (pc' := 14) d134_11 rfl o134 sf11_52_11 sh0 (pl hN rfl) h5 ?_
    refine r_call (pc' := 17) [vR (some b)] [] d134_14 rfl o134 st11_396_10 (rcv1 (shY hb) (plo hN (by omega))) rfl (by decide) ⟨rfl, rfl⟩ (Nat.le_of_ble_eq_true rfl) rfl (y_minutesOfFire hN hC hb hc ?_)
    refine r_istore_n (pc' := 18) (ls' := [(1, vI _), (0, vR (some 0))]) d134_17 rfl rfl (by decide) rfl ?_
    refine r_iload_n (pc' := 19) d134_18 rfl rfl rfl ?_
    refine r_sipush (v := 200) (pc' := 22) d134_19 rfl (by decide) ?_
    refine r_icmp_le 30 (pc' := 25) d134_22 rfl rfl (fun c22 => ?_) (fun c22 => ?_)
    · refine r_iload_n (pc' := 31) d134_30 rfl rfl rfl ?_
      exact r_iretI d134_31 rfl (qv (if_neg (Int32.not_lt.mpr c22)) (kW c4))
    · refine r_ldc (pc' := 27) d134_25 rfl o134 kc11_243 ?_
      refine r_goto 31 d134_27 rfl ?_
      exact r_iretI d134_31 rfl (qv (if_pos (Int32.not_le.mp c22)) (kW c4))
  · refine r_ldc (pc' := 9) d134_7 rfl o134 kc11_167 ?_
    exact r_iretI d134_9 rfl (kS c4)
theorem trN_ex {y cc cf cr : Nat → Int32} {L q : Nat} {f g : Nat → Int32} (h : ex27 f g) : ∀ n, ex27 (trN y cc cf cr L q f n) (trN y cc cf cr L q g n) := by
  intro n
  induction n with
  | zero => exact h
  | succ n ih => exact rsV_ext ih
abbrev trH (h : Hp) (b L k n : Nat) : Nat → Int32 := trN (hi h b) (hi h (b + 1)) (hi h (b + 2)) (hi h (b + 3)) L (kq h (b + 8 + k)) (hi h (b + 8 + k)) n
def daS (h : Hp) (b L n : Nat) : Nat → Int32
  | 0 => 0
  | k + 1 => if hi h (b + 8 + k) 2 = 13 then daS h b L n k else daS h b L n k ||| (bI (dnV (kq h (b + 8 + k)) (trH h b L k n)) <<< (nI k &&& 31))
theorem t_servedT {d : Nat} {h : Hp} {Q : Option AV → Hp → Prop} {b m L e q j : Nat} {f : Nat → Int32} (g : GI h b m L e) (hb : b = 17 ∨ b = 31) (hj : j < 6) (k : Q (some (vI (bI (hi h (b + 8 + j) 2 = 13)))) (tH h q f)) : Spec d 47 [vR (some (b + 8 + j))] (tH h q f) Q := by
  have g2 := g.t (q := q) (f := f) hb
  refine t_isServed g2.1 (shT hb hj) (by omega) ?_
  rw [tH_o (by omega)]
  exact k
theorem rTh {h : Hp} {b i : Nat} (hC : RC h) (hb : b = 17 ∨ b = 31) (hi0 : i < 6) : hr h (b + 4) i = some (b + 8 + i) := by
  rcases hb with rfl | rfl
  · exact hC.2.2.1 i hi0
  · exact hC.2.2.2 i hi0
theorem c_doneAhead {d : Nat} {h : Hp} {Q : Option AV → Hp → Prop} {b m L e n : Nat} (g : GI h b m L e) (hb : b = 17 ∨ b = 31) (t16 : T16 h) (hbz : ∀ j, j < m → hi h (b + 8 + j) 7 = 0 ∨ hi h (b + 8 + j) 7 = 1) (hn60 : n ≤ 60) (kk : ∀ q f, q < 6 → Q (some (vI (daS h b L n m))) (tH h q f)) : Spec (d + 5) 128 [vR (some 0), vI (nI n)] h Q := by
  obtain ⟨hN, hC, h5, hc, hK, hT⟩ := id g
  obtain ⟨hc1, hc2, hc3, hc4, hc5, hc6⟩ := id hc
  refine spec_intro (by decide +kernel) rfl (Nat.le_of_ble_eq_true rfl) ?_
  refine r_iconst (v := 0) (pc' := 1) d128_0 rfl (by decide) ?_
  refine r_istore_n (pc' := 2) (ls' := [(2, vI _), (0, vR (some 0)), (1, vI _)]) d128_1 rfl rfl (by decide) rfl ?_
  refine r_iconst (v := 0) (pc' := 3) d128_2 rfl (by decide) ?_
  refine r_istore_n (pc' := 4) (ls' := [(3, vI _), (2, vI _), (0, vR (some 0)), (1, vI _)]) d128_3 rfl rfl (by decide) rfl ?_
  refine wp_pick (ls' := [(0, vR (some 0)), (1, vI _), (2, vI _), (3, vI _)]) [2, 3, 1, 0] rfl ?_
  have loop : ∀ (r k q : Nat) (f : Nat → Int32), k + r = m → q < 6 → wp (d + 5) 128 Q 0 0 4 [(0, vR (some 0)), (1, vI (nI n)), (2, vI (daS h b L n k)), (3, vI (nI k))] [] (tH h q f) := by
    intro r
    induction r with
    | zero =>
      intro k q f hk hqq
      obtain ⟨gN, gC, g5, gc, gK, gT⟩ := g.t (q := q) (f := f) hb
      obtain rfl : k = m := by omega
      refine r_iload_n (pc' := 5) d128_4 rfl rfl rfl ?_
      refine r_aload_n (pc' := 6) d128_5 rfl rfl rfl ?_
      refine r_getS (pc' := 9) d128_6 rfl o128 sf11_52_11 sh0 (pl gN rfl) g5 ?_
      refine r_getI (pc' := 12) d128_9 rfl o128 sf11_161_10 (shY hb) (plo gN (by omega)) ?_
      refine wp_v gc.1 ?_
      refine r_icmp_ge 65 (pc' := 15) d128_12 rfl rfl (fun c12 => ?_) (fun c12 => absurd (nI_le (Nat.le_refl _) (by omega)) c12)
      refine r_iload_n (pc' := 66) d128_65 rfl rfl rfl ?_
      exact r_iretI d128_66 rfl (kk _ _ hqq)
    | succ r ih =>
      intro k q f hk hqq
      obtain ⟨gN, gC, g5, gc, gK, gT⟩ := g.t (q := q) (f := f) hb
      refine r_iload_n (pc' := 5) d128_4 rfl rfl rfl ?_
      refine r_aload_n (pc' := 6) d128_5 rfl rfl rfl ?_
      refine r_getS (pc' := 9) d128_6 rfl o128 sf11_52_11 sh0 (pl gN rfl) g5 ?_
      refine r_getI (pc' := 12) d128_9 rfl o128 sf11_161_10 (shY hb) (plo gN (by omega)) ?_
      refine wp_v gc.1 ?_
      refine r_icmp_ge 65 (pc' := 15) d128_12 rfl rfl (fun c12 => absurd c12 (nI_ge (by omega) (by omega))) (fun c12 => ?_)
      refine r_aload_n (pc' := 16) d128_15 rfl rfl rfl ?_
      refine r_getS (pc' := 19) d128_16 rfl o128 sf11_52_11 sh0 (pl gN rfl) g5 ?_
      refine r_getS (pc' := 22) d128_19 rfl o128 sf11_373_10 (shY hb) (plo gN (by omega)) (rY9 gC hb) ?_
      refine r_iload_n (pc' := 23) d128_22 rfl rfl rfl ?_
      refine r_aaldTN (pc' := 24) (j := k) d128_23 rfl (shY4 hb) (plo gN (by omega)) rfl (by omega) (by decide) (rTh gC hb (by omega)) ?_
      refine r_call (pc' := 27) [vR (some (b + 8 + k))] [] d128_24 rfl o128 st11_181_8 (rcv1 (shT hb (by omega)) (plo gN (by omega))) rfl (by decide) ⟨rfl, rfl⟩ (Nat.le_of_ble_eq_true rfl) rfl (t_servedT g hb (by omega) ?_)
      refine r_if_neB 59 (pc' := 30) d128_27 rfl rfl (fun c27 => ?_) (fun c27 => ?_)
      · refine r_iinc (v := _ + 1) (pc' := 62) (ls' := [(3, vI _), (0, vR (some 0)), (1, vI _), (2, vI _)]) d128_59 rfl rfl rfl (by decide) rfl ?_
        refine r_goto 4 d128_62 rfl ?_
        refine wp_pick (ls' := [(0, vR (some 0)), (1, vI _), (2, vI _), (3, vI _)]) [1, 2, 3, 0] rfl ?_
        rw [nI_1]
        have z := ih (k + 1) q f (by omega) hqq
        rw [daS, if_pos c27] at z
        exact z
      · refine r_aload_n (pc' := 31) d128_30 rfl rfl rfl ?_
        refine r_aload_n (pc' := 32) d128_31 rfl rfl rfl ?_
        refine r_getS (pc' := 35) d128_32 rfl o128 sf11_52_11 sh0 (pl gN rfl) g5 ?_
        refine r_getS (pc' := 38) d128_35 rfl o128 sf11_373_10 (shY hb) (plo gN (by omega)) (rY9 gC hb) ?_
        refine r_iload_n (pc' := 39) d128_38 rfl rfl rfl ?_
        refine r_aaldTN (pc' := 40) (j := k) d128_39 rfl (shY4 hb) (plo gN (by omega)) rfl (by omega) (by decide) (rTh gC hb (by omega)) ?_
        refine r_iload_n (pc' := 41) d128_40 rfl rfl rfl ?_
        refine r_call (pc' := 44) [vR (some 0), vR (some (b + 8 + k)), vI _] [] d128_41 rfl o128 st11_281_11 (rcv1 sh0 (pl gN rfl)) rfl (by decide) ⟨rfl, rfl⟩ (Nat.le_of_ble_eq_true rfl) rfl (c_tryAsItLies g hb (by omega) (hbz k (by omega)) (by omega) ?_)
        have hkk := (g.2.2.2.2.2 k (by omega)).2
        obtain ⟨gN, gC, g5, gc, gK, gT⟩ := g.t (q := kq h (b + 8 + k)) (f := trN (hi h b) (hi h (b + 1)) (hi h (b + 2)) (hi h (b + 3)) L (kq h (b + 8 + k)) (becV f (hi h (b + 8 + k))) n) hb
        refine r_iload_n (pc' := 45) d128_44 rfl rfl rfl ?_
        refine r_aload_n (pc' := 46) d128_45 rfl rfl rfl ?_
        refine r_getS (pc' := 49) d128_46 rfl o128 sf11_43_11 sh0 (pl gN rfl) (rfc0_4 gC) ?_
        refine r_call (pc' := 52) [vR (some 16)] [vI _] d128_49 rfl o128 st11_214_8 (rcv1 sh16 (pl gN rfl)) rfl (by decide) ⟨rfl, rfl⟩ (Nat.le_of_ble_eq_true rfl) rfl (t_doneT g hb hkk ?_)
        refine r_call (pc' := 55) [vI _] [vI _] d128_52 rfl o128 st11_253 rcv0 rfl (by decide) ⟨rfl, rfl⟩ (Nat.le_of_ble_eq_true rfl) rfl (t_asBitB ?_)
        refine r_iload_n (pc' := 56) d128_55 rfl rfl rfl ?_
        refine r_ishl (pc' := 57) d128_56 rfl ?_
        refine r_ior (pc' := 58) d128_57 rfl ?_
        refine r_istore_n (pc' := 59) (ls' := [(2, vI _), (0, vR (some 0)), (1, vI _), (3, vI _)]) d128_58 rfl rfl (by decide) rfl ?_
        refine r_iinc (v := _ + 1) (pc' := 62) (ls' := [(3, vI _), (2, vI _), (0, vR (some 0)), (1, vI _)]) d128_59 rfl rfl rfl (by decide) rfl ?_
        refine r_goto 4 d128_62 rfl ?_
        refine wp_pick (ls' := [(0, vR (some 0)), (1, vI _), (2, vI _), (3, vI _)]) [2, 3, 1, 0] rfl ?_
        rw [nI_1]
        have z := ih (k + 1) (kq h (b + 8 + k)) (trN (hi h b) (hi h (b + 1)) (hi h (b + 2)) (hi h (b + 3)) L (kq h (b + 8 + k)) (becV f (hi h (b + 8 + k))) n) (by omega) hkk
        rw [daS, if_neg c27, ← bI_iff (dn_ex (trN_ex (fun i h2 h7 => bec2 f (hi h (b + 8 + k)) i h2 h7) n))] at z
        exact z
  have z := loop m 0 (kq h 16) (hi h 16) (by omega) t16.2
  rw [← tH_self t16] at z
  exact z
theorem y_wantsT {d : Nat} {h : Hp} {Q : Option AV → Hp → Prop} {b m L e q j z : Nat} {n : Int32} {f : Nat → Int32} (g : GI h b m L e) (hb : b = 17 ∨ b = 31) (hj : j < 6) (hz : z < 4) (k : Q (some (vI (bI (wanC h b z (kq h (b + 8 + j)) n)))) (tH h q f)) : Spec d 69 [vR (some b), vI (nI z), vR (some (b + 8 + j)), vI n] (tH h q f) Q := by
  have g2 := g.t (q := q) (f := f) hb
  refine y_wants (q := kq h (b + 8 + j)) g2.1 g2.2.1 hb (shT hb hj) (by omega) g2.2.2.2.2.1 (by rw [tH_r (by omega)]; exact (g.2.2.2.2.2 j hj).1) (g.2.2.2.2.2 j hj).2 hz ?_
  refine qv (bI_iff ?_) k
  unfold wanC
  rw [tH_o (by omega), tH_o (by omega), tH_o (by omega), tH_o (by omega)]
abbrev fiC (h : Hp) (b z : Nat) (set n : Int32) (k : Nat) : Prop := ¬ ((set >>> (nI k &&& 31)) &&& 1 = 0) ∧ wanC h b z (kq h (b + 8 + k)) n
def fiF (h : Hp) (b z : Nat) (set n : Int32) : Nat → Nat → Int32
  | 0, _ => -1000000
  | r + 1, k => if fiC h b z set n k then nI k else fiF h b z set n r (k + 1)
theorem fiF_rg (h : Hp) (b z : Nat) (set n : Int32) : ∀ r k, fiF h b z set n r k = -1000000 ∨ ∃ i, k ≤ i ∧ i < k + r ∧ fiF h b z set n r k = nI i := by
  intro r
  induction r with
  | zero => intro k; exact Or.inl rfl
  | succ r ih =>
    intro k
    unfold fiF
    split
    · exact Or.inr ⟨k, Nat.le_refl _, by omega, rfl⟩
    · rcases ih (k + 1) with e | ⟨i, h1, h2, e⟩
      · exact Or.inl e
      · exact Or.inr ⟨i, by omega, by omega, e⟩
theorem c_firstFor {d : Nat} {h : Hp} {Q : Option AV → Hp → Prop} {b m L e q z : Nat} {set n : Int32} {f : Nat → Int32} (g : GI h b m L e) (hb : b = 17 ∨ b = 31) (hz : z < 4) (kk : Q (some (vI (fiF h b z set n m 0))) (tH h q f)) : Spec (d + 1) 129 [vR (some 0), vI (nI z), vI set, vI n] (tH h q f) Q := by
  obtain ⟨gN, gC, g5, gc, gK, gT⟩ := g.t (q := q) (f := f) hb
  obtain ⟨hc1, hc2, hc3, hc4, hc5, hc6⟩ := id g.2.2.2.1
  refine spec_intro (by decide +kernel) rfl (Nat.le_of_ble_eq_true rfl) ?_
  refine r_iconst (v := 0) (pc' := 1) d129_0 rfl (by decide) ?_
  refine r_istore (pc' := 3) (ls' := [(4, vI _), (0, vR (some 0)), (1, vI _), (2, vI _), (3, vI _)]) d129_1 rfl (by decide) rfl ?_
  refine wp_pick (ls' := [(0, vR (some 0)), (1, vI _), (2, vI _), (3, vI _), (4, vI _)]) [1, 2, 3, 4, 0] rfl ?_
  have loop : ∀ (r k : Nat), k + r = m → Q (some (vI (fiF h b z set n r k))) (tH h q f) → wp (d + 1) 129 Q 0 0 3 [(0, vR (some 0)), (1, vI (nI z)), (2, vI set), (3, vI n), (4, vI (nI k))] [] (tH h q f) := by
    intro r
    induction r with
    | zero =>
      intro k hk kq0
      obtain rfl : k = m := by omega
      refine r_iload (pc' := 5) d129_3 rfl rfl ?_
      refine r_aload_n (pc' := 6) d129_5 rfl rfl rfl ?_
      refine r_getS (pc' := 9) d129_6 rfl o129 sf11_52_11 sh0 (pl gN rfl) g5 ?_
      refine r_getI (pc' := 12) d129_9 rfl o129 sf11_161_10 (shY hb) (plo gN (by omega)) ?_
      refine wp_v gc.1 ?_
      refine r_icmp_ge 55 (pc' := 15) d129_12 rfl rfl (fun c12 => ?_) (fun c12 => absurd (nI_le (Nat.le_refl _) (by omega)) c12)
      refine r_ldc (pc' := 57) d129_55 rfl o129 kc11_243 ?_
      exact r_iretI d129_57 rfl kq0
    | succ r ih =>
      intro k hk kq0
      unfold fiF at kq0
      refine r_iload (pc' := 5) d129_3 rfl rfl ?_
      refine r_aload_n (pc' := 6) d129_5 rfl rfl rfl ?_
      refine r_getS (pc' := 9) d129_6 rfl o129 sf11_52_11 sh0 (pl gN rfl) g5 ?_
      refine r_getI (pc' := 12) d129_9 rfl o129 sf11_161_10 (shY hb) (plo gN (by omega)) ?_
      refine wp_v gc.1 ?_
      refine r_icmp_ge 55 (pc' := 15) d129_12 rfl rfl (fun c12 => absurd c12 (nI_ge (by omega) (by omega))) (fun c12 => ?_)
      refine r_iload_n (pc' := 16) d129_15 rfl rfl rfl ?_
      refine r_iload (pc' := 18) d129_16 rfl rfl ?_
      refine r_ishr (pc' := 19) d129_18 rfl ?_
      refine r_iconst (v := 1) (pc' := 20) d129_19 rfl (by decide) ?_
      refine r_iand (pc' := 21) d129_20 rfl ?_
      refine r_if_eq 49 (pc' := 24) d129_21 rfl rfl (fun c21 => ?_) (fun c21 => ?_)
      · refine r_iinc (v := _ + 1) (pc' := 52) (ls' := [(4, vI _), (0, vR (some 0)), (1, vI _), (2, vI _), (3, vI _)]) d129_49 rfl rfl rfl (by decide) rfl ?_
        refine r_goto 3 d129_52 rfl ?_
        refine wp_pick (ls' := [(0, vR (some 0)), (1, vI _), (2, vI _), (3, vI _), (4, vI _)]) [1, 2, 3, 4, 0] rfl ?_
        rw [nI_1]
        refine ih (k + 1) (by omega) ?_
        rw [if_neg (fun y => y.1 c21)] at kq0
        exact kq0
      · refine r_aload_n (pc' := 25) d129_24 rfl rfl rfl ?_
        refine r_getS (pc' := 28) d129_25 rfl o129 sf11_52_11 sh0 (pl gN rfl) g5 ?_
        refine r_iload_n (pc' := 29) d129_28 rfl rfl rfl ?_
        refine r_aload_n (pc' := 30) d129_29 rfl rfl rfl ?_
        refine r_getS (pc' := 33) d129_30 rfl o129 sf11_52_11 sh0 (pl gN rfl) g5 ?_
        refine r_getS (pc' := 36) d129_33 rfl o129 sf11_373_10 (shY hb) (plo gN (by omega)) (rY9 gC hb) ?_
        refine r_iload (pc' := 38) d129_36 rfl rfl ?_
        refine r_aaldTN (pc' := 39) (j := k) d129_38 rfl (shY4 hb) (plo gN (by omega)) rfl (by omega) (by decide) (rTh gC hb (by omega)) ?_
        refine r_iload_n (pc' := 40) d129_39 rfl rfl rfl ?_
        refine r_call (pc' := 43) [vR (some b), vI _, vR (some (b + 8 + k)), vI _] [] d129_40 rfl o129 st11_217_10 (rcv1 (shY hb) (plo gN (by omega))) rfl (by decide) ⟨rfl, rfl⟩ (Nat.le_of_ble_eq_true rfl) rfl (y_wantsT g hb (by omega) hz ?_)
        refine r_if_eqB 49 (pc' := 46) d129_43 rfl rfl (fun c43 => ?_) (fun c43 => ?_)
        · refine r_iinc (v := _ + 1) (pc' := 52) (ls' := [(4, vI _), (0, vR (some 0)), (1, vI _), (2, vI _), (3, vI _)]) d129_49 rfl rfl rfl (by decide) rfl ?_
          refine r_goto 3 d129_52 rfl ?_
          refine wp_pick (ls' := [(0, vR (some 0)), (1, vI _), (2, vI _), (3, vI _), (4, vI _)]) [1, 2, 3, 4, 0] rfl ?_
          rw [nI_1]
          refine ih (k + 1) (by omega) ?_
          rw [if_neg (fun y => c43 y.2)] at kq0
          exact kq0
        · refine r_iload (pc' := 48) d129_46 rfl rfl ?_
          exact r_iretI d129_48 rfl (by rw [if_pos ⟨c21, c43⟩] at kq0; exact kq0)
  exact loop m 0 (by omega) kk
def seP (h : Hp) (b m : Nat) (n D : Int32) : Nat → Int32 × Nat
  | 0 => (D, 0)
  | k + 1 => if fiF h b k (seP h b m n D k).1 n m 0 = -1000000 then seP h b m n D k else ((seP h b m n D k).1 &&& (((1 : Int32) <<< (fiF h b k (seP h b m n D k).1 n m 0 &&& 31)) ^^^ (-1 : Int32)), (seP h b m n D k).2 + 1)
theorem seP_le (h : Hp) (b m : Nat) (n D : Int32) : ∀ k, (seP h b m n D k).2 ≤ k := by
  intro k
  induction k with
  | zero => exact Nat.le_refl _
  | succ k ih =>
    unfold seP
    split
    · omega
    · show (seP h b m n D k).2 + 1 ≤ k + 1
      omega
theorem C_servable {d : Nat} {h : Hp} {Q : Option AV → Hp → Prop} {b m L e : Nat} {u ea : Int32} (g : GI h b m L e) (hb : b = 17 ∨ b = 31) (t16 : T16 h) (hbz : ∀ j, j < m → hi h (b + 8 + j) 7 = 0 ∨ hi h (b + 8 + j) 7 = 1) (kS : hi h 0 7 = 0 → Q (some (vI (-1000002))) h) (kB : ¬ hi h 0 7 = 0 → (¬ (0 ≤ u ∧ u ≤ 60) ∨ (¬ ea = -1 ∧ ¬ inR ea e)) → Q (some (vI (-1000001))) h)
    (kM : ¬ hi h 0 7 = 0 → ∀ n : Nat, n ≤ 60 → u = nI n → ea = -1 → ∀ q f, q < 6 → Q (some (vI (nI (seP h b m (nI n) (daS h b L n m) e).2))) (tH h q f))
    (kE : ¬ hi h 0 7 = 0 → ∀ n : Nat, n ≤ 60 → u = nI n → ∀ z : Nat, z < e → ea = nI z → ∀ q f, q < 6 → Q (some (vI (fiF h b z (seP h b m (nI n) (daS h b L n m) z).1 (nI n) m 0))) (tH h q f)) : Spec (d + 6) 127 [vR (some 0), vI u, vI ea] h Q := by
  obtain ⟨hN, hC, h5, hc, hK, hT⟩ := id g
  obtain ⟨hc1, hc2, hc3, hc4, hc5, hc6⟩ := id hc
  refine spec_intro (by decide +kernel) rfl (Nat.le_of_ble_eq_true rfl) ?_
  refine r_aload_n (pc' := 1) d127_0 rfl rfl rfl ?_
  refine r_getI (pc' := 4) d127_1 rfl o127 sf11_154_11 sh0 (pl hN rfl) ?_
  refine r_if_ne 10 (pc' := 7) d127_4 rfl rfl (fun c4 => ?_) (fun c4 => ?_)
  · refine r_iload_n (pc' := 11) d127_10 rfl rfl rfl ?_
    refine r_iconst (v := 0) (pc' := 12) d127_11 rfl (by decide) ?_
    refine r_call (pc' := 15) [vI _, vI _] [] d127_12 rfl o127 st11_278 rcv0 rfl (by decide) ⟨rfl, rfl⟩ (Nat.le_of_ble_eq_true rfl) rfl (c_isAhead ?_)
    refine r_if_eqB 34 (pc' := 18) d127_15 rfl rfl (fun c15 => ?_) (fun c15 => ?_)
    · refine r_ldc (pc' := 36) d127_34 rfl o127 kc11_100 ?_
      exact r_iretI d127_36 rfl (kB c4 (by first | exact Or.inl c15 | exact Or.inr ⟨c20, c31⟩))
    · refine r_iload_n (pc' := 19) d127_18 rfl rfl rfl ?_
      refine r_iconst (v := (-1)) (pc' := 20) d127_19 rfl (by decide) ?_
      refine r_icmp_eq 37 (pc' := 23) d127_20 rfl rfl (fun c20 => ?_) (fun c20 => ?_)
      · obtain ⟨n, hn60, rfl⟩ := nat2 (n := 60) c15 (by decide)
        have hea : ea = -1 ∨ inR ea e := Or.inl c20
        refine r_aload_n (pc' := 38) d127_37 rfl rfl rfl ?_
        refine r_iload_n (pc' := 39) d127_38 rfl rfl rfl ?_
        refine r_call (pc' := 42) [vR (some 0), vI _] [] d127_39 rfl o127 st11_364_11 (rcv1 sh0 (pl hN rfl)) rfl (by decide) ⟨rfl, rfl⟩ (Nat.le_of_ble_eq_true rfl) rfl (c_doneAhead g hb t16 hbz hn60 (fun q f hqq => ?_))
        refine r_istore_n (pc' := 43) (ls' := [(3, vI _), (0, vR (some 0)), (1, vI _), (2, vI _)]) d127_42 rfl rfl (by decide) rfl ?_
        refine r_iconst (v := 0) (pc' := 44) d127_43 rfl (by decide) ?_
        refine r_istore (pc' := 46) (ls' := [(4, vI _), (3, vI _), (0, vR (some 0)), (1, vI _), (2, vI _)]) d127_44 rfl (by decide) rfl ?_
        refine r_iconst (v := 0) (pc' := 47) d127_46 rfl (by decide) ?_
        refine r_istore (pc' := 49) (ls' := [(5, vI _), (4, vI _), (3, vI _), (0, vR (some 0)), (1, vI _), (2, vI _)]) d127_47 rfl (by decide) rfl ?_
        refine wp_pick (ls' := [(0, vR (some 0)), (1, vI _), (2, vI _), (3, vI _), (4, vI _), (5, vI _)]) [3, 4, 5, 2, 1, 0] rfl ?_
        have kM2 := kM c4 n hn60 rfl
        have kE2 := kE c4 n hn60 rfl
        have hlw := seP_le h b m (nI n) (daS h b L n m)
        have loop : ∀ (r k : Nat), k + r = e → (∀ z, z < e → ea = nI z → k ≤ z) → wp (d + 6) 127 Q 0 0 49 [(0, vR (some 0)), (1, vI (nI n)), (2, vI ea), (3, vI (seP h b m (nI n) (daS h b L n m) k).1), (4, vI (nI (seP h b m (nI n) (daS h b L n m) k).2)), (5, vI (nI k))] [] (tH h q f) := by
          intro r
          induction r with
          | zero =>
            intro k hk hz
            obtain ⟨gN, gC, g5, gc, gK, gT⟩ := g.t (q := q) (f := f) hb
            obtain rfl : k = e := by omega
            refine r_iload (pc' := 51) d127_49 rfl rfl ?_
            refine r_aload_n (pc' := 52) d127_51 rfl rfl rfl ?_
            refine r_getS (pc' := 55) d127_52 rfl o127 sf11_52_11 sh0 (pl gN rfl) g5 ?_
            refine r_getI (pc' := 58) d127_55 rfl o127 sf11_367_10 (shY hb) (plo gN (by omega)) ?_
            refine wp_v gc.2.2.2.2.1 ?_
            refine r_icmp_ge 105 (pc' := 61) d127_58 rfl rfl (fun c58 => ?_) (fun c58 => absurd (nI_le (Nat.le_refl _) (by omega)) c58)
            refine r_iload (pc' := 107) d127_105 rfl rfl ?_
            exact r_iretI d127_107 rfl (kM2 (by rcases hea with y | y; (exact y); (obtain ⟨z, hz1, hz2⟩ := inR_of y (by omega); exact absurd (hz z hz1 hz2) (by omega))) q f hqq)
          | succ r ih =>
            intro k hk hz
            obtain ⟨gN, gC, g5, gc, gK, gT⟩ := g.t (q := q) (f := f) hb
            refine r_iload (pc' := 51) d127_49 rfl rfl ?_
            refine r_aload_n (pc' := 52) d127_51 rfl rfl rfl ?_
            refine r_getS (pc' := 55) d127_52 rfl o127 sf11_52_11 sh0 (pl gN rfl) g5 ?_
            refine r_getI (pc' := 58) d127_55 rfl o127 sf11_367_10 (shY hb) (plo gN (by omega)) ?_
            refine wp_v gc.2.2.2.2.1 ?_
            refine r_icmp_ge 105 (pc' := 61) d127_58 rfl rfl (fun c58 => absurd c58 (nI_ge (by omega) (by omega))) (fun c58 => ?_)
            refine r_aload_n (pc' := 62) d127_61 rfl rfl rfl ?_
            refine r_iload (pc' := 64) d127_62 rfl rfl ?_
            refine r_iload_n (pc' := 65) d127_64 rfl rfl rfl ?_
            refine r_iload_n (pc' := 66) d127_65 rfl rfl rfl ?_
            refine r_call (pc' := 69) [vR (some 0), vI _, vI _, vI _] [] d127_66 rfl o127 st11_370_11 (rcv1 sh0 (pl gN rfl)) rfl (by decide) ⟨rfl, rfl⟩ (Nat.le_of_ble_eq_true rfl) rfl (c_firstFor g hb (by omega) ?_)
            refine r_istore (pc' := 71) (ls' := [(6, vI _), (0, vR (some 0)), (1, vI _), (2, vI _), (3, vI _), (4, vI _), (5, vI _)]) d127_69 rfl (by decide) rfl ?_
            refine r_iload (pc' := 73) d127_71 rfl rfl ?_
            refine r_iload_n (pc' := 74) d127_73 rfl rfl rfl ?_
            refine r_icmp_ne 80 (pc' := 77) d127_74 rfl rfl (fun c74 => ?_) (fun c74 => ?_)
            · refine r_iload (pc' := 82) d127_80 rfl rfl ?_
              refine r_ldc (pc' := 84) d127_82 rfl o127 kc11_243 ?_
              refine r_icmp_eq 99 (pc' := 87) d127_84 rfl rfl (fun c84 => ?_) (fun c84 => ?_)
              · refine r_iinc (v := _ + 1) (pc' := 102) (ls' := [(5, vI _), (6, vI _), (0, vR (some 0)), (1, vI _), (2, vI _), (3, vI _), (4, vI _)]) d127_99 rfl rfl rfl (by decide) rfl ?_
                refine r_goto 49 d127_102 rfl ?_
                refine wp_pick (ls' := [(0, vR (some 0)), (1, vI _), (2, vI _), (3, vI _), (4, vI _), (5, vI _)]) [2, 3, 4, 5, 6, 0] rfl ?_
                rw [nI_1]
                have z := ih (k + 1) (by omega) (fun z h1 h2 => by have h3 := hz z h1 h2; rcases Nat.lt_or_eq_of_le h3 with y | y; (exact y); (subst y; exact absurd h2.symm c74))
                rw [seP, if_pos c84] at z
                exact z
              · refine r_iload_n (pc' := 88) d127_87 rfl rfl rfl ?_
                refine r_iconst (v := 1) (pc' := 89) d127_88 rfl (by decide) ?_
                refine r_iload (pc' := 91) d127_89 rfl rfl ?_
                refine r_ishl (pc' := 92) d127_91 rfl ?_
                refine r_iconst (v := (-1)) (pc' := 93) d127_92 rfl (by decide) ?_
                refine r_ixor (pc' := 94) d127_93 rfl ?_
                refine r_iand (pc' := 95) d127_94 rfl ?_
                refine r_istore_n (pc' := 96) (ls' := [(3, vI _), (6, vI _), (0, vR (some 0)), (1, vI _), (2, vI _), (4, vI _), (5, vI _)]) d127_95 rfl rfl (by decide) rfl ?_
                refine r_iinc (v := _ + 1) (pc' := 99) (ls' := [(4, vI _), (3, vI _), (6, vI _), (0, vR (some 0)), (1, vI _), (2, vI _), (5, vI _)]) d127_96 rfl rfl rfl (by decide) rfl ?_
                refine r_iinc (v := _ + 1) (pc' := 102) (ls' := [(5, vI _), (4, vI _), (3, vI _), (6, vI _), (0, vR (some 0)), (1, vI _), (2, vI _)]) d127_99 rfl rfl rfl (by decide) rfl ?_
                refine r_goto 49 d127_102 rfl ?_
                refine wp_pick (ls' := [(0, vR (some 0)), (1, vI _), (2, vI _), (3, vI _), (4, vI _), (5, vI _)]) [4, 5, 6, 2, 1, 0] rfl ?_
                rw [nI_1]
                have z := ih (k + 1) (by omega) (fun z h1 h2 => by have h3 := hz z h1 h2; rcases Nat.lt_or_eq_of_le h3 with y | y; (exact y); (subst y; exact absurd h2.symm c74))
                rw [nI_1]
                rw [seP, if_neg c84] at z
                exact z
            · refine r_iload (pc' := 79) d127_77 rfl rfl ?_
              exact r_iretI d127_79 rfl (kE2 k (by omega) c74.symm q f hqq)
        exact loop e 0 (by omega) (fun z _ _ => Nat.zero_le _)
      · refine r_aload_n (pc' := 24) d127_23 rfl rfl rfl ?_
        refine r_getS (pc' := 27) d127_24 rfl o127 sf11_52_11 sh0 (pl hN rfl) h5 ?_
        refine r_iload_n (pc' := 28) d127_27 rfl rfl rfl ?_
        refine r_call (pc' := 31) [vR (some b), vI _] [] d127_28 rfl o127 st11_211_10 (rcv1 (shY hb) (plo hN (by omega))) rfl (by decide) ⟨rfl, rfl⟩ (Nat.le_of_ble_eq_true rfl) rfl (y_isEater hN hC hb hc ?_)
        refine r_if_neB 37 (pc' := 34) d127_31 rfl rfl (fun c31 => ?_) (fun c31 => ?_)
        · obtain ⟨n, hn60, rfl⟩ := nat2 (n := 60) c15 (by decide)
          have hea : ea = -1 ∨ inR ea e := Or.inr c31
          refine r_aload_n (pc' := 38) d127_37 rfl rfl rfl ?_
          refine r_iload_n (pc' := 39) d127_38 rfl rfl rfl ?_
          refine r_call (pc' := 42) [vR (some 0), vI _] [] d127_39 rfl o127 st11_364_11 (rcv1 sh0 (pl hN rfl)) rfl (by decide) ⟨rfl, rfl⟩ (Nat.le_of_ble_eq_true rfl) rfl (c_doneAhead g hb t16 hbz hn60 (fun q f hqq => ?_))
          refine r_istore_n (pc' := 43) (ls' := [(3, vI _), (0, vR (some 0)), (1, vI _), (2, vI _)]) d127_42 rfl rfl (by decide) rfl ?_
          refine r_iconst (v := 0) (pc' := 44) d127_43 rfl (by decide) ?_
          refine r_istore (pc' := 46) (ls' := [(4, vI _), (3, vI _), (0, vR (some 0)), (1, vI _), (2, vI _)]) d127_44 rfl (by decide) rfl ?_
          refine r_iconst (v := 0) (pc' := 47) d127_46 rfl (by decide) ?_
          refine r_istore (pc' := 49) (ls' := [(5, vI _), (4, vI _), (3, vI _), (0, vR (some 0)), (1, vI _), (2, vI _)]) d127_47 rfl (by decide) rfl ?_
          refine wp_pick (ls' := [(0, vR (some 0)), (1, vI _), (2, vI _), (3, vI _), (4, vI _), (5, vI _)]) [3, 4, 5, 2, 1, 0] rfl ?_
          have kM2 := kM c4 n hn60 rfl
          have kE2 := kE c4 n hn60 rfl
          have hlw := seP_le h b m (nI n) (daS h b L n m)
          have loop : ∀ (r k : Nat), k + r = e → (∀ z, z < e → ea = nI z → k ≤ z) → wp (d + 6) 127 Q 0 0 49 [(0, vR (some 0)), (1, vI (nI n)), (2, vI ea), (3, vI (seP h b m (nI n) (daS h b L n m) k).1), (4, vI (nI (seP h b m (nI n) (daS h b L n m) k).2)), (5, vI (nI k))] [] (tH h q f) := by
            intro r
            induction r with
            | zero =>
              intro k hk hz
              obtain ⟨gN, gC, g5, gc, gK, gT⟩ := g.t (q := q) (f := f) hb
              obtain rfl : k = e := by omega
              refine r_iload (pc' := 51) d127_49 rfl rfl ?_
              refine r_aload_n (pc' := 52) d127_51 rfl rfl rfl ?_
              refine r_getS (pc' := 55) d127_52 rfl o127 sf11_52_11 sh0 (pl gN rfl) g5 ?_
              refine r_getI (pc' := 58) d127_55 rfl o127 sf11_367_10 (shY hb) (plo gN (by omega)) ?_
              refine wp_v gc.2.2.2.2.1 ?_
              refine r_icmp_ge 105 (pc' := 61) d127_58 rfl rfl (fun c58 => ?_) (fun c58 => absurd (nI_le (Nat.le_refl _) (by omega)) c58)
              refine r_iload (pc' := 107) d127_105 rfl rfl ?_
              exact r_iretI d127_107 rfl (kM2 (by rcases hea with y | y; (exact y); (obtain ⟨z, hz1, hz2⟩ := inR_of y (by omega); exact absurd (hz z hz1 hz2) (by omega))) q f hqq)
            | succ r ih =>
              intro k hk hz
              obtain ⟨gN, gC, g5, gc, gK, gT⟩ := g.t (q := q) (f := f) hb
              refine r_iload (pc' := 51) d127_49 rfl rfl ?_
              refine r_aload_n (pc' := 52) d127_51 rfl rfl rfl ?_
              refine r_getS (pc' := 55) d127_52 rfl o127 sf11_52_11 sh0 (pl gN rfl) g5 ?_
              refine r_getI (pc' := 58) d127_55 rfl o127 sf11_367_10 (shY hb) (plo gN (by omega)) ?_
              refine wp_v gc.2.2.2.2.1 ?_
              refine r_icmp_ge 105 (pc' := 61) d127_58 rfl rfl (fun c58 => absurd c58 (nI_ge (by omega) (by omega))) (fun c58 => ?_)
              refine r_aload_n (pc' := 62) d127_61 rfl rfl rfl ?_
              refine r_iload (pc' := 64) d127_62 rfl rfl ?_
              refine r_iload_n (pc' := 65) d127_64 rfl rfl rfl ?_
              refine r_iload_n (pc' := 66) d127_65 rfl rfl rfl ?_
              refine r_call (pc' := 69) [vR (some 0), vI _, vI _, vI _] [] d127_66 rfl o127 st11_370_11 (rcv1 sh0 (pl gN rfl)) rfl (by decide) ⟨rfl, rfl⟩ (Nat.le_of_ble_eq_true rfl) rfl (c_firstFor g hb (by omega) ?_)
              refine r_istore (pc' := 71) (ls' := [(6, vI _), (0, vR (some 0)), (1, vI _), (2, vI _), (3, vI _), (4, vI _), (5, vI _)]) d127_69 rfl (by decide) rfl ?_
              refine r_iload (pc' := 73) d127_71 rfl rfl ?_
              refine r_iload_n (pc' := 74) d127_73 rfl rfl rfl ?_
              refine r_icmp_ne 80 (pc' := 77) d127_74 rfl rfl (fun c74 => ?_) (fun c74 => ?_)
              · refine r_iload (pc' := 82) d127_80 rfl rfl ?_
                refine r_ldc (pc' := 84) d127_82 rfl o127 kc11_243 ?_
                refine r_icmp_eq 99 (pc' := 87) d127_84 rfl rfl (fun c84 => ?_) (fun c84 => ?_)
                · refine r_iinc (v := _ + 1) (pc' := 102) (ls' := [(5, vI _), (6, vI _), (0, vR (some 0)), (1, vI _), (2, vI _), (3, vI _), (4, vI _)]) d127_99 rfl rfl rfl (by decide) rfl ?_
                  refine r_goto 49 d127_102 rfl ?_
                  refine wp_pick (ls' := [(0, vR (some 0)), (1, vI _), (2, vI _), (3, vI _), (4, vI _), (5, vI _)]) [2, 3, 4, 5, 6, 0] rfl ?_
                  rw [nI_1]
                  have z := ih (k + 1) (by omega) (fun z h1 h2 => by have h3 := hz z h1 h2; rcases Nat.lt_or_eq_of_le h3 with y | y; (exact y); (subst y; exact absurd h2.symm c74))
                  rw [seP, if_pos c84] at z
                  exact z
                · refine r_iload_n (pc' := 88) d127_87 rfl rfl rfl ?_
                  refine r_iconst (v := 1) (pc' := 89) d127_88 rfl (by decide) ?_
                  refine r_iload (pc' := 91) d127_89 rfl rfl ?_
                  refine r_ishl (pc' := 92) d127_91 rfl ?_
                  refine r_iconst (v := (-1)) (pc' := 93) d127_92 rfl (by decide) ?_
                  refine r_ixor (pc' := 94) d127_93 rfl ?_
                  refine r_iand (pc' := 95) d127_94 rfl ?_
                  refine r_istore_n (pc' := 96) (ls' := [(3, vI _), (6, vI _), (0, vR (some 0)), (1, vI _), (2, vI _), (4, vI _), (5, vI _)]) d127_95 rfl rfl (by decide) rfl ?_
                  refine r_iinc (v := _ + 1) (pc' := 99) (ls' := [(4, vI _), (3, vI _), (6, vI _), (0, vR (some 0)), (1, vI _), (2, vI _), (5, vI _)]) d127_96 rfl rfl rfl (by decide) rfl ?_
                  refine r_iinc (v := _ + 1) (pc' := 102) (ls' := [(5, vI _), (4, vI _), (3, vI _), (6, vI _), (0, vR (some 0)), (1, vI _), (2, vI _)]) d127_99 rfl rfl rfl (by decide) rfl ?_
                  refine r_goto 49 d127_102 rfl ?_
                  refine wp_pick (ls' := [(0, vR (some 0)), (1, vI _), (2, vI _), (3, vI _), (4, vI _), (5, vI _)]) [4, 5, 6, 2, 1, 0] rfl ?_
                  rw [nI_1]
                  have z := ih (k + 1) (by omega) (fun z h1 h2 => by have h3 := hz z h1 h2; rcases Nat.lt_or_eq_of_le h3 with y | y; (exact y); (subst y; exact absurd h2.symm c74))
                  rw [nI_1]
                  rw [seP, if_neg c84] at z
                  exact z
              · refine r_iload (pc' := 79) d127_77 rfl rfl ?_
                exact r_iretI d127_79 rfl (kE2 k (by omega) c74.symm q f hqq)
          exact loop e 0 (by omega) (fun z _ _ => Nat.zero_le _)
        · refine r_ldc (pc' := 36) d127_34 rfl o127 kc11_100 ?_
          exact r_iretI d127_36 rfl (kB c4 (by first | exact Or.inl c15 | exact Or.inr ⟨c20, c31⟩))
  · refine r_ldc (pc' := 9) d127_7 rfl o127 kc11_167 ?_
    exact r_iretI d127_9 rfl (kS c4)
