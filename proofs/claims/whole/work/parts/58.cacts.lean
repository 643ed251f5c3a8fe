/-! the class: what is done (printed by wip/whole/m58.py) -/
def GI (h : Hp) (b m L e : Nat) : Prop := hn h = 65 ∧ RC h ∧ hr h 0 5 = some b ∧ CntY h b m L e ∧ KC h ∧ KT h b
theorem GI.of {h h' : Hp} {b m L e : Nat} (g : GI h b m L e) (h1 : hn h' = hn h) (h2 : hr h' = hr h) (h3 : hi h' b 8 = hi h b 8) (h4 : hi h' b 4 = hi h b 4) (h5 : hi h' b 10 = hi h b 10) (h6 : ∀ q, q < 6 → hi h' (10 + q) = hi h (10 + q)) : GI h' b m L e := by
  obtain ⟨g1, g2, g3, ⟨g4, g5, g6, g7, g8, g9⟩, ga, gb⟩ := g
  refine ⟨by rw [h1]; exact g1, ?_, by rw [h2]; exact g3, ⟨by rw [h3]; exact g4, g5, by rw [h4]; exact g6, g7, by rw [h5]; exact g8, g9⟩, ?_, ?_⟩
  · unfold RC; rw [h2]; exact g2
  · intro q hq; rw [h6 q hq]; exact ga q hq
  · have ek : ∀ o, kq h' o = kq h o := fun o => by unfold kq; rw [h2]
    intro i hi0
    rw [ek, h2]
    exact gb i hi0
def rcA (c : Nat) : Nat := if c < 24 then c + 1 else 24
def rcH (h : Hp) (b p c : Nat) : Hp := seti (seti (imA h b 45 (84 * p) 84) 0 9 (nI ((p + 1) % 24))) 0 10 (nI (rcA c))
theorem rcH_o {h : Hp} {b p c x : Nat} (h0 : x ≠ 0) (h1 : x ≠ 45) : hi (rcH h b p c) x = hi h x := by
  unfold rcH
  rw [hi_seti_ne _ _ _ _ _ h0, hi_seti_ne _ _ _ _ _ h0, imA_o h1]
theorem rcH_gi {h : Hp} {b m L e p c : Nat} (g : GI h b m L e) (hb : b = 17 ∨ b = 31) : GI (rcH h b p c) b m L e := by
  refine g.of rfl rfl ?_ ?_ ?_ (fun q hq => rcH_o (by omega) (by omega)) <;> rw [rcH_o (by omega) (by omega)]
theorem psH_b {h : Hp} {b m L : Nat} (hb : b = 17 ∨ b = 31) : hi (psH h b m L) b = upd (hi h b) 3 (hi h b 3 + 1) := by
  unfold psH psA
  rw [hi_seti_row, hi_setw_ne _ _ _ _ (by omega), hi_setw_ne _ _ _ _ (by omega), thW_out _ _ _ _ _ (by omega)]
theorem psH_o {h : Hp} {b m L x : Nat} (hm : m ≤ 6) (hx : ¬ (b ≤ x ∧ x < b + 14)) : hi (psH h b m L) x = hi h x := by
  unfold psH psA
  rw [hi_seti_ne _ _ _ _ _ (by omega), hi_setw_ne _ _ _ _ (by omega), hi_setw_ne _ _ _ _ (by omega), thW_out _ _ _ _ _ (by omega)]
theorem psH_gi {h : Hp} {b m L e : Nat} (g : GI h b m L e) (hb : b = 17 ∨ b = 31) : GI (psH h b m L) b m L e := by
  refine g.of rfl rfl ?_ ?_ ?_ (fun q hq => psH_o g.2.2.2.1.2.1 (by omega)) <;> rw [psH_b hb] <;> rfl
theorem min24 {c : Nat} (hc : c ≤ 24) : (if nI (c + 1) < 24 then nI (c + 1) else 24) = nI (rcA c) := by
  unfold rcA
  show (if nI (c + 1) < nI 24 then nI (c + 1) else nI 24) = _
  by_cases z : c + 1 < 24
  · rw [if_pos (show nI (c + 1) < nI 24 from nI_lt z (by decide)), if_pos (by omega)]
  · rw [if_neg (show ¬ nI (c + 1) < nI 24 from nI_nlt (by omega) (by omega))]
    by_cases y : c < 24
    · rw [if_pos y, show c + 1 = 24 by omega]
    · rw [if_neg y]
theorem c_remember {d : Nat} {h : Hp} {Q : Option AV → Hp → Prop} {b m L e p c : Nat} (g : GI h b m L e) (hb : b = 17 ∨ b = 31) (hp : hi h 0 9 = nI p) (hp24 : p < 24) (hk0 : hi h 0 10 = nI c) (hk24 : c ≤ 24) (k : Q none (rcH h b p c)) : Spec (d + 3) 103 [vR (some 0)] h Q := by
  obtain ⟨hN, hC, h5, hc, hK, hT⟩ := id g
  obtain ⟨hc1, hc2, hc3, hc4, hc5, hc6⟩ := id hc
  refine spec_intro (by decide +kernel) rfl (Nat.le_of_ble_eq_true rfl) ?_
  refine r_aload_n (pc' := 1) d103_0 rfl rfl rfl ?_
  refine r_getS (pc' := 4) d103_1 rfl o103 sf11_52_11 sh0 (pl hN rfl) h5 ?_
  refine r_aload_n (pc' := 5) d103_4 rfl rfl rfl ?_
  refine r_getS (pc' := 8) d103_5 rfl o103 sf11_59_11 sh0 (pl hN rfl) (rfc0_8 hC) ?_
  refine r_aload_n (pc' := 9) d103_8 rfl rfl rfl ?_
  refine r_getI (pc' := 12) d103_9 rfl o103 sf11_227_11 sh0 (pl hN rfl) ?_
  refine wp_v (y := nI p) (by first | exact hp | (exact (congrFun (imA_o (show 0 ≠ 45 by decide)) 9).trans hp)) ?_
  refine r_bipush (v := 84) (pc' := 14) d103_12 rfl (by decide) ?_
  refine r_imul (pc' := 15) d103_14 rfl ?_
  rw [show nI p * 84 = nI (84 * p) by rw [lit 84, pk_mul, Nat.mul_comm]]
  refine r_call (pc' := 18) [vR (some b), vR (some 45), vI _] [] d103_15 rfl o103 st11_234_10 (rcv1 (shY hb) (plo hN (by omega))) rfl (by decide) ⟨rfl, rfl⟩ (Nat.le_of_ble_eq_true rfl) rfl (y_save hN hC hb hK hT sh45 (by decide) (by decide) (by omega) (by decide) ?_)
  refine r_aload_n (pc' := 19) d103_18 rfl rfl rfl ?_
  refine r_aload_n (pc' := 20) d103_19 rfl rfl rfl ?_
  refine r_getI (pc' := 23) d103_20 rfl o103 sf11_227_11 sh0 (pl hN rfl) ?_
  refine wp_v (y := nI p) (by first | exact hp | (exact (congrFun (imA_o (show 0 ≠ 45 by decide)) 9).trans hp)) ?_
  refine r_iconst (v := 1) (pc' := 24) d103_23 rfl (by decide) ?_
  refine r_iadd (pc' := 25) d103_24 rfl ?_
  refine r_bipush (v := 24) (pc' := 27) d103_25 rfl (by decide) ?_
  refine r_irem (pc' := 28) d103_27 rfl (by decide) ?_
  refine wp_v (y := nI ((p + 1) % 24)) (by rw [nI_1]; exact pk_rem (by omega) (by decide) (by decide)) ?_
  refine r_putI (pc' := 31) d103_28 rfl o103 sp11_227_11 sh0 (fun w => absurd w (by decide)) (Or.inl rfl) (pl hN rfl) ?_
  refine r_aload_n (pc' := 32) d103_31 rfl rfl rfl ?_
  refine r_bipush (v := 24) (pc' := 34) d103_32 rfl (by decide) ?_
  refine r_aload_n (pc' := 35) d103_34 rfl rfl rfl ?_
  refine r_getI (pc' := 38) d103_35 rfl o103 sf11_158_11 sh0 (pl hN rfl) ?_
  refine wp_v (y := nI c) (by first | exact hk0 | (exact (congrFun (imA_o (show 0 ≠ 45 by decide)) 10).trans hk0)) ?_
  refine r_iconst (v := 1) (pc' := 39) d103_38 rfl (by decide) ?_
  refine r_iadd (pc' := 40) d103_39 rfl ?_
  refine r_min (pc' := 43) d103_40 rfl o103 st11_237 jm_min2 jm_i jm_min4 (Nat.le_of_ble_eq_true rfl) ?_
  refine wp_v (y := nI (rcA c)) (by rw [nI_1]; exact min24 hk24) ?_
  refine r_putI (pc' := 46) d103_43 rfl o103 sp11_158_11 sh0 (fun w => absurd w (by decide)) (Or.inl rfl) (pl hN rfl) ?_
  exact r_ret d103_46 rfl k
def cA (c : Nat) : Nat → Nat
  | 0 => c
  | k + 1 => rcA (cA c k)
theorem rcA_le (c : Nat) : rcA c ≤ 24 := by unfold rcA; split <;> omega
theorem cA_le {c : Nat} (hc : c ≤ 24) : ∀ k, cA c k ≤ 24 := by
  intro k
  cases k with
  | zero => exact hc
  | succ k => exact rcA_le _
def mnH (h : Hp) (b m L p c : Nat) : Nat → Hp
  | 0 => h
  | k + 1 => psH (rcH (mnH h b m L p c k) b ((p + k) % 24) (cA c k)) b m L
theorem mnH_gi {h : Hp} {b m L e p c : Nat} (g : GI h b m L e) (hb : b = 17 ∨ b = 31) : ∀ k, GI (mnH h b m L p c k) b m L e := by
  intro k
  induction k with
  | zero => exact g
  | succ k ih => exact psH_gi (rcH_gi ih hb) hb
theorem mnH_p {h : Hp} {b m L e p c : Nat} (g : GI h b m L e) (hb : b = 17 ∨ b = 31) (hp : hi h 0 9 = nI p) (hp24 : p < 24) (hk0 : hi h 0 10 = nI c) : ∀ k, hi (mnH h b m L p c k) 0 9 = nI ((p + k) % 24) ∧ hi (mnH h b m L p c k) 0 10 = nI (cA c k) := by
  intro k
  cases k with
  | zero => exact ⟨by rw [Nat.add_zero, Nat.mod_eq_of_lt hp24]; exact hp, hk0⟩
  | succ k =>
    unfold mnH
    rw [psH_o g.2.2.2.1.2.1 (by omega)]
    refine ⟨?_, rfl⟩
    show nI (((p + k) % 24 + 1) % 24) = _
    congr 1
    omega
theorem C_minutes {d : Nat} {h : Hp} {Q : Option AV → Hp → Prop} {b m L e p c : Nat} {n : Int32} (g : GI h b m L e) (hb : b = 17 ∨ b = 31) (hp : hi h 0 9 = nI p) (hp24 : p < 24) (hk0 : hi h 0 10 = nI c) (hk24 : c ≤ 24) (kS : hi h 0 7 = 0 → Q (some (vI (-1000002))) h) (kB : ¬ hi h 0 7 = 0 → ¬ (1 ≤ n ∧ n ≤ 24) → Q (some (vI (-1000001))) h)
    (kF : ¬ hi h 0 7 = 0 → (1 ≤ n ∧ n ≤ 24) → ¬ hi h b 3 + n ≤ 400 → Q (some (vI (-1000003))) h)
    (kW : ¬ hi h 0 7 = 0 → ∀ k : Nat, 1 ≤ k → k ≤ 24 → n = nI k → hi h b 3 + n ≤ 400 → Q (some (vI (hi (mnH h b m L p c k) b 3))) (mnH h b m L p c k)) : Spec (d + 5) 96 [vR (some 0), vI n] h Q := by
  obtain ⟨hN, hC, h5, hc, hK, hT⟩ := id g
  obtain ⟨hc1, hc2, hc3, hc4, hc5, hc6⟩ := id hc
  refine spec_intro (by decide +kernel) rfl (Nat.le_of_ble_eq_true rfl) ?_
  refine r_aload_n (pc' := 1) d96_0 rfl rfl rfl ?_
  refine r_getI (pc' := 4) d96_1 rfl o96 sf11_154_11 sh0 (pl hN rfl) ?_
  refine r_if_ne 10 (pc' := 7) d96_4 rfl rfl (fun c4 => ?_) (fun c4 => ?_)
  · refine r_iload_n (pc' := 11) d96_10 rfl rfl rfl ?_
    refine r_iconst (v := 1) (pc' := 12) d96_11 rfl (by decide) ?_
    refine r_icmp_lt 21 (pc' := 15) d96_12 rfl rfl (fun c12 => ?_) (fun c12 => ?_)
    · refine r_ldc (pc' := 23) d96_21 rfl o96 kc11_100 ?_
      exact r_iretI d96_23 rfl (kB c4 (by first | exact fun w => absurd w.1 (Int32.not_le.mpr c12) | exact fun w => c18 w.2))
    · refine r_iload_n (pc' := 16) d96_15 rfl rfl rfl ?_
      refine r_bipush (v := 24) (pc' := 18) d96_16 rfl (by decide) ?_
      refine r_icmp_le 24 (pc' := 21) d96_18 rfl rfl (fun c18 => ?_) (fun c18 => ?_)
      · refine r_aload_n (pc' := 25) d96_24 rfl rfl rfl ?_
        refine r_getS (pc' := 28) d96_25 rfl o96 sf11_52_11 sh0 (pl hN rfl) h5 ?_
        refine r_getI (pc' := 31) d96_28 rfl o96 sf11_168_10 (shY hb) (plo hN (by omega)) ?_
        refine r_iload_n (pc' := 32) d96_31 rfl rfl rfl ?_
        refine r_iadd (pc' := 33) d96_32 rfl ?_
        refine r_sipush (v := 400) (pc' := 36) d96_33 rfl (by decide) ?_
        refine r_icmp_le 42 (pc' := 39) d96_36 rfl rfl (fun c36 => ?_) (fun c36 => ?_)
        · obtain ⟨n, hn1, rfl⟩ := nI_of3 (a := 1) (b := 24) ⟨Int32.not_lt.mp c12, c18⟩ (by decide)
          refine r_iconst (v := 0) (pc' := 43) d96_42 rfl (by decide) ?_
          refine r_istore_n (pc' := 44) (ls' := [(2, vI _), (0, vR (some 0)), (1, vI _)]) d96_43 rfl rfl (by decide) rfl ?_
          refine wp_pick (ls' := [(0, vR (some 0)), (1, vI _), (2, vI _)]) [1, 2, 0] rfl ?_
          have loop : ∀ (r k : Nat), k + r = n → wp (d + 5) 96 Q 0 0 44 [(0, vR (some 0)), (1, vI (nI n)), (2, vI (nI k))] [] (mnH h b m L p c k) := by
            intro r
            induction r with
            | zero =>
              intro k hk
              obtain ⟨gN, gC, g5, gc, gK, gT⟩ := mnH_gi (p := p) (c := c) g hb k
              obtain rfl : k = n := by omega
              refine r_iload_n (pc' := 45) d96_44 rfl rfl rfl ?_
              refine r_iload_n (pc' := 46) d96_45 rfl rfl rfl ?_
              refine r_icmp_ge 66 (pc' := 49) d96_46 rfl rfl (fun c46 => ?_) (fun c46 => absurd (nI_le (Nat.le_refl _) (by omega)) c46)
              refine r_aload_n (pc' := 67) d96_66 rfl rfl rfl ?_
              refine r_getS (pc' := 70) d96_67 rfl o96 sf11_52_11 sh0 (pl gN rfl) g5 ?_
              refine r_getI (pc' := 73) d96_70 rfl o96 sf11_168_10 (shY hb) (plo gN (by omega)) ?_
              exact r_iretI d96_73 rfl (kW c4 k (by omega) (by omega) rfl c36)
            | succ r ih =>
              intro k hk
              have gk := mnH_gi (p := p) (c := c) g hb k
              obtain ⟨gN, gC, g5, gc, gK, gT⟩ := id gk
              obtain ⟨q1, q2⟩ := mnH_p g hb hp hp24 hk0 k
              obtain ⟨rN, rC, r5, rc, rK, rT⟩ := rcH_gi (p := (p + k) % 24) (c := cA c k) gk hb
              refine r_iload_n (pc' := 45) d96_44 rfl rfl rfl ?_
              refine r_iload_n (pc' := 46) d96_45 rfl rfl rfl ?_
              refine r_icmp_ge 66 (pc' := 49) d96_46 rfl rfl (fun c46 => absurd c46 (nI_ge (by omega) (by omega))) (fun c46 => ?_)
              refine r_aload_n (pc' := 50) d96_49 rfl rfl rfl ?_
              refine r_call (pc' := 53) [vR (some 0)] [] d96_50 rfl o96 st11_171_11 (rcv1 sh0 (pl gN rfl)) rfl (by decide) ⟨rfl, rfl⟩ (Nat.le_of_ble_eq_true rfl) rfl (c_remember gk hb q1 (Nat.mod_lt _ (by decide)) q2 (cA_le hk24 k) ?_)
              refine r_aload_n (pc' := 54) d96_53 rfl rfl rfl ?_
              refine r_getS (pc' := 57) d96_54 rfl o96 sf11_52_11 sh0 (pl gN rfl) r5 ?_
              refine r_call (pc' := 60) [vR (some b)] [] d96_57 rfl o96 st11_174_10 (rcv1 (shY hb) (plo rN (by omega))) rfl (by decide) ⟨rfl, rfl⟩ (Nat.le_of_ble_eq_true rfl) rfl (y_passMinute rN rC hb rc rK rT ?_)
              refine r_iinc (v := _ + 1) (pc' := 63) (ls' := [(2, vI _), (0, vR (some 0)), (1, vI _)]) d96_60 rfl rfl rfl (by decide) rfl ?_
              refine r_goto 44 d96_63 rfl ?_
              refine wp_pick (ls' := [(0, vR (some 0)), (1, vI _), (2, vI _)]) [1, 2, 0] rfl ?_
              rw [nI_1]
              exact ih (k + 1) (by omega)
          exact loop n 0 (by omega)
        · refine r_ldc (pc' := 41) d96_39 rfl o96 kc11_145 ?_
          exact r_iretI d96_41 rfl (kF c4 ⟨Int32.not_lt.mp c12, c18⟩ c36)
      · refine r_ldc (pc' := 23) d96_21 rfl o96 kc11_100 ?_
        exact r_iretI d96_23 rfl (kB c4 (by first | exact fun w => absurd w.1 (Int32.not_le.mpr c12) | exact fun w => c18 w.2))
  · refine r_ldc (pc' := 9) d96_7 rfl o96 kc11_167 ?_
    exact r_iretI d96_9 rfl (kS c4)
theorem C_turn {d : Nat} {h : Hp} {Q : Option AV → Hp → Prop} {b m L e p c : Nat} {t : Int32} (g : GI h b m L e) (hb : b = 17 ∨ b = 31) (hp : hi h 0 9 = nI p) (hp24 : p < 24) (hk0 : hi h 0 10 = nI c) (hk24 : c ≤ 24) (kB : ¬ inR t m → Q (some (vI (-1000001))) h) (kS : ∀ j : Nat, j < m → t = nI j → hi h (b + 8 + j) 2 = 13 → Q (some (vI (-1000002))) h)
    (kW : ∀ j : Nat, j < m → t = nI j → ¬ hi h (b + 8 + j) 2 = 13 → Q (some (vI (1 - hi h (b + 8 + j) 6))) (setw (rcH h b p c) (b + 8 + j) (flipV (hi h (b + 8 + j))))) : Spec (d + 4) 97 [vR (some 0), vI t] h Q := by
  obtain ⟨hN, hC, h5, hc, hK, hT⟩ := id g
  obtain ⟨hc1, hc2, hc3, hc4, hc5, hc6⟩ := id hc
  refine spec_intro (by decide +kernel) rfl (Nat.le_of_ble_eq_true rfl) ?_
  refine r_aload_n (pc' := 1) d97_0 rfl rfl rfl ?_
  refine r_getS (pc' := 4) d97_1 rfl o97 sf11_52_11 sh0 (pl hN rfl) h5 ?_
  refine r_iload_n (pc' := 5) d97_4 rfl rfl rfl ?_
  refine r_call (pc' := 8) [vR (some b), vI _] [] d97_5 rfl o97 st11_177_10 (rcv1 (shY hb) (plo hN (by omega))) rfl (by decide) ⟨rfl, rfl⟩ (Nat.le_of_ble_eq_true rfl) rfl (y_thingAt hN hC hb hc (fun hbad => ?_) (fun j hj0 hj => ?_))
  · refine r_astore_nN (pc' := 9) (ls' := [(2, vR none), (0, vR (some 0)), (1, vI _)]) d97_8 rfl rfl (by decide) rfl ?_
    refine r_aload_nN (pc' := 10) d97_9 rfl rfl rfl ?_
    refine r_nonN 16 (pc' := 13) d97_10 rfl rfl ?_
    refine r_ldc (pc' := 15) d97_13 rfl o97 kc11_100 ?_
    exact r_iretI d97_15 rfl (kB hbad)
  · refine r_astore_n (pc' := 9) (ls' := [(2, vR (some (b + 8 + j))), (0, vR (some 0)), (1, vI _)]) d97_8 rfl rfl (by decide) rfl ?_
    refine r_aload_n (pc' := 10) d97_9 rfl rfl rfl ?_
    refine r_nonS 16 (pc' := 13) d97_10 rfl rfl ?_
    refine r_aload_n (pc' := 17) d97_16 rfl rfl rfl ?_
    refine r_call (pc' := 20) [vR (some (b + 8 + j))] [] d97_17 rfl o97 st11_181_8 (rcv1 (shT hb (by omega)) (plo hN (by omega))) rfl (by decide) ⟨rfl, rfl⟩ (Nat.le_of_ble_eq_true rfl) rfl (t_isServed hN (shT hb (by omega)) (by omega) ?_)
    refine r_if_eqB 26 (pc' := 23) d97_20 rfl rfl (fun c20 => ?_) (fun c20 => ?_)
    · refine r_aload_n (pc' := 27) d97_26 rfl rfl rfl ?_
      refine r_call (pc' := 30) [vR (some 0)] [] d97_27 rfl o97 st11_171_11 (rcv1 sh0 (pl hN rfl)) rfl (by decide) ⟨rfl, rfl⟩ (Nat.le_of_ble_eq_true rfl) rfl (c_remember g hb hp hp24 hk0 hk24 ?_)
      refine r_aload_n (pc' := 31) d97_30 rfl rfl rfl ?_
      refine r_call (pc' := 34) [vR (some (b + 8 + j))] [] d97_31 rfl o97 st11_185_8 (rcv1 (shT hb (by omega)) (plo hN (by omega))) rfl (by decide) ⟨rfl, rfl⟩ (Nat.le_of_ble_eq_true rfl) rfl (t_flip hN (shT hb (by omega)) (by omega) ?_)
      refine r_aload_n (pc' := 35) d97_34 rfl rfl rfl ?_
      refine r_getI (pc' := 38) d97_35 rfl o97 sf11_188_8 (shT hb (by omega)) (plo hN (by omega)) ?_
      exact r_iretI d97_38 rfl (qv (by rw [hi_setw_row, rcH_o (h := h) (b := b) (p := p) (c := c) (show b + 8 + j ≠ 0 by omega) (show b + 8 + j ≠ 45 by omega)]; rfl) (qh (by rw [rcH_o (h := h) (b := b) (p := p) (c := c) (show b + 8 + j ≠ 0 by omega) (show b + 8 + j ≠ 45 by omega)]) (kW j hj0 hj c20)))
    · refine r_ldc (pc' := 25) d97_23 rfl o97 kc11_167 ?_
      exact r_iretI d97_25 rfl (kS j hj0 hj c20)
theorem C_move {d : Nat} {h : Hp} {Q : Option AV → Hp → Prop} {b m L e p c : Nat} {t cell : Int32} (g : GI h b m L e) (hb : b = 17 ∨ b = 31) (hp : hi h 0 9 = nI p) (hp24 : p < 24) (hk0 : hi h 0 10 = nI c) (hk24 : c ≤ 24) (kB : (¬ inR t m ∨ ¬ (0 ≤ cell ∧ cell ≤ 12)) → Q (some (vI (-1000001))) h)
    (kS : ∀ j : Nat, j < m → t = nI j → (0 ≤ cell ∧ cell ≤ 12) → (hi h (b + 8 + j) 2 = 13 ∨ ¬ opC (plF h b) m j cell) → Q (some (vI (-1000002))) h)
    (kW : ∀ j : Nat, j < m → t = nI j → (0 ≤ cell ∧ cell ≤ 12) → ¬ hi h (b + 8 + j) 2 = 13 → opC (plF h b) m j cell → Q (some (vI (hi h (b + 8 + j) 2))) (seti (rcH h b p c) (b + 8 + j) 2 cell)) : Spec (d + 4) 98 [vR (some 0), vI t, vI cell] h Q := by
  obtain ⟨hN, hC, h5, hc, hK, hT⟩ := id g
  obtain ⟨hc1, hc2, hc3, hc4, hc5, hc6⟩ := id hc
  refine spec_intro (by decide +kernel) rfl (Nat.le_of_ble_eq_true rfl) ?_
  refine r_aload_n (pc' := 1) d98_0 rfl rfl rfl ?_
  refine r_getS (pc' := 4) d98_1 rfl o98 sf11_52_11 sh0 (pl hN rfl) h5 ?_
  refine r_iload_n (pc' := 5) d98_4 rfl rfl rfl ?_
  refine r_call (pc' := 8) [vR (some b), vI _] [] d98_5 rfl o98 st11_177_10 (rcv1 (shY hb) (plo hN (by omega))) rfl (by decide) ⟨rfl, rfl⟩ (Nat.le_of_ble_eq_true rfl) rfl (y_thingAt hN hC hb hc (fun hbad => ?_) (fun j hj0 hj => ?_))
  · refine r_astore_nN (pc' := 9) (ls' := [(3, vR none), (0, vR (some 0)), (1, vI _), (2, vI _)]) d98_8 rfl rfl (by decide) rfl ?_
    refine r_aload_nN (pc' := 10) d98_9 rfl rfl rfl ?_
    refine r_nulN 23 (pc' := 13) d98_10 rfl rfl ?_
    refine r_ldc (pc' := 25) d98_23 rfl o98 kc11_100 ?_
    exact r_iretI d98_25 rfl (kB (by first | exact Or.inl hbad | exact Or.inr (fun w => absurd w.1 (Int32.not_le.mpr c14)) | exact Or.inr (fun w => c20 w.2)))
  · refine r_astore_n (pc' := 9) (ls' := [(3, vR (some (b + 8 + j))), (0, vR (some 0)), (1, vI _), (2, vI _)]) d98_8 rfl rfl (by decide) rfl ?_
    refine r_aload_n (pc' := 10) d98_9 rfl rfl rfl ?_
    refine r_nulS 23 (pc' := 13) d98_10 rfl rfl ?_
    refine r_iload_n (pc' := 14) d98_13 rfl rfl rfl ?_
    refine r_if_lt 23 (pc' := 17) d98_14 rfl rfl (fun c14 => ?_) (fun c14 => ?_)
    · refine r_ldc (pc' := 25) d98_23 rfl o98 kc11_100 ?_
      exact r_iretI d98_25 rfl (kB (by first | exact Or.inl hbad | exact Or.inr (fun w => absurd w.1 (Int32.not_le.mpr c14)) | exact Or.inr (fun w => c20 w.2)))
    · refine r_iload_n (pc' := 18) d98_17 rfl rfl rfl ?_
      refine r_bipush (v := 12) (pc' := 20) d98_18 rfl (by decide) ?_
      refine r_icmp_le 26 (pc' := 23) d98_20 rfl rfl (fun c20 => ?_) (fun c20 => ?_)
      · refine r_aload_n (pc' := 27) d98_26 rfl rfl rfl ?_
        refine r_call (pc' := 30) [vR (some (b + 8 + j))] [] d98_27 rfl o98 st11_181_8 (rcv1 (shT hb (by omega)) (plo hN (by omega))) rfl (by decide) ⟨rfl, rfl⟩ (Nat.le_of_ble_eq_true rfl) rfl (t_isServed hN (shT hb (by omega)) (by omega) ?_)
        refine r_if_neB 45 (pc' := 33) d98_30 rfl rfl (fun c30 => ?_) (fun c30 => ?_)
        · refine r_ldc (pc' := 47) d98_45 rfl o98 kc11_167 ?_
          exact r_iretI d98_47 rfl (kS j hj0 hj ⟨Int32.not_lt.mp c14, c20⟩ (by first | exact Or.inl c30 | exact Or.inr c42))
        · refine r_aload_n (pc' := 34) d98_33 rfl rfl rfl ?_
          refine r_getS (pc' := 37) d98_34 rfl o98 sf11_52_11 sh0 (pl hN rfl) h5 ?_
          refine r_aload_n (pc' := 38) d98_37 rfl rfl rfl ?_
          refine r_iload_n (pc' := 39) d98_38 rfl rfl rfl ?_
          refine r_call (pc' := 42) [vR (some b), vR (some (b + 8 + j)), vI _] [] d98_39 rfl o98 st11_191_10 (rcv1 (shY hb) (plo hN (by omega))) rfl (by decide) ⟨rfl, rfl⟩ (Nat.le_of_ble_eq_true rfl) rfl (y_isOpenTo hN hC hb hc (by omega) ?_)
          refine r_if_neB 48 (pc' := 45) d98_42 rfl rfl (fun c42 => ?_) (fun c42 => ?_)
          · refine r_aload_n (pc' := 49) d98_48 rfl rfl rfl ?_
            refine r_call (pc' := 52) [vR (some 0)] [] d98_49 rfl o98 st11_171_11 (rcv1 sh0 (pl hN rfl)) rfl (by decide) ⟨rfl, rfl⟩ (Nat.le_of_ble_eq_true rfl) rfl (c_remember g hb hp hp24 hk0 hk24 ?_)
            refine r_aload_n (pc' := 53) d98_52 rfl rfl rfl ?_
            refine r_getI (pc' := 56) d98_53 rfl o98 sf11_195_8 (shT hb (by omega)) (plo hN (by omega)) ?_
            refine r_istore (pc' := 58) (ls' := [(4, vI _), (3, vR (some (b + 8 + j))), (0, vR (some 0)), (1, vI _), (2, vI _)]) d98_56 rfl (by decide) rfl ?_
            refine r_aload_n (pc' := 59) d98_58 rfl rfl rfl ?_
            refine r_iload_n (pc' := 60) d98_59 rfl rfl rfl ?_
            refine r_putI (pc' := 63) d98_60 rfl o98 sp11_195_8 (shT hb (by omega)) (fun w => absurd w (by decide)) (Or.inl rfl) (plo hN (by omega)) ?_
            refine r_iload (pc' := 65) d98_63 rfl rfl ?_
            exact r_iretI d98_65 rfl (qv (by rw [rcH_o (h := h) (b := b) (p := p) (c := c) (show b + 8 + j ≠ 0 by omega) (show b + 8 + j ≠ 45 by omega)]) (kW j hj0 hj ⟨Int32.not_lt.mp c14, c20⟩ c30 c42))
          · refine r_ldc (pc' := 47) d98_45 rfl o98 kc11_167 ?_
            exact r_iretI d98_47 rfl (kS j hj0 hj ⟨Int32.not_lt.mp c14, c20⟩ (by first | exact Or.inl c30 | exact Or.inr c42))
      · refine r_ldc (pc' := 25) d98_23 rfl o98 kc11_100 ?_
        exact r_iretI d98_25 rfl (kB (by first | exact Or.inl hbad | exact Or.inr (fun w => absurd w.1 (Int32.not_le.mpr c14)) | exact Or.inr (fun w => c20 w.2)))
theorem C_coal {d : Nat} {h : Hp} {Q : Option AV → Hp → Prop} {b m L e p c : Nat} {cell fire : Int32} (g : GI h b m L e) (hb : b = 17 ∨ b = 31) (hp : hi h 0 9 = nI p) (hp24 : p < 24) (hk0 : hi h 0 10 = nI c) (hk24 : c ≤ 24) (kS : hi h 0 7 = 0 → Q (some (vI (-1000002))) h) (kB : ¬ hi h 0 7 = 0 → (¬ (0 ≤ cell ∧ cell ≤ 11) ∨ ¬ (1 ≤ fire ∧ fire ≤ 30)) → Q (some (vI (-1000001))) h)
    (kF : ¬ hi h 0 7 = 0 → (0 ≤ cell ∧ cell ≤ 11) → (1 ≤ fire ∧ fire ≤ 30) → L = 8 → Q (some (vI (-1000003))) h)
    (kW : ¬ hi h 0 7 = 0 → (0 ≤ cell ∧ cell ≤ 11) → (1 ≤ fire ∧ fire ≤ 30) → L < 8 → Q (some (vI (nI (L + 1)))) (seti (seti (seti (seti (rcH h b p c) (b + 1) L cell) (b + 2) L fire) (b + 3) L 2) b 4 (nI (L + 1)))) : Spec (d + 4) 99 [vR (some 0), vI cell, vI fire] h Q := by
  obtain ⟨hN, hC, h5, hc, hK, hT⟩ := id g
  obtain ⟨hc1, hc2, hc3, hc4, hc5, hc6⟩ := id hc
  refine spec_intro (by decide +kernel) rfl (Nat.le_of_ble_eq_true rfl) ?_
  refine r_aload_n (pc' := 1) d99_0 rfl rfl rfl ?_
  refine r_getI (pc' := 4) d99_1 rfl o99 sf11_154_11 sh0 (pl hN rfl) ?_
  refine r_if_ne 10 (pc' := 7) d99_4 rfl rfl (fun c4 => ?_) (fun c4 => ?_)
  · refine r_iload_n (pc' := 11) d99_10 rfl rfl rfl ?_
    refine r_call (pc' := 14) [vI _] [] d99_11 rfl o99 st11_198 rcv0 rfl (by decide) ⟨rfl, rfl⟩ (Nat.le_of_ble_eq_true rfl) rfl (t_isCell ?_)
    refine r_if_eqB 28 (pc' := 17) d99_14 rfl rfl (fun c14 => ?_) (fun c14 => ?_)
    · refine r_ldc (pc' := 30) d99_28 rfl o99 kc11_100 ?_
      exact r_iretI d99_30 rfl (kB c4 (by first | exact Or.inl c14 | exact Or.inr (fun w => absurd w.1 (Int32.not_le.mpr c19)) | exact Or.inr (fun w => c25 w.2)))
    · refine r_iload_n (pc' := 18) d99_17 rfl rfl rfl ?_
      refine r_iconst (v := 1) (pc' := 19) d99_18 rfl (by decide) ?_
      refine r_icmp_lt 28 (pc' := 22) d99_19 rfl rfl (fun c19 => ?_) (fun c19 => ?_)
      · refine r_ldc (pc' := 30) d99_28 rfl o99 kc11_100 ?_
        exact r_iretI d99_30 rfl (kB c4 (by first | exact Or.inl c14 | exact Or.inr (fun w => absurd w.1 (Int32.not_le.mpr c19)) | exact Or.inr (fun w => c25 w.2)))
      · refine r_iload_n (pc' := 23) d99_22 rfl rfl rfl ?_
        refine r_bipush (v := 30) (pc' := 25) d99_23 rfl (by decide) ?_
        refine r_icmp_le 31 (pc' := 28) d99_25 rfl rfl (fun c25 => ?_) (fun c25 => ?_)
        · refine r_aload_n (pc' := 32) d99_31 rfl rfl rfl ?_
          refine r_getS (pc' := 35) d99_32 rfl o99 sf11_52_11 sh0 (pl hN rfl) h5 ?_
          refine r_getI (pc' := 38) d99_35 rfl o99 sf11_201_10 (shY hb) (plo hN (by omega)) ?_
          refine wp_v (y := nI L) (by first | exact hc.2.2.1 | (rw [rcH_o (by omega) (by omega)]; exact hc.2.2.1)) ?_
          refine r_bipush (v := 8) (pc' := 40) d99_38 rfl (by decide) ?_
          refine r_icmp_lt 46 (pc' := 43) d99_40 rfl rfl (fun c40 => ?_) (fun c40 => ?_)
          · have hL8 : L < 8 := (nI_ltI (by omega) (by decide)).mp c40
            refine r_aload_n (pc' := 47) d99_46 rfl rfl rfl ?_
            refine r_call (pc' := 50) [vR (some 0)] [] d99_47 rfl o99 st11_171_11 (rcv1 sh0 (pl hN rfl)) rfl (by decide) ⟨rfl, rfl⟩ (Nat.le_of_ble_eq_true rfl) rfl (c_remember g hb hp hp24 hk0 hk24 ?_)
            refine r_aload_n (pc' := 51) d99_50 rfl rfl rfl ?_
            refine r_getS (pc' := 54) d99_51 rfl o99 sf11_52_11 sh0 (pl hN rfl) h5 ?_
            refine r_iload_n (pc' := 55) d99_54 rfl rfl rfl ?_
            refine r_iload_n (pc' := 56) d99_55 rfl rfl rfl ?_
            refine r_iconst (v := 2) (pc' := 57) d99_56 rfl (by decide) ?_
            refine r_call (pc' := 60) [vR (some b), vI _, vI _, vI _] [] d99_57 rfl o99 st11_204_10 (rcv1 (shY hb) (plo hN (by omega))) rfl (by decide) ⟨rfl, rfl⟩ (Nat.le_of_ble_eq_true rfl) rfl (y_addCoal hN hC hb (show hi (rcH h b p c) b 4 = nI L by rw [rcH_o (by omega) (by omega)]; exact hc.2.2.1) hL8 ?_)
            refine r_aload_n (pc' := 61) d99_60 rfl rfl rfl ?_
            refine r_getS (pc' := 64) d99_61 rfl o99 sf11_52_11 sh0 (pl hN rfl) h5 ?_
            refine r_getI (pc' := 67) d99_64 rfl o99 sf11_201_10 (shY hb) (plo hN (by omega)) ?_
            refine wp_v (y := nI (L + 1)) (by rw [hi_seti_row, upd_at]) ?_
            exact r_iretI d99_67 rfl (kW c4 c14 ⟨Int32.not_lt.mp c19, c25⟩ hL8)
          · refine r_ldc (pc' := 45) d99_43 rfl o99 kc11_145 ?_
            exact r_iretI d99_45 rfl (kF c4 c14 ⟨Int32.not_lt.mp c19, c25⟩ (by rcases Nat.lt_or_ge L 8 with z | z; exact absurd (nI_lt (a := L) (b := 8) z (by decide)) c40; omega))
        · refine r_ldc (pc' := 30) d99_28 rfl o99 kc11_100 ?_
          exact r_iretI d99_30 rfl (kB c4 (by first | exact Or.inl c14 | exact Or.inr (fun w => absurd w.1 (Int32.not_le.mpr c19)) | exact Or.inr (fun w => c25 w.2)))
  · refine r_ldc (pc' := 9) d99_7 rfl o99 kc11_167 ?_
    exact r_iretI d99_9 rfl (kS c4)
theorem C_water {d : Nat} {h : Hp} {Q : Option AV → Hp → Prop} {b m L e p c : Nat} (g : GI h b m L e) (hb : b = 17 ∨ b = 31) (hp : hi h 0 9 = nI p) (hp24 : p < 24) (hk0 : hi h 0 10 = nI c) (hk24 : c ≤ 24) (kS : hi h 0 7 = 0 → Q (some (vI (-1000002))) h)
    (kW : ¬ hi h 0 7 = 0 → Q (some (vI (fiS (hi h (b + 2)) L - fiS (pwF h b L) L))) (pwH (rcH h b p c) b L)) : Spec (d + 4) 100 [vR (some 0)] h Q := by
  obtain ⟨hN, hC, h5, hc, hK, hT⟩ := id g
  obtain ⟨hc1, hc2, hc3, hc4, hc5, hc6⟩ := id hc
  refine spec_intro (by decide +kernel) rfl (Nat.le_of_ble_eq_true rfl) ?_
  refine r_aload_n (pc' := 1) d100_0 rfl rfl rfl ?_
  refine r_getI (pc' := 4) d100_1 rfl o100 sf11_154_11 sh0 (pl hN rfl) ?_
  refine r_if_ne 10 (pc' := 7) d100_4 rfl rfl (fun c4 => ?_) (fun c4 => ?_)
  · refine r_aload_n (pc' := 11) d100_10 rfl rfl rfl ?_
    refine r_call (pc' := 14) [vR (some 0)] [] d100_11 rfl o100 st11_171_11 (rcv1 sh0 (pl hN rfl)) rfl (by decide) ⟨rfl, rfl⟩ (Nat.le_of_ble_eq_true rfl) rfl (c_remember g hb hp hp24 hk0 hk24 ?_)
    refine r_aload_n (pc' := 15) d100_14 rfl rfl rfl ?_
    refine r_getS (pc' := 18) d100_15 rfl o100 sf11_52_11 sh0 (pl hN rfl) h5 ?_
    refine r_call (pc' := 21) [vR (some b)] [] d100_18 rfl o100 st11_207_10 (rcv1 (shY hb) (plo hN (by omega))) rfl (by decide) ⟨rfl, rfl⟩ (Nat.le_of_ble_eq_true rfl) rfl (y_pourWater hN hC hb (rcH_gi (p := p) (c := c) g hb).2.2.2.1 ?_)
    exact r_iretI d100_21 rfl (qv (by unfold pwF; rw [rcH_o (h := h) (b := b) (p := p) (c := c) (show b + 2 ≠ 0 by omega) (show b + 2 ≠ 45 by omega)]) (kW c4))
  · refine r_ldc (pc' := 9) d100_7 rfl o100 kc11_167 ?_
    exact r_iretI d100_9 rfl (kS c4)
abbrev cmay (h : Hp) (b j q : Nat) : Prop := ¬ hi h (b + 8 + j) 2 = 13 ∧ (ndK (kq h (b + 8 + j)) ≤ hi h (b + 8 + j) 3 ∧ hi h (b + 8 + j) 7 = 0) ∧ wanC h b q (kq h (b + 8 + j)) 0
def cserH (h : Hp) (b j q p c : Nat) : Hp := seti (seti (rcH h b p c) (b + 8 + j) 2 13) (b + 7) q (nI j)
theorem cserH_gi {h : Hp} {b m L e j q p c : Nat} (g : GI h b m L e) (hb : b = 17 ∨ b = 31) (hj : j < 6) : GI (cserH h b j q p c) b m L e := by
  unfold cserH
  refine (rcH_gi (p := p) (c := c) g hb).of rfl rfl ?_ ?_ ?_ (fun q hq => ?_)
  · rw [hi_seti_ne _ _ _ _ _ (by omega), hi_seti_ne _ _ _ _ _ (by omega)]
  · rw [hi_seti_ne _ _ _ _ _ (by omega), hi_seti_ne _ _ _ _ _ (by omega)]
  · rw [hi_seti_ne _ _ _ _ _ (by omega), hi_seti_ne _ _ _ _ _ (by omega)]
  · rw [hi_seti_ne _ _ _ _ _ (by omega), hi_seti_ne _ _ _ _ _ (by omega)]
theorem C_serve {d : Nat} {h : Hp} {Q : Option AV → Hp → Prop} {b m L e p c : Nat} {t u : Int32} (g : GI h b m L e) (hb : b = 17 ∨ b = 31) (hp : hi h 0 9 = nI p) (hp24 : p < 24) (hk0 : hi h 0 10 = nI c) (hk24 : c ≤ 24) (kB : (¬ inR t m ∨ ¬ inR u e) → Q (some (vI (-1000001))) h)
    (kS : ∀ j : Nat, j < m → t = nI j → ∀ q : Nat, q < e → u = nI q → ¬ cmay h b j q → Q (some (vI (-1000002))) h)
    (kW : ∀ j : Nat, j < m → t = nI j → ∀ q : Nat, q < e → u = nI q → cmay h b j q → Q (some (vI (sdS (plF (cserH h b j q p c) b) m))) (cserH h b j q p c)) : Spec (d + 4) 101 [vR (some 0), vI t, vI u] h Q := by
  obtain ⟨hN, hC, h5, hc, hK, hT⟩ := id g
  obtain ⟨hc1, hc2, hc3, hc4, hc5, hc6⟩ := id hc
  refine spec_intro (by decide +kernel) rfl (Nat.le_of_ble_eq_true rfl) ?_
  refine r_aload_n (pc' := 1) d101_0 rfl rfl rfl ?_
  refine r_getS (pc' := 4) d101_1 rfl o101 sf11_52_11 sh0 (pl hN rfl) h5 ?_
  refine r_iload_n (pc' := 5) d101_4 rfl rfl rfl ?_
  refine r_call (pc' := 8) [vR (some b), vI _] [] d101_5 rfl o101 st11_177_10 (rcv1 (shY hb) (plo hN (by omega))) rfl (by decide) ⟨rfl, rfl⟩ (Nat.le_of_ble_eq_true rfl) rfl (y_thingAt hN hC hb hc (fun hbad => ?_) (fun j hj0 hj => ?_))
  · refine r_astore_nN (pc' := 9) (ls' := [(3, vR none), (0, vR (some 0)), (1, vI _), (2, vI _)]) d101_8 rfl rfl (by decide) rfl ?_
    refine r_aload_nN (pc' := 10) d101_9 rfl rfl rfl ?_
    refine r_nulN 24 (pc' := 13) d101_10 rfl rfl ?_
    refine r_ldc (pc' := 26) d101_24 rfl o101 kc11_100 ?_
    exact r_iretI d101_26 rfl (kB (by first | exact Or.inl hbad | exact Or.inr c21))
  · refine r_astore_n (pc' := 9) (ls' := [(3, vR (some (b + 8 + j))), (0, vR (some 0)), (1, vI _), (2, vI _)]) d101_8 rfl rfl (by decide) rfl ?_
    refine r_aload_n (pc' := 10) d101_9 rfl rfl rfl ?_
    refine r_nulS 24 (pc' := 13) d101_10 rfl rfl ?_
    refine r_aload_n (pc' := 14) d101_13 rfl rfl rfl ?_
    refine r_getS (pc' := 17) d101_14 rfl o101 sf11_52_11 sh0 (pl hN rfl) h5 ?_
    refine r_iload_n (pc' := 18) d101_17 rfl rfl rfl ?_
    refine r_call (pc' := 21) [vR (some b), vI _] [] d101_18 rfl o101 st11_211_10 (rcv1 (shY hb) (plo hN (by omega))) rfl (by decide) ⟨rfl, rfl⟩ (Nat.le_of_ble_eq_true rfl) rfl (y_isEater hN hC hb hc ?_)
    refine r_if_neB 27 (pc' := 24) d101_21 rfl rfl (fun c21 => ?_) (fun c21 => ?_)
    · obtain ⟨q, hq0, rfl⟩ := inr3 (by omega) c21
      subst hj
      refine r_aload_n (pc' := 28) d101_27 rfl rfl rfl ?_
      refine r_call (pc' := 31) [vR (some (b + 8 + j))] [] d101_28 rfl o101 st11_181_8 (rcv1 (shT hb (by omega)) (plo hN (by omega))) rfl (by decide) ⟨rfl, rfl⟩ (Nat.le_of_ble_eq_true rfl) rfl (t_isServed hN (shT hb (by omega)) (by omega) ?_)
      refine r_if_neB 54 (pc' := 34) d101_31 rfl rfl (fun c31 => ?_) (fun c31 => ?_)
      · refine r_ldc (pc' := 56) d101_54 rfl o101 kc11_167 ?_
        exact r_iretI d101_56 rfl (kS j hj0 rfl q hq0 rfl (by first | exact fun w => w.1 c31 | exact fun w => c38 w.2.1 | exact fun w => c51 w.2.2))
      · refine r_aload_n (pc' := 35) d101_34 rfl rfl rfl ?_
        refine r_call (pc' := 38) [vR (some (b + 8 + j))] [] d101_35 rfl o101 st11_214_8 (rcv1 (shT hb (by omega)) (plo hN (by omega))) rfl (by decide) ⟨rfl, rfl⟩ (Nat.le_of_ble_eq_true rfl) rfl (t_isDone hN (shT hb (by omega)) (by omega) hK (hT j (by omega)).1 (hT j (by omega)).2 ?_)
        refine r_if_eqB 54 (pc' := 41) d101_38 rfl rfl (fun c38 => ?_) (fun c38 => ?_)
        · refine r_ldc (pc' := 56) d101_54 rfl o101 kc11_167 ?_
          exact r_iretI d101_56 rfl (kS j hj0 rfl q hq0 rfl (by first | exact fun w => w.1 c31 | exact fun w => c38 w.2.1 | exact fun w => c51 w.2.2))
        · refine r_aload_n (pc' := 42) d101_41 rfl rfl rfl ?_
          refine r_getS (pc' := 45) d101_42 rfl o101 sf11_52_11 sh0 (pl hN rfl) h5 ?_
          refine r_iload_n (pc' := 46) d101_45 rfl rfl rfl ?_
          refine r_aload_n (pc' := 47) d101_46 rfl rfl rfl ?_
          refine r_iconst (v := 0) (pc' := 48) d101_47 rfl (by decide) ?_
          refine r_call (pc' := 51) [vR (some b), vI _, vR (some (b + 8 + j)), vI _] [] d101_48 rfl o101 st11_217_10 (rcv1 (shY hb) (plo hN (by omega))) rfl (by decide) ⟨rfl, rfl⟩ (Nat.le_of_ble_eq_true rfl) rfl (y_wants hN hC hb (shT hb (by omega)) (by omega) hK (hT j (by omega)).1 (hT j (by omega)).2 (by omega) ?_)
          refine r_if_neB 57 (pc' := 54) d101_51 rfl rfl (fun c51 => ?_) (fun c51 => ?_)
          · refine r_aload_n (pc' := 58) d101_57 rfl rfl rfl ?_
            refine r_call (pc' := 61) [vR (some 0)] [] d101_58 rfl o101 st11_171_11 (rcv1 sh0 (pl hN rfl)) rfl (by decide) ⟨rfl, rfl⟩ (Nat.le_of_ble_eq_true rfl) rfl (c_remember g hb hp hp24 hk0 hk24 ?_)
            refine r_aload_n (pc' := 62) d101_61 rfl rfl rfl ?_
            refine r_bipush (v := 13) (pc' := 64) d101_62 rfl (by decide) ?_
            refine r_putI (pc' := 67) d101_64 rfl o101 sp11_195_8 (shT hb (by omega)) (fun w => absurd w (by decide)) (Or.inl rfl) (plo hN (by omega)) ?_
            refine r_aload_n (pc' := 68) d101_67 rfl rfl rfl ?_
            refine r_getS (pc' := 71) d101_68 rfl o101 sf11_52_11 sh0 (pl hN rfl) h5 ?_
            refine r_getS (pc' := 74) d101_71 rfl o101 sf11_221_10 (shY hb) (plo hN (by omega)) (rY13 hC hb) ?_
            refine r_iload_n (pc' := 75) d101_74 rfl rfl rfl ?_
            refine r_iload_n (pc' := 76) d101_75 rfl rfl rfl ?_
            refine r_iastN (pc' := 77) (j := q) d101_76 rfl (shY7 hb) (plo hN (by omega)) rfl (by omega) (by decide) ?_
            refine r_aload_n (pc' := 78) d101_77 rfl rfl rfl ?_
            refine r_getS (pc' := 81) d101_78 rfl o101 sf11_52_11 sh0 (pl hN rfl) h5 ?_
            refine r_call (pc' := 84) [vR (some b)] [] d101_81 rfl o101 st11_224_10 (rcv1 (shY hb) (plo hN (by omega))) rfl (by decide) ⟨rfl, rfl⟩ (Nat.le_of_ble_eq_true rfl) rfl (y_servedCount (h := cserH h b j q p c) hN hC hb (cserH_gi g hb (by omega)).2.2.2.1 ?_)
            exact r_iretI d101_84 rfl (kW j hj0 rfl q hq0 rfl ⟨c31, c38, c51⟩)
          · refine r_ldc (pc' := 56) d101_54 rfl o101 kc11_167 ?_
            exact r_iretI d101_56 rfl (kS j hj0 rfl q hq0 rfl (by first | exact fun w => w.1 c31 | exact fun w => c38 w.2.1 | exact fun w => c51 w.2.2))
    · refine r_ldc (pc' := 26) d101_24 rfl o101 kc11_100 ?_
      exact r_iretI d101_26 rfl (kB (by first | exact Or.inl hbad | exact Or.inr c21))
def unH (h : Hp) (b p k : Nat) : Hp := ldH (seti (seti h 0 10 (nI k)) 0 9 (nI ((p + 23) % 24))) b 45 (84 * ((p + 23) % 24)) 6
theorem C_undo {d : Nat} {h : Hp} {Q : Option AV → Hp → Prop} {b m L e p c : Nat} (g : GI h b m L e) (hb : b = 17 ∨ b = 31) (hp : hi h 0 9 = nI p) (hp24 : p < 24) (hk0 : hi h 0 10 = nI c) (hk24 : c ≤ 24) (kS : c = 0 → Q (some (vI (-1000002))) h)
    (kW : ∀ k, c = k + 1 → Q (some (vI (nI k))) (unH h b p k)) : Spec (d + 3) 102 [vR (some 0)] h Q := by
  obtain ⟨hN, hC, h5, hc, hK, hT⟩ := id g
  obtain ⟨hc1, hc2, hc3, hc4, hc5, hc6⟩ := id hc
  refine spec_intro (by decide +kernel) rfl (Nat.le_of_ble_eq_true rfl) ?_
  refine r_aload_n (pc' := 1) d102_0 rfl rfl rfl ?_
  refine r_getI (pc' := 4) d102_1 rfl o102 sf11_158_11 sh0 (pl hN rfl) ?_
  refine wp_v hk0 ?_
  refine r_if_ne 10 (pc' := 7) d102_4 rfl rfl (fun c4 => ?_) (fun c4 => ?_)
  · obtain ⟨k, rfl⟩ : ∃ k, c = k + 1 := by
      rcases c with _ | k
      · exact absurd rfl c4
      · exact ⟨k, rfl⟩
    refine r_aload_n (pc' := 11) d102_10 rfl rfl rfl ?_
    refine r_dupR (pc' := 12) d102_11 rfl ?_
    refine r_getI (pc' := 15) d102_12 rfl o102 sf11_158_11 sh0 (pl hN rfl) ?_
    refine wp_v hk0 ?_
    refine r_iconst (v := 1) (pc' := 16) d102_15 rfl (by decide) ?_
    refine r_isub (pc' := 17) d102_16 rfl ?_
    refine wp_v (y := nI k) (nI_pred k) ?_
    refine r_putI (pc' := 20) d102_17 rfl o102 sp11_158_11 sh0 (fun w => absurd w (by decide)) (Or.inl rfl) (pl hN rfl) ?_
    refine r_aload_n (pc' := 21) d102_20 rfl rfl rfl ?_
    refine r_aload_n (pc' := 22) d102_21 rfl rfl rfl ?_
    refine r_getI (pc' := 25) d102_22 rfl o102 sf11_227_11 sh0 (pl hN rfl) ?_
    refine wp_v hp ?_
    refine r_bipush (v := 24) (pc' := 27) d102_25 rfl (by decide) ?_
    refine r_iadd (pc' := 28) d102_27 rfl ?_
    refine r_iconst (v := 1) (pc' := 29) d102_28 rfl (by decide) ?_
    refine r_isub (pc' := 30) d102_29 rfl ?_
    refine r_bipush (v := 24) (pc' := 32) d102_30 rfl (by decide) ?_
    refine r_irem (pc' := 33) d102_32 rfl (by decide) ?_
    refine wp_v (y := nI ((p + 23) % 24)) (by rw [show nI p + 24 - 1 = nI (p + 23) by rw [lit 24, nI_add, show p + 24 = (p + 23) + 1 by omega, nI_pred]]; exact pk_rem (by omega) (by decide) (by decide)) ?_
    refine r_putI (pc' := 36) d102_33 rfl o102 sp11_227_11 sh0 (fun w => absurd w (by decide)) (Or.inl rfl) (pl hN rfl) ?_
    refine r_aload_n (pc' := 37) d102_36 rfl rfl rfl ?_
    refine r_getS (pc' := 40) d102_37 rfl o102 sf11_52_11 sh0 (pl hN rfl) h5 ?_
    refine r_aload_n (pc' := 41) d102_40 rfl rfl rfl ?_
    refine r_getS (pc' := 44) d102_41 rfl o102 sf11_59_11 sh0 (pl hN rfl) (rfc0_8 hC) ?_
    refine r_aload_n (pc' := 45) d102_44 rfl rfl rfl ?_
    refine r_getI (pc' := 48) d102_45 rfl o102 sf11_227_11 sh0 (pl hN rfl) ?_
    refine wp_v (y := nI ((p + 23) % 24)) rfl ?_
    refine r_bipush (v := 84) (pc' := 50) d102_48 rfl (by decide) ?_
    refine r_imul (pc' := 51) d102_50 rfl ?_
    rw [show nI ((p + 23) % 24) * 84 = nI (84 * ((p + 23) % 24)) by rw [lit 84, pk_mul, Nat.mul_comm]]
    refine r_call (pc' := 54) [vR (some b), vR (some 45), vI _] [] d102_51 rfl o102 st11_230_10 (rcv1 (shY hb) (plo hN (by omega))) rfl (by decide) ⟨rfl, rfl⟩ (Nat.le_of_ble_eq_true rfl) rfl (y_load hN hC hb sh45 (by decide) (by decide) (by omega) (by decide) ?_)
    refine r_aload_n (pc' := 55) d102_54 rfl rfl rfl ?_
    refine r_getI (pc' := 58) d102_55 rfl o102 sf11_158_11 sh0 (pl hN rfl) ?_
    refine wp_v (y := nI k) (congrFun ((thR_out _ _ _ _ _ 0 (by omega)).trans (ldA_o (by omega))) 10) ?_
    exact r_iretI d102_58 rfl (kW k rfl)
  · refine r_ldc (pc' := 9) d102_7 rfl o102 kc11_167 ?_
    exact r_iretI d102_9 rfl (kS ((nI_eq (by omega) (by decide)).mp c4))
