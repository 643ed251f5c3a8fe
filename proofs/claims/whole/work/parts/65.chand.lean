/-! the class: hand, judged over the spare yard (printed by wip/whole/m65.py) -/
def GS (h : Hp) (c m L e : Nat) : Prop := hn h = 65 ∧ RC h ∧ hr h 0 6 = some c ∧ CntY h c m L e ∧ KC h ∧ KT h c
theorem GS.of {h h' : Hp} {b m L e : Nat} (g : GS h b m L e) (h1 : hn h' = hn h) (h2 : hr h' = hr h) (h3 : hi h' b 8 = hi h b 8) (h4 : hi h' b 4 = hi h b 4) (h5 : hi h' b 10 = hi h b 10) (h6 : ∀ q, q < 6 → hi h' (10 + q) = hi h (10 + q)) : GS h' b m L e := by
  obtain ⟨g1, g2, g3, ⟨g4, g5, g6, g7, g8, g9⟩, ga, gb⟩ := g
  refine ⟨by rw [h1]; exact g1, ?_, by rw [h2]; exact g3, ⟨by rw [h3]; exact g4, g5, by rw [h4]; exact g6, g7, by rw [h5]; exact g8, g9⟩, ?_, ?_⟩
  · unfold RC; rw [h2]; exact g2
  · intro q hq; rw [h6 q hq]; exact ga q hq
  · have ek : ∀ o, kq h' o = kq h o := fun o => by unfold kq; rw [h2]
    intro i hi0
    rw [ek, h2]
    exact gb i hi0
theorem psH_gs {h : Hp} {b m L e : Nat} (g : GS h b m L e) (hb : b = 17 ∨ b = 31) : GS (psH h b m L) b m L e := by
  refine g.of rfl rfl ?_ ?_ ?_ (fun q hq => psH_o g.2.2.2.1.2.1 (by omega)) <;> rw [psH_b hb] <;> rfl
def fpH (h : Hp) (c i : Nat) : Hp := setw h (c + 8 + i) (flipV (hi h (c + 8 + i)))
theorem fpH_o {h : Hp} {c i x : Nat} (hx : x ≠ c + 8 + i) : hi (fpH h c i) x = hi h x := hi_setw_ne _ _ _ _ hx
theorem fpH_gs {h : Hp} {c m L e i : Nat} (g : GS h c m L e) (hb : c = 17 ∨ c = 31) (hi0 : i < 6) : GS (fpH h c i) c m L e := by
  refine g.of rfl rfl ?_ ?_ ?_ (fun q hq => fpH_o (by omega)) <;> rw [fpH_o (by omega)]
/-- the spare yard as a copy of the one that stands -/
def twH (h : Hp) (b c : Nat) : Hp := ldH (imA h b 48 0 84) c 48 0 6
theorem ldH_o {h : Hp} {b a j x : Nat} (hx : ¬ (b ≤ x ∧ x < b + 14 ∧ x ≠ b + 4)) : hi (ldH h b a j 6) x = hi h x := by
  unfold ldH
  rw [thR_out _ _ _ _ _ _ (by omega), ldA_o (by omega)]
theorem twH_o {h : Hp} {b c x : Nat} (h1 : x ≠ 48) (hx : ¬ (c ≤ x ∧ x < c + 14 ∧ x ≠ c + 4)) : hi (twH h b c) x = hi h x := by
  unfold twH
  rw [ldH_o hx, imA_o h1]
theorem ldH_b {h : Hp} {b a j : Nat} (hb : b = 17 ∨ b = 31) : hi (ldH h b a j 6) b = ldB (hi h b) (ldG h a j) := by
  unfold ldH
  rw [thR_out _ _ _ _ _ _ (by omega)]
  unfold ldA
  rw [hi_setw_ne _ _ _ _ (by omega), hi_setw_ne _ _ _ _ (by omega), hi_setw_ne _ _ _ _ (by omega), hi_setw_ne _ _ _ _ (by omega), hi_setw_ne _ _ _ _ (by omega), hi_setw_ne _ _ _ _ (by omega), hi_setw_row]
theorem twH_b {h : Hp} {b c : Nat} (hc : c = 17 ∨ c = 31) : hi (twH h b c) c = ldB (hi h c) (fun r => mix (imG h b 0) (hi h 48) 0 84 (0 + r)) := by
  unfold twH
  rw [ldH_b hc, imA_o (by omega)]
  unfold ldG imA
  rw [hi_setw_row]
theorem ldH_hr {h : Hp} {b a j x y : Nat} (hx : ¬ (b + 8 ≤ x ∧ x < b + 14 ∧ y = 1)) : hr (ldH h b a j 6) x y = hr h x y := by
  unfold ldH
  rw [thR_hr]
  split
  · next w =>
    show va_up _ _ _ _ = _
    unfold va_up
    rw [if_neg (by omega)]; rfl
  · rfl
theorem ldH_kt {h : Hp} {b a j : Nat} : KT (ldH h b a j 6) b := by
  intro i hi0
  have e : hr (ldH h b a j 6) (b + 8 + i) 1 = some (10 + kO (hi h a (j + (42 + 7 * i)))) := by
    unfold ldH; rw [thR_kd _ _ _ _ _ _ hi0]; rfl
  have ek : kq (ldH h b a j 6) (b + 8 + i) = kO (hi h a (j + (42 + 7 * i))) := by
    unfold kq; rw [e]; show 10 + _ - 10 = _; omega
  rw [e, ek]
  exact ⟨rfl, kO_lt _⟩
theorem twH_gs {h : Hp} {b c m L e : Nat} (g : GI h b m L e) (hb : b = 17 ∨ b = 31) (hc : c = 17 ∨ c = 31) (h6 : hr h 0 6 = some c) : GS (twH h b c) c m L e := by
  obtain ⟨g1, g2, g3, ⟨g4, g5, g6, g7, g8, g9⟩, ga, gb⟩ := g
  refine ⟨g1, RC.r (h := ldA (imA h b 48 0 84) c 48 0) g2 hc (Nat.le_refl _), ?_, ⟨?_, g5, ?_, g7, ?_, g9⟩, ?_, ldH_kt⟩
  · unfold twH; rw [ldH_hr (by omega)]; exact h6
  · rw [twH_b hc]; show mix (imG h b 0) (hi h 48) 0 84 (0 + 4) = nI m; rw [mix_in _ _ (by omega)]; exact g4
  · rw [twH_b hc]; show mix (imG h b 0) (hi h 48) 0 84 (0 + 3) = nI L; rw [mix_in _ _ (by omega)]; exact g6
  · rw [twH_b hc]; show mix (imG h b 0) (hi h 48) 0 84 (0 + 5) = nI e; rw [mix_in _ _ (by omega)]; exact g8
  · intro q hq; rw [twH_o (by omega) (by omega)]; exact ga q hq
theorem c_tryWholeYard {d : Nat} {h : Hp} {Q : Option AV → Hp → Prop} {b c m L e : Nat} (g : GI h b m L e) (hb : b = 17 ∨ b = 31) (hcb : c = 17 ∨ c = 31) (h6 : hr h 0 6 = some c) (k : Q none (twH h b c)) : Spec (d + 3) 133 [vR (some 0)] h Q := by
  obtain ⟨hN, hC, h5, hc, hK, hT⟩ := id g
  obtain ⟨hc1, hc2, hc3, hc4, hc5, hc6⟩ := id hc
  refine spec_intro (by decide +kernel) rfl (Nat.le_of_ble_eq_true rfl) ?_
  refine r_aload_n (pc' := 1) d133_0 rfl rfl rfl ?_
  refine r_getS (pc' := 4) d133_1 rfl o133 sf11_52_11 sh0 (pl hN rfl) h5 ?_
  refine r_aload_n (pc' := 5) d133_4 rfl rfl rfl ?_
  refine r_getS (pc' := 8) d133_5 rfl o133 sf11_70_11 sh0 (pl hN rfl) (rfc0_13 hC) ?_
  refine r_iconst (v := 0) (pc' := 9) d133_8 rfl (by decide) ?_
  refine r_call (pc' := 12) [vR (some b), vR (some 48), vI _] [] d133_9 rfl o133 st11_234_10 (rcv1 (shY hb) (plo hN (by omega))) rfl (by decide) ⟨rfl, rfl⟩ (Nat.le_of_ble_eq_true rfl) rfl (y_save (a := 48) (N := 84) (j := 0) hN hC hb hK hT sh48 (by decide) (by decide) (by decide) (by decide) ?_)
  refine r_aload_n (pc' := 13) d133_12 rfl rfl rfl ?_
  refine r_getS (pc' := 16) d133_13 rfl o133 sf11_56_11 sh0 (pl hN rfl) h6 ?_
  refine r_aload_n (pc' := 17) d133_16 rfl rfl rfl ?_
  refine r_getS (pc' := 20) d133_17 rfl o133 sf11_70_11 sh0 (pl hN rfl) (rfc0_13 hC) ?_
  refine r_iconst (v := 0) (pc' := 21) d133_20 rfl (by decide) ?_
  refine r_call (pc' := 24) [vR (some c), vR (some 48), vI _] [] d133_21 rfl o133 st11_230_10 (rcv1 (shY hcb) (plo hN (by omega))) rfl (by decide) ⟨rfl, rfl⟩ (Nat.le_of_ble_eq_true rfl) rfl (y_load (a := 48) (N := 84) (j := 0) hN hC hcb sh48 (by decide) (by decide) (by decide) (by decide) ?_)
  exact r_ret d133_24 rfl k
def hcF (h : Hp) (c m : Nat) : Option Nat := match hbO h c m with
  | none => none
  | some i => if hi h (c + 8 + i) 5 < hi h (c + 8 + i) 4 then some i else none
def fpO (h : Hp) (c : Nat) (o : Option Nat) : Hp := match o with
  | none => h
  | some i => fpH h c i
def hcH (h : Hp) (c m L : Nat) : Nat → Hp
  | 0 => h
  | k + 1 => psH (fpO (hcH h c m L k) c (hcF (hcH h c m L k) c m)) c m L
def hcT (h : Hp) (c m L : Nat) : Nat → Nat
  | 0 => 0
  | k + 1 => hcT h c m L k + (if (hcF (hcH h c m L k) c m).isSome then 1 else 0)
theorem hcT_le (h : Hp) (c m L k : Nat) : hcT h c m L k ≤ k := by
  induction k with
  | zero => exact Nat.le_refl _
  | succ k ih => unfold hcT; split <;> omega
theorem hbO_lt (h : Hp) (c : Nat) : ∀ k i, hbO h c k = some i → i < k := by
  intro k
  induction k with
  | zero => intro i hi0; cases hi0
  | succ k ih =>
    intro i hi0
    unfold hbO hbN at hi0
    split at hi0
    · split at hi0
      · cases hi0; omega
      · cases hi0
    · next z hz =>
      split at hi0
      · cases hi0; omega
      · cases hi0; have := ih _ hz; omega
theorem hcF_lt {h : Hp} {c m i : Nat} (hh : hcF h c m = some i) : i < m := by
  unfold hcF at hh
  split at hh
  · cases hh
  · next z hz =>
    split at hh
    · cases hh; exact hbO_lt _ _ _ _ hz
    · cases hh
theorem fpO_gs {h : Hp} {c m L e : Nat} {o : Option Nat} (g : GS h c m L e) (hb : c = 17 ∨ c = 31) (ho : ∀ i, o = some i → i < 6) : GS (fpO h c o) c m L e := by
  cases o with
  | none => exact g
  | some i => exact fpH_gs g hb (ho i rfl)
theorem hcH_gs {h : Hp} {c m L e : Nat} (g : GS h c m L e) (hb : c = 17 ∨ c = 31) : ∀ k, GS (hcH h c m L k) c m L e := by
  intro k
  induction k with
  | zero => exact g
  | succ k ih => exact psH_gs (fpO_gs ih hb (fun i hi0 => by have := hcF_lt hi0; have := g.2.2.2.1.2.1; omega)) hb
def hcR (h : Hp) (c m L n w : Nat) : Int32 := if w = 2 then nI (hcT h c m L n) else if w = 0 then buS (hcH h c m L n) c m else doS (hcH h c m L n) c m
theorem C_hand {d : Nat} {h : Hp} {Q : Option AV → Hp → Prop} {b c m L e : Nat} {u what : Int32} (g : GI h b m L e) (hb : b = 17 ∨ b = 31) (hcb : c = 17 ∨ c = 31) (h6 : hr h 0 6 = some c) (kS : hi h 0 7 = 0 → Q (some (vI (-1000002))) h) (kB : ¬ hi h 0 7 = 0 → (¬ (1 ≤ u ∧ u ≤ 60) ∨ ¬ (0 ≤ what ∧ what ≤ 2)) → Q (some (vI (-1000001))) h)
    (kW : ¬ hi h 0 7 = 0 → ∀ n : Nat, 1 ≤ n → n ≤ 60 → u = nI n → ∀ w : Nat, w ≤ 2 → what = nI w → Q (some (vI (hcR (twH h b c) c m L n w))) (hcH (twH h b c) c m L n)) : Spec (d + 5) 130 [vR (some 0), vI u, vI what] h Q := by
  obtain ⟨hN, hC, h5, hc, hK, hT⟩ := id g
  obtain ⟨hc1, hc2, hc3, hc4, hc5, hc6⟩ := id hc
  refine spec_intro (by decide +kernel) rfl (Nat.le_of_ble_eq_true rfl) ?_
  refine r_aload_n (pc' := 1) d130_0 rfl rfl rfl ?_
  refine r_getI (pc' := 4) d130_1 rfl o130 sf11_154_11 sh0 (pl hN rfl) ?_
  refine r_if_ne 10 (pc' := 7) d130_4 rfl rfl (fun c4 => ?_) (fun c4 => ?_)
  · refine r_iload_n (pc' := 11) d130_10 rfl rfl rfl ?_
    refine r_iconst (v := 1) (pc' := 12) d130_11 rfl (by decide) ?_
    refine r_call (pc' := 15) [vI _, vI _] [] d130_12 rfl o130 st11_278 rcv0 rfl (by decide) ⟨rfl, rfl⟩ (Nat.le_of_ble_eq_true rfl) rfl (c_isAhead ?_)
    refine r_if_eqB 27 (pc' := 18) d130_15 rfl rfl (fun c15 => ?_) (fun c15 => ?_)
    · refine r_ldc (pc' := 29) d130_27 rfl o130 kc11_100 ?_
      exact r_iretI d130_29 rfl (kB c4 (by first | exact Or.inl c15 | exact Or.inr (fun w => absurd w.1 (Int32.not_le.mpr c19)) | exact Or.inr (fun w => c24 w.2)))
    · refine r_iload_n (pc' := 19) d130_18 rfl rfl rfl ?_
      refine r_if_lt 27 (pc' := 22) d130_19 rfl rfl (fun c19 => ?_) (fun c19 => ?_)
      · refine r_ldc (pc' := 29) d130_27 rfl o130 kc11_100 ?_
        exact r_iretI d130_29 rfl (kB c4 (by first | exact Or.inl c15 | exact Or.inr (fun w => absurd w.1 (Int32.not_le.mpr c19)) | exact Or.inr (fun w => c24 w.2)))
      · refine r_iload_n (pc' := 23) d130_22 rfl rfl rfl ?_
        refine r_iconst (v := 2) (pc' := 24) d130_23 rfl (by decide) ?_
        refine r_icmp_le 30 (pc' := 27) d130_24 rfl rfl (fun c24 => ?_) (fun c24 => ?_)
        · obtain ⟨n, ⟨hn1, hn60⟩, rfl⟩ := nI_of3 (a := 1) (b := 60) c15 (by decide)
          have hw1 : ¬ what = 2 → ¬ what = 0 → what = 1 := fun z1 z2 => by obtain ⟨y, y1, y2⟩ := nat2 (n := 2) ⟨Int32.not_lt.mp c19, c24⟩ (by decide); subst y2; rcases (show y = 0 ∨ y = 1 ∨ y = 2 by omega) with rfl | rfl | rfl; (exact absurd rfl z2); (rfl); (exact absurd rfl z1)
          refine r_aload_n (pc' := 31) d130_30 rfl rfl rfl ?_
          refine r_call (pc' := 34) [vR (some 0)] [] d130_31 rfl o130 st11_377_11 (rcv1 sh0 (pl hN rfl)) rfl (by decide) ⟨rfl, rfl⟩ (Nat.le_of_ble_eq_true rfl) rfl (c_tryWholeYard g hb hcb h6 ?_)
          refine r_iconst (v := 0) (pc' := 35) d130_34 rfl (by decide) ?_
          refine r_istore_n (pc' := 36) (ls' := [(3, vI _), (0, vR (some 0)), (1, vI _), (2, vI _)]) d130_35 rfl rfl (by decide) rfl ?_
          refine r_iconst (v := 0) (pc' := 37) d130_36 rfl (by decide) ?_
          refine r_istore (pc' := 39) (ls' := [(4, vI _), (3, vI _), (0, vR (some 0)), (1, vI _), (2, vI _)]) d130_37 rfl (by decide) rfl ?_
          refine wp_pick (ls' := [(0, vR (some 0)), (1, vI _), (2, vI _), (3, vI _), (4, vI _)]) [2, 3, 4, 1, 0] rfl ?_
          have gs := twH_gs g hb hcb h6
          have kE := fun w9 z1 z2 => kW c4 n hn1 hn60 rfl w9 z1 z2
          generalize hH : twH h b c = H at gs kE ⊢
          have hTle := hcT_le H c m L
          have loop : ∀ (r k : Nat), k + r = n → wp (d + 5) 130 Q 0 0 39 [(0, vR (some 0)), (1, vI (nI n)), (2, vI what), (3, vI (nI (hcT H c m L k))), (4, vI (nI k))] [] (hcH H c m L k) := by
            intro r
            induction r with
            | zero =>
              intro k hk
              obtain ⟨gN, gC, g6, gc, gK, gT⟩ := hcH_gs gs hcb k
              obtain rfl : k = n := by omega
              refine r_iload (pc' := 41) d130_39 rfl rfl ?_
              refine r_iload_n (pc' := 42) d130_41 rfl rfl rfl ?_
              refine r_icmp_ge 93 (pc' := 45) d130_42 rfl rfl (fun c42 => ?_) (fun c42 => absurd (nI_le (Nat.le_refl _) (by omega)) c42)
              refine r_iload_n (pc' := 94) d130_93 rfl rfl rfl ?_
              refine r_iconst (v := 2) (pc' := 95) d130_94 rfl (by decide) ?_
              refine r_icmp_ne 100 (pc' := 98) d130_95 rfl rfl (fun c95 => ?_) (fun c95 => ?_)
              · refine r_iload_n (pc' := 101) d130_100 rfl rfl rfl ?_
                refine r_if_ne 114 (pc' := 104) d130_101 rfl rfl (fun c101 => ?_) (fun c101 => ?_)
                · refine r_aload_n (pc' := 115) d130_114 rfl rfl rfl ?_
                  refine r_getS (pc' := 118) d130_115 rfl o130 sf11_56_11 sh0 (pl gN rfl) g6 ?_
                  refine r_call (pc' := 121) [vR (some c)] [] d130_118 rfl o130 st11_387_10 (rcv1 (shY hcb) (plo gN (by omega))) rfl (by decide) ⟨rfl, rfl⟩ (Nat.le_of_ble_eq_true rfl) rfl (y_doneOnes gN gC hcb gc gK gT ?_)
                  exact r_iretI d130_121 rfl (qv (by unfold hcR; rw [if_neg (by decide), if_neg (by decide)]) (kE 1 (by decide) (hw1 c95 c101)))
                · refine r_aload_n (pc' := 105) d130_104 rfl rfl rfl ?_
                  refine r_getS (pc' := 108) d130_105 rfl o130 sf11_56_11 sh0 (pl gN rfl) g6 ?_
                  refine r_call (pc' := 111) [vR (some c)] [] d130_108 rfl o130 st11_384_10 (rcv1 (shY hcb) (plo gN (by omega))) rfl (by decide) ⟨rfl, rfl⟩ (Nat.le_of_ble_eq_true rfl) rfl (y_burntOnes gN gC hcb gc gK gT ?_)
                  refine r_goto 121 d130_111 rfl ?_
                  exact r_iretI d130_121 rfl (qv (by unfold hcR; rw [if_neg (by decide), if_pos rfl]) (kE 0 (by decide) c101))
              · refine r_iload_n (pc' := 99) d130_98 rfl rfl rfl ?_
                exact r_iretI d130_99 rfl (qv (by unfold hcR; rw [if_pos rfl]) (kE 2 (by decide) (by first | exact c95 | exact c95.symm)))
            | succ r ih =>
              intro k hk
              have gk := hcH_gs gs hcb k
              obtain ⟨gN, gC, g6, gc, gK, gT⟩ := id gk
              have hlk := hTle k
              have z := ih (k + 1) (by omega)
              unfold hcH hcT at z
              refine r_iload (pc' := 41) d130_39 rfl rfl ?_
              refine r_iload_n (pc' := 42) d130_41 rfl rfl rfl ?_
              refine r_icmp_ge 93 (pc' := 45) d130_42 rfl rfl (fun c42 => absurd c42 (nI_ge (by omega) (by omega))) (fun c42 => ?_)
              refine r_aload_n (pc' := 46) d130_45 rfl rfl rfl ?_
              refine r_getS (pc' := 49) d130_46 rfl o130 sf11_56_11 sh0 (pl gN rfl) g6 ?_
              refine r_call (pc' := 52) [vR (some c)] [] d130_49 rfl o130 st11_380_10 (rcv1 (shY hcb) (plo gN (by omega))) rfl (by decide) ⟨rfl, rfl⟩ (Nat.le_of_ble_eq_true rfl) rfl (y_hottestBelow gN gC hcb gc (fun hbn => ?_) (fun i hi0 hbs => ?_))
              · refine r_astoreN (pc' := 54) (ls' := [(5, vR none), (0, vR (some 0)), (1, vI _), (2, vI _), (3, vI _), (4, vI _)]) d130_52 rfl (by decide) rfl ?_
                refine r_aloadN (pc' := 56) d130_54 rfl rfl ?_
                refine r_nulN 80 (pc' := 59) d130_56 rfl rfl ?_
                have eF : hcF (hcH H c m L k) c m = none := by unfold hcF; rw [hbn]
                rw [eF] at z
                refine r_aload_n (pc' := 81) d130_80 rfl rfl rfl ?_
                refine r_getS (pc' := 84) d130_81 rfl o130 sf11_56_11 sh0 (pl gN rfl) g6 ?_
                refine r_call (pc' := 87) [vR (some c)] [] d130_84 rfl o130 st11_174_10 (rcv1 (shY hcb) (plo gN (by omega))) rfl (by decide) ⟨rfl, rfl⟩ (Nat.le_of_ble_eq_true rfl) rfl (y_passMinute gN gC hcb gc gK gT ?_)
                refine r_iinc (v := _ + 1) (pc' := 90) (ls' := [(4, vI _), (5, vR none), (0, vR (some 0)), (1, vI _), (2, vI _), (3, vI _)]) d130_87 rfl rfl rfl (by decide) rfl ?_
                refine r_goto 39 d130_90 rfl ?_
                refine wp_pick (ls' := [(0, vR (some 0)), (1, vI _), (2, vI _), (3, vI _), (4, vI _)]) [2, 3, 4, 5, 0] rfl ?_
                rw [nI_1]
                exact z
              · refine r_astore (pc' := 54) (ls' := [(5, vR (some (c + 8 + i))), (0, vR (some 0)), (1, vI _), (2, vI _), (3, vI _), (4, vI _)]) d130_52 rfl (by decide) rfl ?_
                refine r_aload (pc' := 56) d130_54 rfl rfl ?_
                refine r_nulS 80 (pc' := 59) d130_56 rfl rfl ?_
                refine r_aload (pc' := 61) d130_59 rfl rfl ?_
                refine r_getI (pc' := 64) d130_61 rfl o130 sf11_285_8 (shT hcb (by omega)) (plo gN (by omega)) ?_
                refine r_aload (pc' := 66) d130_64 rfl rfl ?_
                refine r_getI (pc' := 69) d130_66 rfl o130 sf11_288_8 (shT hcb (by omega)) (plo gN (by omega)) ?_
                refine r_icmp_le 80 (pc' := 72) d130_69 rfl rfl (fun c69 => ?_) (fun c69 => ?_)
                · have eF : hcF (hcH H c m L k) c m = none := by unfold hcF; rw [hbs]; exact if_neg (Int32.not_lt.mpr c69)
                  rw [eF] at z
                  refine r_aload_n (pc' := 81) d130_80 rfl rfl rfl ?_
                  refine r_getS (pc' := 84) d130_81 rfl o130 sf11_56_11 sh0 (pl gN rfl) g6 ?_
                  refine r_call (pc' := 87) [vR (some c)] [] d130_84 rfl o130 st11_174_10 (rcv1 (shY hcb) (plo gN (by omega))) rfl (by decide) ⟨rfl, rfl⟩ (Nat.le_of_ble_eq_true rfl) rfl (y_passMinute gN gC hcb gc gK gT ?_)
                  refine r_iinc (v := _ + 1) (pc' := 90) (ls' := [(4, vI _), (5, vR (some (c + 8 + i))), (0, vR (some 0)), (1, vI _), (2, vI _), (3, vI _)]) d130_87 rfl rfl rfl (by decide) rfl ?_
                  refine r_goto 39 d130_90 rfl ?_
                  refine wp_pick (ls' := [(0, vR (some 0)), (1, vI _), (2, vI _), (3, vI _), (4, vI _)]) [2, 3, 4, 5, 0] rfl ?_
                  rw [nI_1]
                  exact z
                · refine r_aload (pc' := 74) d130_72 rfl rfl ?_
                  refine r_call (pc' := 77) [vR (some (c + 8 + i))] [] d130_74 rfl o130 st11_185_8 (rcv1 (shT hcb (by omega)) (plo gN (by omega))) rfl (by decide) ⟨rfl, rfl⟩ (Nat.le_of_ble_eq_true rfl) rfl (t_flip gN (shT hcb (by omega)) (by omega) ?_)
                  refine r_iinc (v := _ + 1) (pc' := 80) (ls' := [(3, vI _), (5, vR (some (c + 8 + i))), (0, vR (some 0)), (1, vI _), (2, vI _), (4, vI _)]) d130_77 rfl rfl rfl (by decide) rfl ?_
                  have eF : hcF (hcH H c m L k) c m = some i := by unfold hcF; rw [hbs]; exact if_pos (Int32.not_le.mp c69)
                  rw [nI_1]
                  rw [eF] at z
                  have gf := fpH_gs (i := i) gk hcb (by omega)
                  obtain ⟨gN, gC, g6, gc, gK, gT⟩ := id gf
                  refine r_aload_n (pc' := 81) d130_80 rfl rfl rfl ?_
                  refine r_getS (pc' := 84) d130_81 rfl o130 sf11_56_11 sh0 (pl gN rfl) g6 ?_
                  refine r_call (pc' := 87) [vR (some c)] [] d130_84 rfl o130 st11_174_10 (rcv1 (shY hcb) (plo gN (by omega))) rfl (by decide) ⟨rfl, rfl⟩ (Nat.le_of_ble_eq_true rfl) rfl (y_passMinute gN gC hcb gc gK gT ?_)
                  refine r_iinc (v := _ + 1) (pc' := 90) (ls' := [(4, vI _), (3, vI _), (5, vR (some (c + 8 + i))), (0, vR (some 0)), (1, vI _), (2, vI _)]) d130_87 rfl rfl rfl (by decide) rfl ?_
                  refine r_goto 39 d130_90 rfl ?_
                  refine wp_pick (ls' := [(0, vR (some 0)), (1, vI _), (2, vI _), (3, vI _), (4, vI _)]) [3, 4, 5, 1, 0] rfl ?_
                  rw [nI_1]
                  exact z
          exact loop n 0 (by omega)
        · refine r_ldc (pc' := 29) d130_27 rfl o130 kc11_100 ?_
          exact r_iretI d130_29 rfl (kB c4 (by first | exact Or.inl c15 | exact Or.inr (fun w => absurd w.1 (Int32.not_le.mpr c19)) | exact Or.inr (fun w => c24 w.2)))
  · refine r_ldc (pc' := 9) d130_7 rfl o130 kc11_167 ?_
    exact r_iretI d130_9 rfl (kS c4)
def tlI (h : Hp) (b m : Nat) (v : Int32) : Bool := decide (v = -1) || (decide (inR v m) && !decide (hi h (b + 8 + v.toNatClampNeg) 2 = 13))
def tlL (h : Hp) (b m at0 : Nat) : Nat → Bool
  | 0 => true
  | k + 1 => tlL h b m at0 k && tlI h b m (hi h 2 (at0 + k))
theorem tlL_no {h : Hp} {b m at0 : Nat} : ∀ r k, tlL h b m at0 k = false → tlL h b m at0 (k + r) = false := by
  intro r
  induction r with
  | zero => intro k h; exact h
  | succ r ih => intro k h; show tlL _ _ _ _ (k + r + 1) = false; unfold tlL; rw [ih k h]; rfl
theorem tlI_n {h : Hp} {b m : Nat} {v : Int32} (h1 : ¬ v = -1) (h2 : ¬ inR v m) : tlI h b m v = false := by
  unfold tlI; rw [decide_eq_false h1, decide_eq_false h2]; rfl
theorem tlI_s {h : Hp} {b m j : Nat} (hj : j < m) (hm : m ≤ 6) (h2 : hi h (b + 8 + j) 2 = 13) : tlI h b m (nI j) = false := by
  unfold tlI
  rw [nI_clamp (by omega), decide_eq_true h2, decide_eq_false (fun z => by rcases (show j = 0 ∨ j = 1 ∨ j = 2 ∨ j = 3 ∨ j = 4 ∨ j = 5 by omega) with rfl | rfl | rfl | rfl | rfl | rfl <;> exact absurd z (by decide))]
  simp
theorem tlI_m {h : Hp} {b m : Nat} : tlI h b m (-1) = true := by unfold tlI; rw [decide_eq_true rfl]; rfl
theorem tlI_y {h : Hp} {b m j : Nat} (hj : j < m) (hm : m ≤ 6) (h2 : ¬ hi h (b + 8 + j) 2 = 13) : tlI h b m (nI j) = true := by
  unfold tlI
  rw [nI_clamp (by omega), decide_eq_false h2, decide_eq_true (inr2 (by omega) ⟨j, hj, rfl⟩)]
  simp
theorem c_tellsTurns {d : Nat} {h : Hp} {Q : Option AV → Hp → Prop} {b m L e j p n : Nat} (g : GI h b m L e) (hb : b = 17 ∨ b = 31) (hj : j < 8) (hpn : p + n ≤ 40) (kk : Q (some (vI (bI (tlL h b m (40 * j + p) n = true)))) h) : Spec (d + 1) 132 [vR (some 0), vI (nI j), vI (nI p), vI (nI n)] h Q := by
  obtain ⟨hN, hC, h5, hc, hK, hT⟩ := id g
  obtain ⟨hc1, hc2, hc3, hc4, hc5, hc6⟩ := id hc
  refine spec_intro (by decide +kernel) rfl (Nat.le_of_ble_eq_true rfl) ?_
  refine r_iconst (v := 0) (pc' := 1) d132_0 rfl (by decide) ?_
  refine r_istore (pc' := 3) (ls' := [(4, vI _), (0, vR (some 0)), (1, vI _), (2, vI _), (3, vI _)]) d132_1 rfl (by decide) rfl ?_
  refine wp_pick (ls' := [(0, vR (some 0)), (1, vI _), (2, vI _), (3, vI _), (4, vI _)]) [1, 2, 3, 4, 0] rfl ?_
  have loop : ∀ (r k : Nat), k + r = n → tlL h b m (40 * j + p) k = true → wp (d + 1) 132 Q 0 0 3 [(0, vR (some 0)), (1, vI (nI j)), (2, vI (nI p)), (3, vI (nI n)), (4, vI (nI k))] [] h := by
    intro r
    induction r with
    | zero =>
      intro k hk ht
      obtain rfl : k = n := by omega
      refine r_iload (pc' := 5) d132_3 rfl rfl ?_
      refine r_iload_n (pc' := 6) d132_5 rfl rfl rfl ?_
      refine r_icmp_ge 61 (pc' := 9) d132_6 rfl rfl (fun c6 => ?_) (fun c6 => absurd (nI_le (Nat.le_refl _) (by omega)) c6)
      refine r_iconst (v := 1) (pc' := 62) d132_61 rfl (by decide) ?_
      exact r_iretZ1 d132_62 rfl (qv (b1 ht) kk)
    | succ r ih =>
      intro k hk ht
      generalize hV : hi h 2 (40 * j + (p + k)) = V9
      have eV : tlL h b m (40 * j + p) (k + 1) = tlI h b m V9 := by rw [tlL, ht, ← hV, Nat.add_assoc]; rfl
      have kF : tlI h b m V9 = false → Q (some (vI 0)) h := fun z => qv (b0 (by rw [show n = (k + 1) + r by omega, tlL_no r (k + 1) (eV.trans z)]; decide)) kk
      refine r_iload (pc' := 5) d132_3 rfl rfl ?_
      refine r_iload_n (pc' := 6) d132_5 rfl rfl rfl ?_
      refine r_icmp_ge 61 (pc' := 9) d132_6 rfl rfl (fun c6 => absurd c6 (nI_ge (by omega) (by omega))) (fun c6 => ?_)
      refine r_aload_n (pc' := 10) d132_9 rfl rfl rfl ?_
      refine r_getS (pc' := 13) d132_10 rfl o132 sf11_10_11 sh0 (pl hN rfl) (rfc0_0 hC) ?_
      refine r_iload_n (pc' := 14) d132_13 rfl rfl rfl ?_
      refine r_iload_n (pc' := 15) d132_14 rfl rfl rfl ?_
      refine r_iload (pc' := 17) d132_15 rfl rfl ?_
      refine r_iadd (pc' := 18) d132_17 rfl ?_
      rw [nI_add]
      refine r_call (pc' := 21) [vR (some 1), vI _, vI _] [] d132_18 rfl o132 st11_393_5 (rcv1 sh1 (pl hN rfl)) rfl (by decide) ⟨rfl, rfl⟩ (Nat.le_of_ble_eq_true rfl) rfl (c_get (q := p + k) hN hC hj (by omega) ?_)
      rw [hV]
      refine r_istore (pc' := 23) (ls' := [(5, vI _), (0, vR (some 0)), (1, vI _), (2, vI _), (3, vI _), (4, vI _)]) d132_21 rfl (by decide) rfl ?_
      refine r_aload_n (pc' := 24) d132_23 rfl rfl rfl ?_
      refine r_getS (pc' := 27) d132_24 rfl o132 sf11_52_11 sh0 (pl hN rfl) h5 ?_
      refine r_iload (pc' := 29) d132_27 rfl rfl ?_
      refine r_call (pc' := 32) [vR (some b), vI _] [] d132_29 rfl o132 st11_177_10 (rcv1 (shY hb) (plo hN (by omega))) rfl (by decide) ⟨rfl, rfl⟩ (Nat.le_of_ble_eq_true rfl) rfl (y_thingAt hN hC hb hc (fun hbad => ?_) (fun j1 hj0 hj1 => ?_))
      · refine r_astoreN (pc' := 34) (ls' := [(6, vR none), (5, vI _), (0, vR (some 0)), (1, vI _), (2, vI _), (3, vI _), (4, vI _)]) d132_32 rfl (by decide) rfl ?_
        refine r_iload (pc' := 36) d132_34 rfl rfl ?_
        refine r_iconst (v := (-1)) (pc' := 37) d132_36 rfl (by decide) ?_
        refine r_icmp_eq 55 (pc' := 40) d132_37 rfl rfl (fun c37 => ?_) (fun c37 => ?_)
        · refine r_iinc (v := _ + 1) (pc' := 58) (ls' := [(4, vI _), (6, vR none), (5, vI _), (0, vR (some 0)), (1, vI _), (2, vI _), (3, vI _)]) d132_55 rfl rfl rfl (by decide) rfl ?_
          refine r_goto 3 d132_58 rfl ?_
          refine wp_pick (ls' := [(0, vR (some 0)), (1, vI _), (2, vI _), (3, vI _), (4, vI _)]) [3, 4, 5, 6, 0] rfl ?_
          rw [nI_1]
          exact ih (k + 1) (by omega) (eV.trans (by rw [c37]; exact tlI_m))
        · refine r_aloadN (pc' := 42) d132_40 rfl rfl ?_
          refine r_nulN 53 (pc' := 45) d132_42 rfl rfl ?_
          refine r_iconst (v := 0) (pc' := 54) d132_53 rfl (by decide) ?_
          exact r_iretZ0 d132_54 rfl (kF (tlI_n c37 hbad))
      · refine r_astore (pc' := 34) (ls' := [(6, vR (some (b + 8 + j1))), (5, vI _), (0, vR (some 0)), (1, vI _), (2, vI _), (3, vI _), (4, vI _)]) d132_32 rfl (by decide) rfl ?_
        refine r_iload (pc' := 36) d132_34 rfl rfl ?_
        refine r_iconst (v := (-1)) (pc' := 37) d132_36 rfl (by decide) ?_
        refine r_icmp_eq 55 (pc' := 40) d132_37 rfl rfl (fun c37 => ?_) (fun c37 => ?_)
        · refine r_iinc (v := _ + 1) (pc' := 58) (ls' := [(4, vI _), (6, vR (some (b + 8 + j1))), (5, vI _), (0, vR (some 0)), (1, vI _), (2, vI _), (3, vI _)]) d132_55 rfl rfl rfl (by decide) rfl ?_
          refine r_goto 3 d132_58 rfl ?_
          refine wp_pick (ls' := [(0, vR (some 0)), (1, vI _), (2, vI _), (3, vI _), (4, vI _)]) [3, 4, 5, 6, 0] rfl ?_
          rw [nI_1]
          exact ih (k + 1) (by omega) (eV.trans (by rw [c37]; exact tlI_m))
        · refine r_aload (pc' := 42) d132_40 rfl rfl ?_
          refine r_nulS 53 (pc' := 45) d132_42 rfl rfl ?_
          refine r_aload (pc' := 47) d132_45 rfl rfl ?_
          refine r_call (pc' := 50) [vR (some (b + 8 + j1))] [] d132_47 rfl o132 st11_181_8 (rcv1 (shT hb (by omega)) (plo hN (by omega))) rfl (by decide) ⟨rfl, rfl⟩ (Nat.le_of_ble_eq_true rfl) rfl (t_isServed hN (shT hb (by omega)) (by omega) ?_)
          refine r_if_eqB 55 (pc' := 53) d132_50 rfl rfl (fun c50 => ?_) (fun c50 => ?_)
          · refine r_iinc (v := _ + 1) (pc' := 58) (ls' := [(4, vI _), (6, vR (some (b + 8 + j1))), (5, vI _), (0, vR (some 0)), (1, vI _), (2, vI _), (3, vI _)]) d132_55 rfl rfl rfl (by decide) rfl ?_
            refine r_goto 3 d132_58 rfl ?_
            refine wp_pick (ls' := [(0, vR (some 0)), (1, vI _), (2, vI _), (3, vI _), (4, vI _)]) [3, 4, 5, 6, 0] rfl ?_
            rw [nI_1]
            exact ih (k + 1) (by omega) (eV.trans (by rw [hj1]; exact tlI_y hj0 (by omega) c50))
          · refine r_iconst (v := 0) (pc' := 54) d132_53 rfl (by decide) ?_
            exact r_iretZ0 d132_54 rfl (kF (by rw [hj1]; exact tlI_s hj0 (by omega) c50))
  exact loop n 0 (by omega) rfl
def jcO (m : Nat) (v : Int32) : Option Nat := if inR v m then some v.toNatClampNeg else none
theorem jcO_n {m : Nat} {v : Int32} (h : ¬ inR v m) : jcO m v = none := if_neg h
theorem jcO_s {m j : Nat} (hj : j < m) (hm : m ≤ 6) : jcO m (nI j) = some j := by unfold jcO; rw [if_pos (inr2 (by omega) ⟨j, hj, rfl⟩), nI_clamp (by omega)]
theorem jcO_lt {m i : Nat} {v : Int32} (hm : m ≤ 6) (h : jcO m v = some i) : i < m := by
  unfold jcO at h
  split at h
  · next w =>
    obtain ⟨j, hj, rfl⟩ := inR_of w (by omega)
    rw [nI_clamp (by omega)] at h; cases h; exact hj
  · cases h
def jcH (h : Hp) (g : Nat → Int32) (c m L at0 : Nat) : Nat → Hp
  | 0 => h
  | k + 1 => psH (fpO (jcH h g c m L at0 k) c (jcO m (g (at0 + k)))) c m L
theorem jcH_gs {h : Hp} {g : Nat → Int32} {c m L e at0 : Nat} (gs : GS h c m L e) (hb : c = 17 ∨ c = 31) : ∀ k, GS (jcH h g c m L at0 k) c m L e := by
  intro k
  induction k with
  | zero => exact gs
  | succ k ih => exact psH_gs (fpO_gs ih hb (fun i hi0 => by have := gs.2.2.2.1.2.1; have := jcO_lt this hi0; omega)) hb
theorem fpO_2 {h : Hp} {c m : Nat} {o : Option Nat} (hc : c = 17 ∨ c = 31) : hi (fpO h c o) 2 = hi h 2 := by
  cases o with
  | none => rfl
  | some i => exact fpH_o (by omega)
theorem jcH_2 {h : Hp} {g : Nat → Int32} {c m L at0 : Nat} (hc : c = 17 ∨ c = 31) (hm : m ≤ 6) : ∀ k, hi (jcH h g c m L at0 k) 2 = hi h 2 := by
  intro k
  induction k with
  | zero => rfl
  | succ k ih => unfold jcH; rw [psH_o hm (by omega), fpO_2 (m := m) hc, ih]
theorem C_judged {d : Nat} {h : Hp} {Q : Option AV → Hp → Prop} {b c m L e : Nat} {row i u : Int32} (g : GI h b m L e) (hb : b = 17 ∨ b = 31) (hcb : c = 17 ∨ c = 31) (h6 : hr h 0 6 = some c) (hS : ∀ j, j < 8 → ¬ hi h 3 j = -1 → ∃ z : Nat, z ≤ 40 ∧ hi h 4 j = nI z) (kS : hi h 0 7 = 0 → Q (some (vI (-1000002))) h) (kB : ¬ hi h 0 7 = 0 → (¬ (0 ≤ row ∧ row ≤ 7) ∨ ¬ (0 ≤ u ∧ u ≤ 40)) → Q (some (vI (-1000001))) h)
    (kN : ¬ hi h 0 7 = 0 → ∀ j : Nat, j < 8 → row = nI j → ∀ n : Nat, n ≤ 40 → u = nI n →  hi h 3 j = -1 → Q (some (vI (-1000011))) (seti h 0 16 1))
    (kP : ¬ hi h 0 7 = 0 → ∀ j : Nat, j < 8 → row = nI j → ∀ n : Nat, n ≤ 40 → u = nI n →  ¬ hi h 3 j = -1 → ¬ (0 ≤ i ∧ 0 ≤ nI n ∧ nI n ≤ hi h 4 j ∧ i ≤ hi h 4 j - nI n) → Q (some (vI (-1000012))) (seti h 0 16 2))
    (kI : ¬ hi h 0 7 = 0 → ∀ j : Nat, j < 8 → row = nI j → ∀ n : Nat, n ≤ 40 → u = nI n →  ¬ hi h 3 j = -1 → ∀ p : Nat, p + n ≤ 40 → i = nI p → (0 ≤ i ∧ 0 ≤ nI n ∧ nI n ≤ hi h 4 j ∧ i ≤ hi h 4 j - nI n) → ¬ tlL h b m (40 * j + p) n = true → Q (some (vI (-1000001))) h)
    (kW : ¬ hi h 0 7 = 0 → ∀ j : Nat, j < 8 → row = nI j → ∀ n : Nat, n ≤ 40 → u = nI n →  ¬ hi h 3 j = -1 → ∀ p : Nat, p + n ≤ 40 → i = nI p → (0 ≤ i ∧ 0 ≤ nI n ∧ nI n ≤ hi h 4 j ∧ i ≤ hi h 4 j - nI n) → tlL h b m (40 * j + p) n = true → Q (some (vI (doS (jcH (twH h b c) (hi h 2) c m L (40 * j + p) n) c m))) (seti (jcH (twH h b c) (hi h 2) c m L (40 * j + p) n) 0 16 0)) : Spec (d + 5) 131 [vR (some 0), vI row, vI i, vI u] h Q := by
  obtain ⟨hN, hC, h5, hc, hK, hT⟩ := id g
  obtain ⟨hc1, hc2, hc3, hc4, hc5, hc6⟩ := id hc
  refine spec_intro (by decide +kernel) rfl (Nat.le_of_ble_eq_true rfl) ?_
  refine r_aload_n (pc' := 1) d131_0 rfl rfl rfl ?_
  refine r_getI (pc' := 4) d131_1 rfl o131 sf11_154_11 sh0 (pl hN rfl) ?_
  refine r_if_ne 10 (pc' := 7) d131_4 rfl rfl (fun c4 => ?_) (fun c4 => ?_)
  · refine r_aload_n (pc' := 11) d131_10 rfl rfl rfl ?_
    refine r_getS (pc' := 14) d131_11 rfl o131 sf11_10_11 sh0 (pl hN rfl) (rfc0_0 hC) ?_
    refine r_iload_n (pc' := 15) d131_14 rfl rfl rfl ?_
    refine r_call (pc' := 18) [vR (some 1), vI _] [] d131_15 rfl o131 st11_96_5 (rcv1 sh1 (pl hN rfl)) rfl (by decide) ⟨rfl, rfl⟩ (Nat.le_of_ble_eq_true rfl) rfl (c_isRow ?_)
    refine r_if_eqB 31 (pc' := 21) d131_18 rfl rfl (fun c18 => ?_) (fun c18 => ?_)
    · refine r_ldc (pc' := 33) d131_31 rfl o131 kc11_100 ?_
      exact r_iretI d131_33 rfl (kB c4 (by first | exact Or.inl c18 | exact Or.inr (fun w => absurd w.1 (Int32.not_le.mpr c22)) | exact Or.inr (fun w => c28 w.2)))
    · refine r_iload_n (pc' := 22) d131_21 rfl rfl rfl ?_
      refine r_if_lt 31 (pc' := 25) d131_22 rfl rfl (fun c22 => ?_) (fun c22 => ?_)
      · refine r_ldc (pc' := 33) d131_31 rfl o131 kc11_100 ?_
        exact r_iretI d131_33 rfl (kB c4 (by first | exact Or.inl c18 | exact Or.inr (fun w => absurd w.1 (Int32.not_le.mpr c22)) | exact Or.inr (fun w => c28 w.2)))
      · refine r_iload_n (pc' := 26) d131_25 rfl rfl rfl ?_
        refine r_bipush (v := 40) (pc' := 28) d131_26 rfl (by decide) ?_
        refine r_icmp_le 34 (pc' := 31) d131_28 rfl rfl (fun c28 => ?_) (fun c28 => ?_)
        · obtain ⟨j, hj7, rfl⟩ := nat2 (n := 7) c18 (by decide)
          have hj8 : j < 8 := by omega
          obtain ⟨n, hn40, rfl⟩ := nat2 (n := 40) ⟨Int32.not_lt.mp c22, c28⟩ (by decide)
          refine r_aload_n (pc' := 35) d131_34 rfl rfl rfl ?_
          refine r_getS (pc' := 38) d131_35 rfl o131 sf11_10_11 sh0 (pl hN rfl) (rfc0_0 hC) ?_
          refine r_iload_n (pc' := 39) d131_38 rfl rfl rfl ?_
          refine r_call (pc' := 42) [vR (some 1), vI _] [] d131_39 rfl o131 st11_112_5 (rcv1 sh1 (pl hN rfl)) rfl (by decide) ⟨rfl, rfl⟩ (Nat.le_of_ble_eq_true rfl) rfl (c_isMissing hN hC hj8 ?_)
          refine r_if_eqB 51 (pc' := 45) d131_42 rfl rfl (fun c42 => ?_) (fun c42 => ?_)
          · refine r_aload_n (pc' := 52) d131_51 rfl rfl rfl ?_
            refine r_getS (pc' := 55) d131_52 rfl o131 sf11_10_11 sh0 (pl hN rfl) (rfc0_0 hC) ?_
            refine r_iload_n (pc' := 56) d131_55 rfl rfl rfl ?_
            refine r_iload_n (pc' := 57) d131_56 rfl rfl rfl ?_
            refine r_iload_n (pc' := 58) d131_57 rfl rfl rfl ?_
            refine r_call (pc' := 61) [vR (some 1), vI _, vI _, vI _] [] d131_58 rfl o131 st11_115_5 (rcv1 sh1 (pl hN rfl)) rfl (by decide) ⟨rfl, rfl⟩ (Nat.le_of_ble_eq_true rfl) rfl (c_hasPlaces hN hC hj8 ?_)
            refine r_if_neB 70 (pc' := 64) d131_61 rfl rfl (fun c61 => ?_) (fun c61 => ?_)
            · obtain ⟨z, hz40, hz⟩ := hS j hj8 c42
              have c61b := c61
              rw [hz] at c61b
              obtain ⟨p, m9, hpm, rfl, e9⟩ := span_of hz40 c61b
              obtain rfl : n = m9 := by have := (nI_eq (a := n) (b := m9) (by omega) (by omega)).mp e9; exact this
              have hpn : p + n ≤ 40 := by omega
              refine r_aload_n (pc' := 71) d131_70 rfl rfl rfl ?_
              refine r_iload_n (pc' := 72) d131_71 rfl rfl rfl ?_
              refine r_iload_n (pc' := 73) d131_72 rfl rfl rfl ?_
              refine r_iload_n (pc' := 74) d131_73 rfl rfl rfl ?_
              refine r_call (pc' := 77) [vR (some 0), vI _, vI _, vI _] [] d131_74 rfl o131 st11_390_11 (rcv1 sh0 (pl hN rfl)) rfl (by decide) ⟨rfl, rfl⟩ (Nat.le_of_ble_eq_true rfl) rfl (c_tellsTurns g hb hj8 hpn ?_)
              refine r_if_neB 83 (pc' := 80) d131_77 rfl rfl (fun c77 => ?_) (fun c77 => ?_)
              · refine r_aload_n (pc' := 84) d131_83 rfl rfl rfl ?_
                refine r_call (pc' := 87) [vR (some 0)] [] d131_84 rfl o131 st11_377_11 (rcv1 sh0 (pl hN rfl)) rfl (by decide) ⟨rfl, rfl⟩ (Nat.le_of_ble_eq_true rfl) rfl (c_tryWholeYard g hb hcb h6 ?_)
                refine r_iconst (v := 0) (pc' := 88) d131_87 rfl (by decide) ?_
                refine r_istore (pc' := 90) (ls' := [(4, vI _), (0, vR (some 0)), (1, vI _), (2, vI _), (3, vI _)]) d131_88 rfl (by decide) rfl ?_
                refine wp_pick (ls' := [(0, vR (some 0)), (1, vI _), (2, vI _), (3, vI _), (4, vI _)]) [1, 2, 3, 4, 0] rfl ?_
                have gs := twH_gs g hb hcb h6
                have kE := kW c4 j hj8 rfl n hn40 rfl c42 p hpn rfl c61 c77
                have e2 : hi (twH h b c) 2 = hi h 2 := twH_o (by decide) (by omega)
                generalize hH : twH h b c = H at gs kE e2 ⊢
                have loop : ∀ (r k : Nat), k + r = n → wp (d + 5) 131 Q 0 0 90 [(0, vR (some 0)), (1, vI (nI j)), (2, vI (nI p)), (3, vI (nI n)), (4, vI (nI k))] [] (jcH H (hi h 2) c m L (40 * j + p) k) := by
                  intro r
                  induction r with
                  | zero =>
                    intro k hk
                    obtain ⟨gN, gC, g6, gc, gK, gT⟩ := jcH_gs (g := hi h 2) (at0 := 40 * j + p) gs hcb k
                    obtain rfl : k = n := by omega
                    refine r_iload (pc' := 92) d131_90 rfl rfl ?_
                    refine r_iload_n (pc' := 93) d131_92 rfl rfl rfl ?_
                    refine r_icmp_ge 140 (pc' := 96) d131_93 rfl rfl (fun c93 => ?_) (fun c93 => absurd (nI_le (Nat.le_refl _) (by omega)) c93)
                    refine r_aload_n (pc' := 141) d131_140 rfl rfl rfl ?_
                    refine r_aload_n (pc' := 142) d131_141 rfl rfl rfl ?_
                    refine r_getS (pc' := 145) d131_142 rfl o131 sf11_56_11 sh0 (pl gN rfl) g6 ?_
                    refine r_call (pc' := 148) [vR (some c)] [vR (some 0)] d131_145 rfl o131 st11_387_10 (rcv1 (shY hcb) (plo gN (by omega))) rfl (by decide) ⟨rfl, rfl⟩ (Nat.le_of_ble_eq_true rfl) rfl (y_doneOnes gN gC hcb gc gK gT ?_)
                    refine r_call (pc' := 151) [vR (some 0), vI _] [] d131_148 rfl o131 st11_109_11 (rcv1 sh0 (pl gN rfl)) rfl (by decide) ⟨rfl, rfl⟩ (Nat.le_of_ble_eq_true rfl) rfl (c_answered gN ?_)
                    exact r_iretI d131_151 rfl kE
                  | succ r ih =>
                    intro k hk
                    have gk := jcH_gs (g := hi h 2) (at0 := 40 * j + p) gs hcb k
                    obtain ⟨gN, gC, g6, gc, gK, gT⟩ := id gk
                    have e3 := jcH_2 (h := H) (g := hi h 2) (L := L) (at0 := 40 * j + p) (m := m) hcb (by omega) k
                    have z := ih (k + 1) (by omega)
                    unfold jcH at z
                    generalize hV : hi h 2 (40 * j + p + k) = V9 at z
                    refine r_iload (pc' := 92) d131_90 rfl rfl ?_
                    refine r_iload_n (pc' := 93) d131_92 rfl rfl rfl ?_
                    refine r_icmp_ge 140 (pc' := 96) d131_93 rfl rfl (fun c93 => absurd c93 (nI_ge (by omega) (by omega))) (fun c93 => ?_)
                    refine r_aload_n (pc' := 97) d131_96 rfl rfl rfl ?_
                    refine r_getS (pc' := 100) d131_97 rfl o131 sf11_56_11 sh0 (pl gN rfl) g6 ?_
                    refine r_aload_n (pc' := 101) d131_100 rfl rfl rfl ?_
                    refine r_getS (pc' := 104) d131_101 rfl o131 sf11_10_11 sh0 (pl gN rfl) (rfc0_0 gC) ?_
                    refine r_iload_n (pc' := 105) d131_104 rfl rfl rfl ?_
                    refine r_iload_n (pc' := 106) d131_105 rfl rfl rfl ?_
                    refine r_iload (pc' := 108) d131_106 rfl rfl ?_
                    refine r_iadd (pc' := 109) d131_108 rfl ?_
                    rw [nI_add]
                    refine r_call (pc' := 112) [vR (some 1), vI _, vI _] [vR (some c)] d131_109 rfl o131 st11_393_5 (rcv1 sh1 (pl gN rfl)) rfl (by decide) ⟨rfl, rfl⟩ (Nat.le_of_ble_eq_true rfl) rfl (c_get (q := p + k) gN gC hj8 (by omega) ?_)
                    rw [e3, e2, show 40 * j + (p + k) = 40 * j + p + k by omega, hV]
                    refine r_call (pc' := 115) [vR (some c), vI _] [] d131_112 rfl o131 st11_177_10 (rcv1 (shY hcb) (plo gN (by omega))) rfl (by decide) ⟨rfl, rfl⟩ (Nat.le_of_ble_eq_true rfl) rfl (y_thingAt gN gC hcb gc (fun hbad => ?_) (fun j1 hj0 hj1 => ?_))
                    · refine r_astoreN (pc' := 117) (ls' := [(5, vR none), (0, vR (some 0)), (1, vI _), (2, vI _), (3, vI _), (4, vI _)]) d131_115 rfl (by decide) rfl ?_
                      refine r_aloadN (pc' := 119) d131_117 rfl rfl ?_
                      refine r_nulN 127 (pc' := 122) d131_119 rfl rfl ?_
                      rw [jcO_n hbad] at z
                      refine r_aload_n (pc' := 128) d131_127 rfl rfl rfl ?_
                      refine r_getS (pc' := 131) d131_128 rfl o131 sf11_56_11 sh0 (pl gN rfl) g6 ?_
                      refine r_call (pc' := 134) [vR (some c)] [] d131_131 rfl o131 st11_174_10 (rcv1 (shY hcb) (plo gN (by omega))) rfl (by decide) ⟨rfl, rfl⟩ (Nat.le_of_ble_eq_true rfl) rfl (y_passMinute gN gC hcb gc gK gT ?_)
                      refine r_iinc (v := _ + 1) (pc' := 137) (ls' := [(4, vI _), (5, vR none), (0, vR (some 0)), (1, vI _), (2, vI _), (3, vI _)]) d131_134 rfl rfl rfl (by decide) rfl ?_
                      refine r_goto 90 d131_137 rfl ?_
                      refine wp_pick (ls' := [(0, vR (some 0)), (1, vI _), (2, vI _), (3, vI _), (4, vI _)]) [2, 3, 4, 5, 0] rfl ?_
                      rw [nI_1]
                      exact z
                    · refine r_astore (pc' := 117) (ls' := [(5, vR (some (c + 8 + j1))), (0, vR (some 0)), (1, vI _), (2, vI _), (3, vI _), (4, vI _)]) d131_115 rfl (by decide) rfl ?_
                      refine r_aload (pc' := 119) d131_117 rfl rfl ?_
                      refine r_nulS 127 (pc' := 122) d131_119 rfl rfl ?_
                      refine r_aload (pc' := 124) d131_122 rfl rfl ?_
                      refine r_call (pc' := 127) [vR (some (c + 8 + j1))] [] d131_124 rfl o131 st11_185_8 (rcv1 (shT hcb (by omega)) (plo gN (by omega))) rfl (by decide) ⟨rfl, rfl⟩ (Nat.le_of_ble_eq_true rfl) rfl (t_flip gN (shT hcb (by omega)) (by omega) ?_)
                      rw [hj1, jcO_s hj0 (by omega)] at z
                      have gf := fpH_gs (i := j1) gk hcb (by omega)
                      obtain ⟨gN, gC, g6, gc, gK, gT⟩ := id gf
                      refine r_aload_n (pc' := 128) d131_127 rfl rfl rfl ?_
                      refine r_getS (pc' := 131) d131_128 rfl o131 sf11_56_11 sh0 (pl gN rfl) g6 ?_
                      refine r_call (pc' := 134) [vR (some c)] [] d131_131 rfl o131 st11_174_10 (rcv1 (shY hcb) (plo gN (by omega))) rfl (by decide) ⟨rfl, rfl⟩ (Nat.le_of_ble_eq_true rfl) rfl (y_passMinute gN gC hcb gc gK gT ?_)
                      refine r_iinc (v := _ + 1) (pc' := 137) (ls' := [(4, vI _), (5, vR (some (c + 8 + j1))), (0, vR (some 0)), (1, vI _), (2, vI _), (3, vI _)]) d131_134 rfl rfl rfl (by decide) rfl ?_
                      refine r_goto 90 d131_137 rfl ?_
                      refine wp_pick (ls' := [(0, vR (some 0)), (1, vI _), (2, vI _), (3, vI _), (4, vI _)]) [2, 3, 4, 5, 0] rfl ?_
                      rw [nI_1]
                      exact z
                exact loop n 0 (by omega)
              · refine r_ldc (pc' := 82) d131_80 rfl o131 kc11_100 ?_
                exact r_iretI d131_82 rfl (kI c4 j hj8 rfl n hn40 rfl c42 p hpn rfl c61 c77)
            · refine r_aload_n (pc' := 65) d131_64 rfl rfl rfl ?_
              refine r_iconst (v := 2) (pc' := 66) d131_65 rfl (by decide) ?_
              refine r_call (pc' := 69) [vR (some 0), vI _] [] d131_66 rfl o131 st11_101_11 (rcv1 sh0 (pl hN rfl)) rfl (by decide) ⟨rfl, rfl⟩ (Nat.le_of_ble_eq_true rfl) rfl (c_found hN ?_)
              exact r_iretI d131_69 rfl (kP c4 j hj8 rfl n hn40 rfl c42 c61)
          · refine r_aload_n (pc' := 46) d131_45 rfl rfl rfl ?_
            refine r_iconst (v := 1) (pc' := 47) d131_46 rfl (by decide) ?_
            refine r_call (pc' := 50) [vR (some 0), vI _] [] d131_47 rfl o131 st11_101_11 (rcv1 sh0 (pl hN rfl)) rfl (by decide) ⟨rfl, rfl⟩ (Nat.le_of_ble_eq_true rfl) rfl (c_found hN ?_)
            exact r_iretI d131_50 rfl (kN c4 j hj8 rfl n hn40 rfl c42)
        · refine r_ldc (pc' := 33) d131_31 rfl o131 kc11_100 ?_
          exact r_iretI d131_33 rfl (kB c4 (by first | exact Or.inl c18 | exact Or.inr (fun w => absurd w.1 (Int32.not_le.mpr c22)) | exact Or.inr (fun w => c28 w.2)))
  · refine r_ldc (pc' := 9) d131_7 rfl o131 kc11_167 ?_
    exact r_iretI d131_9 rfl (kS c4)
