/-! the reference: start, coal for, fuel, hand, judged (printed by wip/whole/m46.py) -/
theorem add_m1 (x : Int32) : x + (-1) = x - 1 := by rw [Int32.sub_eq_add_neg]
def stA (s : Nat → Int32) (m L t q : Nat) : Nat → Int32 := gmN (upd s (45 + t) 12) m L q
def stB (s : Nat → Int32) (m L t : Nat) (cell : Int32) (T q : Nat) : Nat → Int32 := gmN (upd (stA s m L t q) (45 + t) cell) m L (T - q)
def stF (s : Nat → Int32) (m L t : Nat) (cell : Int32) (T : Nat) : Nat → Int32
  | 0 => -1000000
  | r + 1 => if wellI (stB s m L t cell T r) t then nI r else stF s m L t cell T r
theorem cnt_upd {s : Nat → Int32} {m L e : Nat} (h : Cnt s m L e) (j : Nat) (v : Int32) (hj : 45 ≤ j) : Cnt (upd s j v) m L e := h.out (upd_ne _ _ _ (by omega)) (upd_ne _ _ _ (by omega)) (upd_ne _ _ _ (by omega))
theorem sk_upd {s : Nat → Int32} (h : ¬ s 3 = 0) (j : Nat) (v : Int32) (hj : 45 ≤ j) : ¬ upd s j v 3 = 0 := by rw [upd_ne _ _ _ (by omega)]; exact h
theorem sk_gm {s : Nat → Int32} {m L : Nat} (h : ¬ s 3 = 0) (hL : L ≤ 8) (k : Nat) : ¬ gmN s m L k 3 = 0 := by rw [gmN_lo _ _ _ _ _ (by decide) (by decide) (by decide) hL]; exact h
theorem M_start {d : Nat} {h : Hp} {Q : Option AV → Hp → Prop} {m L e : Nat} {t cell u : Int32} (hN : hn h = 65) (hM : RM h) (hc : Cnt (hi h 51) m L e) (hsk : ∀ j : Nat, j < m → ¬ hi h 51 3 = 0) (kB : (¬ inR t m ∨ ¬ (0 ≤ cell ∧ cell ≤ 11) ∨ ¬ (1 ≤ u ∧ u ≤ 60)) → Q (some (vI (-1000001))) h)
    (kS : ∀ j : Nat, j < m → t = nI j → (0 ≤ cell ∧ cell ≤ 11) → ∀ T : Nat, 1 ≤ T → T ≤ 60 → u = nI T → (goneI (hi h 51) j ∨ takI (hi h 51) m j cell) → Q (some (vI (-1000002))) h)
    (kW : ∀ j : Nat, j < m → t = nI j → (0 ≤ cell ∧ cell ≤ 11) → ∀ T : Nat, 1 ≤ T → T ≤ 60 → u = nI T → ¬ goneI (hi h 51) j → ¬ takI (hi h 51) m j cell → ∀ x y, Q (some (vI (stF (hi h 51) m L j cell T (T + 1)))) (jk h x y)) : Spec (d + 5) 218 [vR (some 50), vI t, vI cell, vI u] h Q := by
  obtain ⟨hc1, hc2, hc3, hc4, hc5, hc6⟩ := id hc
  refine spec_intro (by decide +kernel) rfl (Nat.le_of_ble_eq_true rfl) ?_
  refine r_aload_n (pc' := 1) d218_0 rfl rfl rfl ?_
  refine r_iload_n (pc' := 2) d218_1 rfl rfl rfl ?_
  refine r_call (pc' := 5) [vR (some 50), vI _] [] d218_2 rfl o218 st12_194_12 (rcv1 sh50 (pl hN rfl)) rfl (by decide) ⟨rfl, rfl⟩ (Nat.le_of_ble_eq_true rfl) rfl (s_isThingC hN hM hc ?_)
  refine r_if_eqB 28 (pc' := 8) d218_5 rfl rfl (fun c5 => ?_) (fun c5 => ?_)
  · refine r_ldc (pc' := 30) d218_28 rfl o218 kc12_67 ?_
    exact r_iretI d218_30 rfl (kB (by first | exact Or.inl c5 | exact Or.inr (Or.inl c15) | exact Or.inr (Or.inr c25)))
  · refine r_iload_n (pc' := 9) d218_8 rfl rfl rfl ?_
    refine r_iconst (v := 0) (pc' := 10) d218_9 rfl (by decide) ?_
    refine r_bipush (v := 11) (pc' := 12) d218_10 rfl (by decide) ?_
    refine r_call (pc' := 15) [vI _, vI _, vI _] [] d218_12 rfl o218 st12_59 rcv0 rfl (by decide) ⟨rfl, rfl⟩ (Nat.le_of_ble_eq_true rfl) rfl (s_in ?_)
    refine r_if_eqB 28 (pc' := 18) d218_15 rfl rfl (fun c15 => ?_) (fun c15 => ?_)
    · refine r_ldc (pc' := 30) d218_28 rfl o218 kc12_67 ?_
      exact r_iretI d218_30 rfl (kB (by first | exact Or.inl c5 | exact Or.inr (Or.inl c15) | exact Or.inr (Or.inr c25)))
    · refine r_iload_n (pc' := 19) d218_18 rfl rfl rfl ?_
      refine r_iconst (v := 1) (pc' := 20) d218_19 rfl (by decide) ?_
      refine r_bipush (v := 60) (pc' := 22) d218_20 rfl (by decide) ?_
      refine r_call (pc' := 25) [vI _, vI _, vI _] [] d218_22 rfl o218 st12_59 rcv0 rfl (by decide) ⟨rfl, rfl⟩ (Nat.le_of_ble_eq_true rfl) rfl (s_in ?_)
      refine r_if_neB 31 (pc' := 28) d218_25 rfl rfl (fun c25 => ?_) (fun c25 => ?_)
      · obtain ⟨j, hj, rfl⟩ := inR_of c5 (by omega)
        obtain ⟨T, ⟨hT1, hT2⟩, rfl⟩ := nI_of3 (a := 1) (b := 60) c25 (by decide)
        refine r_aload_n (pc' := 32) d218_31 rfl rfl rfl ?_
        refine r_iload_n (pc' := 33) d218_32 rfl rfl rfl ?_
        refine r_call (pc' := 36) [vR (some 50), vI _] [] d218_33 rfl o218 st12_178_12 (rcv1 sh50 (pl hN rfl)) rfl (by decide) ⟨rfl, rfl⟩ (Nat.le_of_ble_eq_true rfl) rfl (s_isGone hN hM (by omega) ?_)
        refine r_if_neB 48 (pc' := 39) d218_36 rfl rfl (fun c36 => ?_) (fun c36 => ?_)
        · refine r_ldc (pc' := 50) d218_48 rfl o218 kc12_187 ?_
          exact r_iretI d218_50 rfl (kS j hj rfl c15 T hT1 hT2 rfl (by first | exact Or.inl c36 | exact Or.inr c45))
        · refine r_aload_n (pc' := 40) d218_39 rfl rfl rfl ?_
          refine r_iload_n (pc' := 41) d218_40 rfl rfl rfl ?_
          refine r_iload_n (pc' := 42) d218_41 rfl rfl rfl ?_
          refine r_call (pc' := 45) [vR (some 50), vI _, vI _] [] d218_42 rfl o218 st12_197_12 (rcv1 sh50 (pl hN rfl)) rfl (by decide) ⟨rfl, rfl⟩ (Nat.le_of_ble_eq_true rfl) rfl (s_isTaken hN hM hc (by omega) ?_)
          refine r_if_eqB 51 (pc' := 48) d218_45 rfl rfl (fun c45 => ?_) (fun c45 => ?_)
          · refine r_ldc (pc' := 53) d218_51 rfl o218 kc12_53 ?_
            refine r_istore (pc' := 55) (ls' := [(4, vI _), (0, vR (some 50)), (1, vI _), (2, vI _), (3, vI _)]) d218_53 rfl (by decide) rfl ?_
            refine r_iload_n (pc' := 56) d218_55 rfl rfl rfl ?_
            refine r_istore (pc' := 58) (ls' := [(5, vI _), (4, vI _), (0, vR (some 50)), (1, vI _), (2, vI _), (3, vI _)]) d218_56 rfl (by decide) rfl ?_
            refine wp_pick (ls' := [(0, vR (some 50)), (1, vI _), (2, vI _), (3, vI _), (4, vI _), (5, vI _)]) [2, 3, 4, 5, 1, 0] rfl ?_
            have loop : ∀ (r : Nat) (x y : Nat → Int32), r ≤ T + 1 → stF (hi h 51) m L j cell T (T + 1) = stF (hi h 51) m L j cell T r → wp (d + 5) 218 Q 0 0 58 [(0, vR (some 50)), (1, vI (nI j)), (2, vI cell), (3, vI (nI T)), (4, vI (-1000000)), (5, vI (nI r - 1))] [] (jk h x y) := by
              intro r
              induction r with
              | zero =>
                intro x y hr hv
                refine r_iload (pc' := 60) d218_58 rfl rfl ?_
                refine r_if_lt 136 (pc' := 63) d218_60 rfl rfl (fun c60 => ?_) (fun c60 => absurd (by decide) c60)
                refine r_iload (pc' := 138) d218_136 rfl rfl ?_
                exact r_iretI d218_138 rfl (by first | exact qv hv (kW j hj rfl c15 T hT1 hT2 rfl c36 c45 _ _) | exact qv hv2 (kW j hj rfl c15 T hT1 hT2 rfl c36 c45 _ _))
              | succ r ih =>
                intro x y hr hv
                rw [nI_pred]
                refine r_iload (pc' := 60) d218_58 rfl rfl ?_
                refine r_if_lt 136 (pc' := 63) d218_60 rfl rfl (fun c60 => absurd c60 (nI_pos (by omega))) (fun c60 => ?_)
                refine r_iload (pc' := 65) d218_63 rfl rfl ?_
                refine r_ldc (pc' := 67) d218_65 rfl o218 kc12_53 ?_
                refine r_icmp_ne 136 (pc' := 70) d218_67 rfl rfl (fun c67 => absurd rfl c67) (fun c67 => ?_)
                refine r_aload_n (pc' := 71) d218_70 rfl rfl rfl ?_
                refine r_call (pc' := 74) [vR (some 50)] [] d218_71 rfl o218 st12_217_12 (rcv1 sh50 (pl hN rfl)) rfl (by decide) ⟨rfl, rfl⟩ (Nat.le_of_ble_eq_true rfl) rfl (s_holdsJ hN hM (fun y2 hy2 => ?_))
                refine r_aload_n (pc' := 75) d218_74 rfl rfl rfl ?_
                refine r_getS (pc' := 78) d218_75 rfl o218 sf12_7_12 sh50 (pl hN rfl) (rfm0 hM) ?_
                refine r_bipush (v := 45) (pc' := 80) d218_78 rfl (by decide) ?_
                refine r_iload_n (pc' := 81) d218_80 rfl rfl rfl ?_
                refine r_iadd (pc' := 82) d218_81 rfl ?_
                refine r_bipush (v := 12) (pc' := 84) d218_82 rfl (by decide) ?_
                refine r_iastN (pc' := 85) (j := (45 + j)) d218_84 rfl sh51 (pl hN rfl) (by simp only [lit, nI_add, pk_mul]) (by omega) (by decide) ?_
                refine wp_heap (fw_s h y2 x _ _ _) ?_
                refine r_aload_n (pc' := 86) d218_85 rfl rfl rfl ?_
                refine r_iload (pc' := 88) d218_86 rfl rfl ?_
                refine r_call (pc' := 91) [vR (some 50), vI _] [] d218_88 rfl o218 st12_220_12 (rcv1 sh50 (pl hN rfl)) rfl (by decide) ⟨rfl, rfl⟩ (Nat.le_of_ble_eq_true rfl) rfl (s_goF hN hM (cnt_upd hc (45 + j) 12 (by omega)) (sk_upd (hsk j hj) (45 + j) 12 (by omega)) (by omega) (fun x2 => ?_))
                refine r_aload_n (pc' := 92) d218_91 rfl rfl rfl ?_
                refine r_getS (pc' := 95) d218_92 rfl o218 sf12_7_12 sh50 (pl hN rfl) (rfm0 hM) ?_
                refine r_bipush (v := 45) (pc' := 97) d218_95 rfl (by decide) ?_
                refine r_iload_n (pc' := 98) d218_97 rfl rfl rfl ?_
                refine r_iadd (pc' := 99) d218_98 rfl ?_
                refine r_iload_n (pc' := 100) d218_99 rfl rfl rfl ?_
                refine r_iastN (pc' := 101) (j := (45 + j)) d218_100 rfl sh51 (pl hN rfl) (by simp only [lit, nI_add, pk_mul]) (by omega) (by decide) ?_
                refine wp_heap (fw_s h y2 x2 _ _ _) ?_
                refine r_aload_n (pc' := 102) d218_101 rfl rfl rfl ?_
                refine r_iload_n (pc' := 103) d218_102 rfl rfl rfl ?_
                refine r_iload (pc' := 105) d218_103 rfl rfl ?_
                refine r_isub (pc' := 106) d218_105 rfl ?_
                rw [pk_sub (show r ≤ T by omega)]
                refine r_call (pc' := 109) [vR (some 50), vI _] [] d218_106 rfl o218 st12_220_12 (rcv1 sh50 (pl hN rfl)) rfl (by decide) ⟨rfl, rfl⟩ (Nat.le_of_ble_eq_true rfl) rfl (s_goF hN hM (cnt_upd ((cnt_upd hc (45 + j) 12 (by omega)).gm r) (45 + j) cell (by omega)) (sk_upd (sk_gm (sk_upd (hsk j hj) (45 + j) 12 (by omega)) hc4 r) (45 + j) cell (by omega)) (by omega) (fun x2 => ?_))
                refine r_aload_n (pc' := 110) d218_109 rfl rfl rfl ?_
                refine r_iload_n (pc' := 111) d218_110 rfl rfl rfl ?_
                refine r_call (pc' := 114) [vR (some 50), vI _] [] d218_111 rfl o218 st12_210_12 (rcv1 sh50 (pl hN rfl)) rfl (by decide) ⟨rfl, rfl⟩ (Nat.le_of_ble_eq_true rfl) rfl (s_isWell hN hM (by omega) ?_)
                refine r_if_eqB 122 (pc' := 117) d218_114 rfl rfl (fun c114 => ?_) (fun c114 => ?_)
                · refine r_ldc (pc' := 124) d218_122 rfl o218 kc12_53 ?_
                  refine r_istore (pc' := 126) (ls' := [(4, vI _), (0, vR (some 50)), (1, vI _), (2, vI _), (3, vI _), (5, vI _)]) d218_124 rfl (by decide) rfl ?_
                  refine r_aload_n (pc' := 127) d218_126 rfl rfl rfl ?_
                  refine r_call (pc' := 130) [vR (some 50)] [] d218_127 rfl o218 st12_226_12 (rcv1 sh50 (pl hN rfl)) rfl (by decide) ⟨rfl, rfl⟩ (Nat.le_of_ble_eq_true rfl) rfl (s_backJ hN hM hy2 ((((((Outs.rf (hi h 51)).upd (45 + j) 12 (by omega) (by omega)).gm hc2 hc4 r).upd (45 + j) cell (by omega) (by omega))).gm hc2 hc4 (T - r)) ?_)
                  refine r_iinc (v := _ + (-1)) (pc' := 133) (ls' := [(5, vI _), (4, vI _), (0, vR (some 50)), (1, vI _), (2, vI _), (3, vI _)]) d218_130 rfl rfl rfl (by decide) rfl ?_
                  refine r_goto 58 d218_133 rfl ?_
                  refine wp_pick (ls' := [(0, vR (some 50)), (1, vI _), (2, vI _), (3, vI _), (4, vI _), (5, vI _)]) [2, 3, 4, 5, 1, 0] rfl ?_
                  rw [add_m1]
                  exact ih x2 y2 (by omega) (by rw [hv, stF]; exact if_neg c114)
                · refine r_iload (pc' := 119) d218_117 rfl rfl ?_
                  refine r_goto 124 d218_119 rfl ?_
                  refine r_istore (pc' := 126) (ls' := [(4, vI _), (0, vR (some 50)), (1, vI _), (2, vI _), (3, vI _), (5, vI _)]) d218_124 rfl (by decide) rfl ?_
                  refine r_aload_n (pc' := 127) d218_126 rfl rfl rfl ?_
                  refine r_call (pc' := 130) [vR (some 50)] [] d218_127 rfl o218 st12_226_12 (rcv1 sh50 (pl hN rfl)) rfl (by decide) ⟨rfl, rfl⟩ (Nat.le_of_ble_eq_true rfl) rfl (s_backJ hN hM hy2 ((((((Outs.rf (hi h 51)).upd (45 + j) 12 (by omega) (by omega)).gm hc2 hc4 r).upd (45 + j) cell (by omega) (by omega))).gm hc2 hc4 (T - r)) ?_)
                  refine r_iinc (v := _ + (-1)) (pc' := 133) (ls' := [(5, vI _), (4, vI _), (0, vR (some 50)), (1, vI _), (2, vI _), (3, vI _)]) d218_130 rfl rfl rfl (by decide) rfl ?_
                  refine r_goto 58 d218_133 rfl ?_
                  refine wp_pick (ls' := [(0, vR (some 50)), (1, vI _), (2, vI _), (3, vI _), (4, vI _), (5, vI _)]) [2, 3, 4, 5, 1, 0] rfl ?_
                  rw [add_m1]
                  have hv2 : stF (hi h 51) m L j cell T (T + 1) = nI r := by rw [hv, stF]; exact if_pos c114
                  refine r_iload (pc' := 60) d218_58 rfl rfl ?_
                  refine r_if_lt 136 (pc' := 63) d218_60 rfl rfl (fun c60 => ?_) (fun c60 => ?_)
                  · refine r_iload (pc' := 138) d218_136 rfl rfl ?_
                    exact r_iretI d218_138 rfl (by first | exact qv hv (kW j hj rfl c15 T hT1 hT2 rfl c36 c45 _ _) | exact qv hv2 (kW j hj rfl c15 T hT1 hT2 rfl c36 c45 _ _))
                  · refine r_iload (pc' := 65) d218_63 rfl rfl ?_
                    refine r_ldc (pc' := 67) d218_65 rfl o218 kc12_53 ?_
                    refine r_icmp_ne 136 (pc' := 70) d218_67 rfl rfl (fun c67 => ?_) (fun c67 => absurd c67 (nI_none (show r < 2 ^ 31 by omega)))
                    refine r_iload (pc' := 138) d218_136 rfl rfl ?_
                    exact r_iretI d218_138 rfl (by first | exact qv hv (kW j hj rfl c15 T hT1 hT2 rfl c36 c45 _ _) | exact qv hv2 (kW j hj rfl c15 T hT1 hT2 rfl c36 c45 _ _))
            refine wp_heap (jk_0 h).symm ?_
            have w := loop (T + 1) (hi h 60) (hi h 61) (Nat.le_refl _) rfl
            rw [nI_pred] at w
            exact w
          · refine r_ldc (pc' := 50) d218_48 rfl o218 kc12_187 ?_
            exact r_iretI d218_50 rfl (kS j hj rfl c15 T hT1 hT2 rfl (by first | exact Or.inl c36 | exact Or.inr c45))
      · refine r_ldc (pc' := 30) d218_28 rfl o218 kc12_67 ?_
        exact r_iretI d218_30 rfl (kB (by first | exact Or.inl c5 | exact Or.inr (Or.inl c15) | exact Or.inr (Or.inr c25)))
theorem s_addsF {d : Nat} {h : Hp} {Q : Option AV → Hp → Prop} {m L e : Nat} {cell fire : Int32} {y x s : Nat → Int32} (hN : hn h = 65) (hM : RM h) (hc : Cnt s m L e) (hL8 : L < 8) (kk : Q none (fw h y x (addI s L cell fire))) : Spec d 194 [vR (some 50), vI cell, vI fire] (fw h y x s) Q :=
  s_adds (h := fw h y x s) hN hM hc hL8 (qh (fw_w h y x s _).symm kk)
theorem cnt_add {s : Nat → Int32} {m L e : Nat} (h : Cnt s m L e) (hL : L < 8) (c f : Int32) : Cnt (addI s L c f) m (L + 1) e := by
  obtain ⟨h1, h2, h3, h4, h5, h6⟩ := h
  refine ⟨?_, h2, addI_20 _ _ _ _, by omega, ?_, h6⟩
  · unfold addI; rw [upd_ne _ _ _ (by decide), upd_ne _ _ _ (by omega), upd_ne _ _ _ (by omega), upd_ne _ _ _ (by omega)]; exact h1
  · unfold addI; rw [upd_ne _ _ _ (by decide), upd_ne _ _ _ (by omega), upd_ne _ _ _ (by omega), upd_ne _ _ _ (by omega)]; exact h5
theorem add_3 (s : Nat → Int32) (L : Nat) (c f : Int32) : addI s L c f 3 = s 3 := by
  unfold addI; rw [upd_ne _ _ _ (by decide), upd_ne _ _ _ (by omega), upd_ne _ _ _ (by omega), upd_ne _ _ _ (by omega)]
theorem out_add {s' s : Nat → Int32} (h : Outs s' s) (L : Nat) (hL : L < 8) (c f : Int32) : Outs (addI s' L c f) s := by
  unfold addI
  exact (((h.upd _ _ (by omega) (by omega)).upd _ _ (by omega) (by omega)).upd _ _ (by omega) (by omega)).upd _ _ (by omega) (by omega)
def ffS (s : Nat → Int32) (m L t n f : Nat) : Nat → Int32 := if f = 0 then gmN s m L n else gmN (addI s L (s (45 + t)) (nI f)) m (L + 1) n
def ffF (s : Nat → Int32) (m L t n : Nat) : Nat → Nat → Int32
  | 0, _ => -1000000
  | r + 1, f => if wellI (ffS s m L t n f) t then nI f else ffF s m L t n r (f + 1)
theorem M_fuelFor {d : Nat} {h : Hp} {Q : Option AV → Hp → Prop} {m L e : Nat} {t u : Int32} (hN : hn h = 65) (hM : RM h) (hc : Cnt (hi h 51) m L e) (hsk : ∀ j : Nat, j < m → ¬ hi h 51 3 = 0) (kB : (¬ inR t m ∨ ¬ (1 ≤ u ∧ u ≤ 60)) → Q (some (vI (-1000001))) h)
    (kS : ∀ j : Nat, j < m → t = nI j → ∀ n : Nat, 1 ≤ n → n ≤ 60 → u = nI n → ¬ onI (hi h 51) j → Q (some (vI (-1000002))) h)
    (kF : ∀ j : Nat, j < m → t = nI j → ∀ n : Nat, 1 ≤ n → n ≤ 60 → u = nI n → onI (hi h 51) j → L = 8 → Q (some (vI (-1000003))) h)
    (kW : ∀ j : Nat, j < m → t = nI j → ∀ n : Nat, 1 ≤ n → n ≤ 60 → u = nI n → onI (hi h 51) j → L < 8 → ∀ x y, Q (some (vI (ffF (hi h 51) m L j n 31 0))) (jk h x y)) : Spec (d + 5) 219 [vR (some 50), vI t, vI u] h Q := by
  obtain ⟨hc1, hc2, hc3, hc4, hc5, hc6⟩ := id hc
  refine spec_intro (by decide +kernel) rfl (Nat.le_of_ble_eq_true rfl) ?_
  refine r_aload_n (pc' := 1) d219_0 rfl rfl rfl ?_
  refine r_iload_n (pc' := 2) d219_1 rfl rfl rfl ?_
  refine r_call (pc' := 5) [vR (some 50), vI _] [] d219_2 rfl o219 st12_194_12 (rcv1 sh50 (pl hN rfl)) rfl (by decide) ⟨rfl, rfl⟩ (Nat.le_of_ble_eq_true rfl) rfl (s_isThingC hN hM hc ?_)
  refine r_if_eqB 18 (pc' := 8) d219_5 rfl rfl (fun c5 => ?_) (fun c5 => ?_)
  · refine r_ldc (pc' := 20) d219_18 rfl o219 kc12_67 ?_
    exact r_iretI d219_20 rfl (kB (by first | exact Or.inl c5 | exact Or.inr c15))
  · refine r_iload_n (pc' := 9) d219_8 rfl rfl rfl ?_
    refine r_iconst (v := 1) (pc' := 10) d219_9 rfl (by decide) ?_
    refine r_bipush (v := 60) (pc' := 12) d219_10 rfl (by decide) ?_
    refine r_call (pc' := 15) [vI _, vI _, vI _] [] d219_12 rfl o219 st12_59 rcv0 rfl (by decide) ⟨rfl, rfl⟩ (Nat.le_of_ble_eq_true rfl) rfl (s_in ?_)
    refine r_if_neB 21 (pc' := 18) d219_15 rfl rfl (fun c15 => ?_) (fun c15 => ?_)
    · obtain ⟨j, hj, rfl⟩ := inR_of c5 (by omega)
      obtain ⟨n, ⟨hn1, hn2⟩, rfl⟩ := nI_of3 (a := 1) (b := 60) c15 (by decide)
      refine r_aload_n (pc' := 22) d219_21 rfl rfl rfl ?_
      refine r_iload_n (pc' := 23) d219_22 rfl rfl rfl ?_
      refine r_call (pc' := 26) [vR (some 50), vI _] [] d219_23 rfl o219 st12_163_12 (rcv1 sh50 (pl hN rfl)) rfl (by decide) ⟨rfl, rfl⟩ (Nat.le_of_ble_eq_true rfl) rfl (s_isOn hN hM (by omega) ?_)
      refine r_if_neB 32 (pc' := 29) d219_26 rfl rfl (fun c26 => ?_) (fun c26 => ?_)
      · refine r_aload_n (pc' := 33) d219_32 rfl rfl rfl ?_
        refine r_getS (pc' := 36) d219_33 rfl o219 sf12_7_12 sh50 (pl hN rfl) (rfm0 hM) ?_
        refine r_bipush (v := 20) (pc' := 38) d219_36 rfl (by decide) ?_
        refine r_ialdN (pc' := 39) (j := 20) d219_38 rfl sh51 (pl hN rfl) rfl (by omega) (by decide) ?_
        refine r_bipush (v := 8) (pc' := 41) d219_39 rfl (by decide) ?_
        refine r_icmp_ne 47 (pc' := 44) d219_41 rfl rfl (fun c41 => ?_) (fun c41 => ?_)
        · have hL8 : L < 8 := by
            rcases Nat.lt_or_ge L 8 with q | q
            · exact q
            · exact absurd (show hi h 51 20 = 8 by rw [hc3, show L = 8 by omega]; rfl) c41
          refine r_ldc (pc' := 49) d219_47 rfl o219 kc12_53 ?_
          refine r_istore_n (pc' := 50) (ls' := [(3, vI _), (0, vR (some 50)), (1, vI _), (2, vI _)]) d219_49 rfl rfl (by decide) rfl ?_
          refine r_iconst (v := 0) (pc' := 51) d219_50 rfl (by decide) ?_
          refine r_istore (pc' := 53) (ls' := [(4, vI _), (3, vI _), (0, vR (some 50)), (1, vI _), (2, vI _)]) d219_51 rfl (by decide) rfl ?_
          refine wp_pick (ls' := [(0, vR (some 50)), (1, vI _), (2, vI _), (3, vI _), (4, vI _)]) [2, 3, 4, 1, 0] rfl ?_
          have loop : ∀ (r k : Nat) (x y : Nat → Int32), k + r = 31 → ffF (hi h 51) m L j n 31 0 = ffF (hi h 51) m L j n r k → wp (d + 5) 219 Q 0 0 53 [(0, vR (some 50)), (1, vI (nI j)), (2, vI (nI n)), (3, vI (-1000000)), (4, vI (nI k))] [] (jk h x y) := by
            intro r
            induction r with
            | zero =>
              intro k x y hk hv
              obtain rfl : k = 31 := by omega
              refine r_iload (pc' := 55) d219_53 rfl rfl ?_
              refine r_bipush (v := 30) (pc' := 57) d219_55 rfl (by decide) ?_
              refine r_icmp_gt 121 (pc' := 60) d219_57 rfl rfl (fun c57 => ?_) (fun c57 => absurd (by decide) c57)
              refine r_iload_n (pc' := 122) d219_121 rfl rfl rfl ?_
              exact r_iretI d219_122 rfl (by first | exact qv hv (kW j hj rfl n hn1 hn2 rfl c26 hL8 _ _) | exact qv hv2 (kW j hj rfl n hn1 hn2 rfl c26 hL8 _ _))
            | succ r ih =>
              intro k x y hk hv
              refine r_iload (pc' := 55) d219_53 rfl rfl ?_
              refine r_bipush (v := 30) (pc' := 57) d219_55 rfl (by decide) ?_
              refine r_icmp_gt 121 (pc' := 60) d219_57 rfl rfl (fun c57 => absurd c57 (nI_nlt (a := 30) (b := k) (by omega) (by decide))) (fun c57 => ?_)
              refine r_iload_n (pc' := 61) d219_60 rfl rfl rfl ?_
              refine r_ldc (pc' := 63) d219_61 rfl o219 kc12_53 ?_
              refine r_icmp_ne 121 (pc' := 66) d219_63 rfl rfl (fun c63 => absurd rfl c63) (fun c63 => ?_)
              refine r_aload_n (pc' := 67) d219_66 rfl rfl rfl ?_
              refine r_call (pc' := 70) [vR (some 50)] [] d219_67 rfl o219 st12_217_12 (rcv1 sh50 (pl hN rfl)) rfl (by decide) ⟨rfl, rfl⟩ (Nat.le_of_ble_eq_true rfl) rfl (s_holdsJ hN hM (fun y2 hy2 => ?_))
              refine r_iload (pc' := 72) d219_70 rfl rfl ?_
              refine r_if_le 90 (pc' := 75) d219_72 rfl rfl (fun c72 => ?_) (fun c72 => ?_)
              · refine r_aload_n (pc' := 91) d219_90 rfl rfl rfl ?_
                refine r_iload_n (pc' := 92) d219_91 rfl rfl rfl ?_
                refine r_call (pc' := 95) [vR (some 50), vI _] [] d219_92 rfl o219 st12_220_12 (rcv1 sh50 (pl hN rfl)) rfl (by decide) ⟨rfl, rfl⟩ (Nat.le_of_ble_eq_true rfl) rfl (s_goF hN hM hc (hsk j hj) (by omega) (fun x2 => ?_))
                refine r_aload_n (pc' := 96) d219_95 rfl rfl rfl ?_
                refine r_iload_n (pc' := 97) d219_96 rfl rfl rfl ?_
                refine r_call (pc' := 100) [vR (some 50), vI _] [] d219_97 rfl o219 st12_210_12 (rcv1 sh50 (pl hN rfl)) rfl (by decide) ⟨rfl, rfl⟩ (Nat.le_of_ble_eq_true rfl) rfl (s_isWell hN hM (by omega) ?_)
                refine r_if_eqB 108 (pc' := 103) d219_100 rfl rfl (fun c100 => ?_) (fun c100 => ?_)
                · refine r_ldc (pc' := 110) d219_108 rfl o219 kc12_53 ?_
                  refine r_istore_n (pc' := 111) (ls' := [(3, vI _), (0, vR (some 50)), (1, vI _), (2, vI _), (4, vI _)]) d219_110 rfl rfl (by decide) rfl ?_
                  refine r_aload_n (pc' := 112) d219_111 rfl rfl rfl ?_
                  refine r_call (pc' := 115) [vR (some 50)] [] d219_112 rfl o219 st12_226_12 (rcv1 sh50 (pl hN rfl)) rfl (by decide) ⟨rfl, rfl⟩ (Nat.le_of_ble_eq_true rfl) rfl (s_backJ hN hM hy2 ((Outs.rf (hi h 51)).gm hc2 hc4 n) ?_)
                  refine r_iinc (v := _ + 1) (pc' := 118) (ls' := [(4, vI _), (3, vI _), (0, vR (some 50)), (1, vI _), (2, vI _)]) d219_115 rfl rfl rfl (by decide) rfl ?_
                  refine r_goto 53 d219_118 rfl ?_
                  refine wp_pick (ls' := [(0, vR (some 50)), (1, vI _), (2, vI _), (3, vI _), (4, vI _)]) [2, 3, 4, 1, 0] rfl ?_
                  rw [nI_1]
                  have e0 : ffS (hi h 51) m L j n k = _ := if_pos (show k = 0 by rcases Nat.eq_zero_or_pos k with z | z; exact z; exact absurd c72 (nI_nle z (by omega)))
                  exact ih (k + 1) x2 y2 (by omega) (by rw [hv, ffF, e0]; exact if_neg c100)
                · refine r_iload (pc' := 105) d219_103 rfl rfl ?_
                  refine r_goto 110 d219_105 rfl ?_
                  refine r_istore_n (pc' := 111) (ls' := [(3, vI _), (0, vR (some 50)), (1, vI _), (2, vI _), (4, vI _)]) d219_110 rfl rfl (by decide) rfl ?_
                  refine r_aload_n (pc' := 112) d219_111 rfl rfl rfl ?_
                  refine r_call (pc' := 115) [vR (some 50)] [] d219_112 rfl o219 st12_226_12 (rcv1 sh50 (pl hN rfl)) rfl (by decide) ⟨rfl, rfl⟩ (Nat.le_of_ble_eq_true rfl) rfl (s_backJ hN hM hy2 ((Outs.rf (hi h 51)).gm hc2 hc4 n) ?_)
                  refine r_iinc (v := _ + 1) (pc' := 118) (ls' := [(4, vI _), (3, vI _), (0, vR (some 50)), (1, vI _), (2, vI _)]) d219_115 rfl rfl rfl (by decide) rfl ?_
                  refine r_goto 53 d219_118 rfl ?_
                  refine wp_pick (ls' := [(0, vR (some 50)), (1, vI _), (2, vI _), (3, vI _), (4, vI _)]) [2, 3, 4, 1, 0] rfl ?_
                  rw [nI_1]
                  have e0 : ffS (hi h 51) m L j n k = _ := if_pos (show k = 0 by rcases Nat.eq_zero_or_pos k with z | z; exact z; exact absurd c72 (nI_nle z (by omega)))
                  have hv2 : ffF (hi h 51) m L j n 31 0 = nI k := by rw [hv, ffF, e0]; exact if_pos c100
                  refine r_iload (pc' := 55) d219_53 rfl rfl ?_
                  refine r_bipush (v := 30) (pc' := 57) d219_55 rfl (by decide) ?_
                  refine r_icmp_gt 121 (pc' := 60) d219_57 rfl rfl (fun c57 => ?_) (fun c57 => ?_)
                  · refine r_iload_n (pc' := 122) d219_121 rfl rfl rfl ?_
                    exact r_iretI d219_122 rfl (by first | exact qv hv (kW j hj rfl n hn1 hn2 rfl c26 hL8 _ _) | exact qv hv2 (kW j hj rfl n hn1 hn2 rfl c26 hL8 _ _))
                  · refine r_iload_n (pc' := 61) d219_60 rfl rfl rfl ?_
                    refine r_ldc (pc' := 63) d219_61 rfl o219 kc12_53 ?_
                    refine r_icmp_ne 121 (pc' := 66) d219_63 rfl rfl (fun c63 => ?_) (fun c63 => absurd c63 (nI_none (show k < 2 ^ 31 by omega)))
                    refine r_iload_n (pc' := 122) d219_121 rfl rfl rfl ?_
                    exact r_iretI d219_122 rfl (by first | exact qv hv (kW j hj rfl n hn1 hn2 rfl c26 hL8 _ _) | exact qv hv2 (kW j hj rfl n hn1 hn2 rfl c26 hL8 _ _))
              · refine r_aload_n (pc' := 76) d219_75 rfl rfl rfl ?_
                refine r_aload_n (pc' := 77) d219_76 rfl rfl rfl ?_
                refine r_getS (pc' := 80) d219_77 rfl o219 sf12_7_12 sh50 (pl hN rfl) (rfm0 hM) ?_
                refine r_bipush (v := 45) (pc' := 82) d219_80 rfl (by decide) ?_
                refine r_iload_n (pc' := 83) d219_82 rfl rfl rfl ?_
                refine r_iadd (pc' := 84) d219_83 rfl ?_
                refine r_ialdN (pc' := 85) (j := (45 + j)) d219_84 rfl sh51 (pl hN rfl) (by simp only [lit, nI_add, pk_mul]) (by omega) (by decide) ?_
                refine r_iload (pc' := 87) d219_85 rfl rfl ?_
                refine r_call (pc' := 90) [vR (some 50), vI _, vI _] [] d219_87 rfl o219 st12_200_12 (rcv1 sh50 (pl hN rfl)) rfl (by decide) ⟨rfl, rfl⟩ (Nat.le_of_ble_eq_true rfl) rfl (s_addsF hN hM hc hL8 ?_)
                refine r_aload_n (pc' := 91) d219_90 rfl rfl rfl ?_
                refine r_iload_n (pc' := 92) d219_91 rfl rfl rfl ?_
                refine r_call (pc' := 95) [vR (some 50), vI _] [] d219_92 rfl o219 st12_220_12 (rcv1 sh50 (pl hN rfl)) rfl (by decide) ⟨rfl, rfl⟩ (Nat.le_of_ble_eq_true rfl) rfl (s_goF hN hM (cnt_add hc hL8 _ _) (by rw [add_3]; exact hsk j hj) (by omega) (fun x2 => ?_))
                refine r_aload_n (pc' := 96) d219_95 rfl rfl rfl ?_
                refine r_iload_n (pc' := 97) d219_96 rfl rfl rfl ?_
                refine r_call (pc' := 100) [vR (some 50), vI _] [] d219_97 rfl o219 st12_210_12 (rcv1 sh50 (pl hN rfl)) rfl (by decide) ⟨rfl, rfl⟩ (Nat.le_of_ble_eq_true rfl) rfl (s_isWell hN hM (by omega) ?_)
                refine r_if_eqB 108 (pc' := 103) d219_100 rfl rfl (fun c100 => ?_) (fun c100 => ?_)
                · refine r_ldc (pc' := 110) d219_108 rfl o219 kc12_53 ?_
                  refine r_istore_n (pc' := 111) (ls' := [(3, vI _), (0, vR (some 50)), (1, vI _), (2, vI _), (4, vI _)]) d219_110 rfl rfl (by decide) rfl ?_
                  refine r_aload_n (pc' := 112) d219_111 rfl rfl rfl ?_
                  refine r_call (pc' := 115) [vR (some 50)] [] d219_112 rfl o219 st12_226_12 (rcv1 sh50 (pl hN rfl)) rfl (by decide) ⟨rfl, rfl⟩ (Nat.le_of_ble_eq_true rfl) rfl (s_backJ hN hM hy2 ((out_add (Outs.rf (hi h 51)) L hL8 _ _).gm hc2 (by omega) n) ?_)
                  refine r_iinc (v := _ + 1) (pc' := 118) (ls' := [(4, vI _), (3, vI _), (0, vR (some 50)), (1, vI _), (2, vI _)]) d219_115 rfl rfl rfl (by decide) rfl ?_
                  refine r_goto 53 d219_118 rfl ?_
                  refine wp_pick (ls' := [(0, vR (some 50)), (1, vI _), (2, vI _), (3, vI _), (4, vI _)]) [2, 3, 4, 1, 0] rfl ?_
                  rw [nI_1]
                  have e0 : ffS (hi h 51) m L j n k = _ := if_neg (show ¬ k = 0 from fun z => c72 (by rw [z]; decide))
                  exact ih (k + 1) x2 y2 (by omega) (by rw [hv, ffF, e0]; exact if_neg c100)
                · refine r_iload (pc' := 105) d219_103 rfl rfl ?_
                  refine r_goto 110 d219_105 rfl ?_
                  refine r_istore_n (pc' := 111) (ls' := [(3, vI _), (0, vR (some 50)), (1, vI _), (2, vI _), (4, vI _)]) d219_110 rfl rfl (by decide) rfl ?_
                  refine r_aload_n (pc' := 112) d219_111 rfl rfl rfl ?_
                  refine r_call (pc' := 115) [vR (some 50)] [] d219_112 rfl o219 st12_226_12 (rcv1 sh50 (pl hN rfl)) rfl (by decide) ⟨rfl, rfl⟩ (Nat.le_of_ble_eq_true rfl) rfl (s_backJ hN hM hy2 ((out_add (Outs.rf (hi h 51)) L hL8 _ _).gm hc2 (by omega) n) ?_)
                  refine r_iinc (v := _ + 1) (pc' := 118) (ls' := [(4, vI _), (3, vI _), (0, vR (some 50)), (1, vI _), (2, vI _)]) d219_115 rfl rfl rfl (by decide) rfl ?_
                  refine r_goto 53 d219_118 rfl ?_
                  refine wp_pick (ls' := [(0, vR (some 50)), (1, vI _), (2, vI _), (3, vI _), (4, vI _)]) [2, 3, 4, 1, 0] rfl ?_
                  rw [nI_1]
                  have e0 : ffS (hi h 51) m L j n k = _ := if_neg (show ¬ k = 0 from fun z => c72 (by rw [z]; decide))
                  have hv2 : ffF (hi h 51) m L j n 31 0 = nI k := by rw [hv, ffF, e0]; exact if_pos c100
                  refine r_iload (pc' := 55) d219_53 rfl rfl ?_
                  refine r_bipush (v := 30) (pc' := 57) d219_55 rfl (by decide) ?_
                  refine r_icmp_gt 121 (pc' := 60) d219_57 rfl rfl (fun c57 => ?_) (fun c57 => ?_)
                  · refine r_iload_n (pc' := 122) d219_121 rfl rfl rfl ?_
                    exact r_iretI d219_122 rfl (by first | exact qv hv (kW j hj rfl n hn1 hn2 rfl c26 hL8 _ _) | exact qv hv2 (kW j hj rfl n hn1 hn2 rfl c26 hL8 _ _))
                  · refine r_iload_n (pc' := 61) d219_60 rfl rfl rfl ?_
                    refine r_ldc (pc' := 63) d219_61 rfl o219 kc12_53 ?_
                    refine r_icmp_ne 121 (pc' := 66) d219_63 rfl rfl (fun c63 => ?_) (fun c63 => absurd c63 (nI_none (show k < 2 ^ 31 by omega)))
                    refine r_iload_n (pc' := 122) d219_121 rfl rfl rfl ?_
                    exact r_iretI d219_122 rfl (by first | exact qv hv (kW j hj rfl n hn1 hn2 rfl c26 hL8 _ _) | exact qv hv2 (kW j hj rfl n hn1 hn2 rfl c26 hL8 _ _))
          refine wp_heap (jk_0 h).symm ?_
          exact loop 31 0 (hi h 60) (hi h 61) rfl rfl
        · refine r_ldc (pc' := 46) d219_44 rfl o219 kc12_81 ?_
          exact r_iretI d219_46 rfl (kF j hj rfl n hn1 hn2 rfl c26 (by rw [hc3] at c41; exact (nI_eq (by omega) (by decide)).mp c41))
      · refine r_ldc (pc' := 31) d219_29 rfl o219 kc12_187 ?_
        exact r_iretI d219_31 rfl (kS j hj rfl n hn1 hn2 rfl c26)
    · refine r_ldc (pc' := 20) d219_18 rfl o219 kc12_67 ?_
      exact r_iretI d219_20 rfl (kB (by first | exact Or.inl c5 | exact Or.inr c15))
def fuF (s : Nat → Int32) (m L : Nat) : Nat → Nat → Int32
  | 0, _ => -1000000
  | r + 1, n => if fireS (gmN s m L n) L = 0 then nI n else fuF s m L r (n + 1)
theorem M_fuel {d : Nat} {h : Hp} {Q : Option AV → Hp → Prop} {m L e : Nat} (hN : hn h = 65) (hM : RM h) (hc : Cnt (hi h 51) m L e) (hsk : hi h 51 0 = 1 → ¬ hi h 51 3 = 0) (kS : ¬ hi h 51 0 = 1 → Q (some (vI (-1000002))) h)
    (kW : hi h 51 0 = 1 → ∀ x y, Q (some (vI (fuF (hi h 51) m L 201 0))) (jk h x y)) : Spec (d + 4) 229 [vR (some 50)] h Q := by
  obtain ⟨hc1, hc2, hc3, hc4, hc5, hc6⟩ := id hc
  refine spec_intro (by decide +kernel) rfl (Nat.le_of_ble_eq_true rfl) ?_
  refine r_aload_n (pc' := 1) d229_0 rfl rfl rfl ?_
  refine r_call (pc' := 4) [vR (some 50)] [] d229_1 rfl o229 st12_184_12 (rcv1 sh50 (pl hN rfl)) rfl (by decide) ⟨rfl, rfl⟩ (Nat.le_of_ble_eq_true rfl) rfl (s_isYard hN hM ?_)
  refine r_if_neB 10 (pc' := 7) d229_4 rfl rfl (fun c4 => ?_) (fun c4 => ?_)
  · refine r_aload_n (pc' := 11) d229_10 rfl rfl rfl ?_
    refine r_call (pc' := 14) [vR (some 50)] [] d229_11 rfl o229 st12_217_12 (rcv1 sh50 (pl hN rfl)) rfl (by decide) ⟨rfl, rfl⟩ (Nat.le_of_ble_eq_true rfl) rfl (s_holdsF hN hM ?_)
    refine r_ldc (pc' := 16) d229_14 rfl o229 kc12_53 ?_
    refine r_istore_n (pc' := 17) (ls' := [(1, vI _), (0, vR (some 50))]) d229_16 rfl rfl (by decide) rfl ?_
    refine r_iconst (v := 0) (pc' := 18) d229_17 rfl (by decide) ?_
    refine r_istore_n (pc' := 19) (ls' := [(2, vI _), (1, vI _), (0, vR (some 50))]) d229_18 rfl rfl (by decide) rfl ?_
    refine wp_pick (ls' := [(0, vR (some 50)), (1, vI _), (2, vI _)]) [2, 1, 0] rfl ?_
    have loop : ∀ (r k : Nat) (x : Nat → Int32), k + r = 201 → fuF (hi h 51) m L 201 0 = fuF (hi h 51) m L r k → wp (d + 4) 229 Q 0 0 19 [(0, vR (some 50)), (1, vI (-1000000)), (2, vI (nI k))] [] (fw h (hold66 (hi h 51) (hi h 61)) x (gmN (hi h 51) m L k)) := by
      intro r
      induction r with
      | zero =>
        intro k x hk hv
        obtain rfl : k = 201 := by omega
        refine r_iload_n (pc' := 20) d229_19 rfl rfl rfl ?_
        refine r_sipush (v := 200) (pc' := 23) d229_20 rfl (by decide) ?_
        refine r_icmp_gt 56 (pc' := 26) d229_23 rfl rfl (fun c23 => ?_) (fun c23 => absurd (by decide) c23)
        refine r_aload_n (pc' := 57) d229_56 rfl rfl rfl ?_
        refine r_call (pc' := 60) [vR (some 50)] [] d229_57 rfl o229 st12_226_12 (rcv1 sh50 (pl hN rfl)) rfl (by decide) ⟨rfl, rfl⟩ (Nat.le_of_ble_eq_true rfl) rfl (s_backF hN hM ((Outs.rf (hi h 51)).gm hc2 hc4 201) ?_)
        refine r_iload_n (pc' := 61) d229_60 rfl rfl rfl ?_
        exact r_iretI d229_61 rfl (by first | exact qv hv (kW c4 _ _) | exact qv hv2 (kW c4 _ _))
      | succ r ih =>
        intro k x hk hv
        refine r_iload_n (pc' := 20) d229_19 rfl rfl rfl ?_
        refine r_sipush (v := 200) (pc' := 23) d229_20 rfl (by decide) ?_
        refine r_icmp_gt 56 (pc' := 26) d229_23 rfl rfl (fun c23 => absurd c23 (nI_nlt (a := 200) (b := k) (by omega) (by decide))) (fun c23 => ?_)
        refine r_iload_n (pc' := 27) d229_26 rfl rfl rfl ?_
        refine r_ldc (pc' := 29) d229_27 rfl o229 kc12_53 ?_
        refine r_icmp_ne 56 (pc' := 32) d229_29 rfl rfl (fun c29 => absurd rfl c29) (fun c29 => ?_)
        refine r_aload_n (pc' := 33) d229_32 rfl rfl rfl ?_
        refine r_call (pc' := 36) [vR (some 50)] [] d229_33 rfl o229 st12_258_12 (rcv1 sh50 (pl hN rfl)) rfl (by decide) ⟨rfl, rfl⟩ (Nat.le_of_ble_eq_true rfl) rfl (s_fireNow hN hM (hc.gm k) ?_)
        refine r_if_ne 43 (pc' := 39) d229_36 rfl rfl (fun c36 => ?_) (fun c36 => ?_)
        · refine r_ldc (pc' := 45) d229_43 rfl o229 kc12_53 ?_
          refine r_istore_n (pc' := 46) (ls' := [(1, vI _), (0, vR (some 50)), (2, vI _)]) d229_45 rfl rfl (by decide) rfl ?_
          refine r_aload_n (pc' := 47) d229_46 rfl rfl rfl ?_
          refine r_call (pc' := 50) [vR (some 50)] [] d229_47 rfl o229 st12_191_12 (rcv1 sh50 (pl hN rfl)) rfl (by decide) ⟨rfl, rfl⟩ (Nat.le_of_ble_eq_true rfl) rfl (s_gmF hN hM (hc.gm k) (sk_gm (hsk c4) hc4 k) (fun x2 => ?_))
          refine r_iinc (v := _ + 1) (pc' := 53) (ls' := [(2, vI _), (1, vI _), (0, vR (some 50))]) d229_50 rfl rfl rfl (by decide) rfl ?_
          refine r_goto 19 d229_53 rfl ?_
          refine wp_pick (ls' := [(0, vR (some 50)), (1, vI _), (2, vI _)]) [2, 1, 0] rfl ?_
          rw [nI_1]
          exact ih (k + 1) x2 (by omega) (by rw [hv, fuF]; exact if_neg c36)
        · refine r_iload_n (pc' := 40) d229_39 rfl rfl rfl ?_
          refine r_goto 45 d229_40 rfl ?_
          refine r_istore_n (pc' := 46) (ls' := [(1, vI _), (0, vR (some 50)), (2, vI _)]) d229_45 rfl rfl (by decide) rfl ?_
          refine r_aload_n (pc' := 47) d229_46 rfl rfl rfl ?_
          refine r_call (pc' := 50) [vR (some 50)] [] d229_47 rfl o229 st12_191_12 (rcv1 sh50 (pl hN rfl)) rfl (by decide) ⟨rfl, rfl⟩ (Nat.le_of_ble_eq_true rfl) rfl (s_gmF hN hM (hc.gm k) (sk_gm (hsk c4) hc4 k) (fun x2 => ?_))
          refine r_iinc (v := _ + 1) (pc' := 53) (ls' := [(2, vI _), (1, vI _), (0, vR (some 50))]) d229_50 rfl rfl rfl (by decide) rfl ?_
          refine r_goto 19 d229_53 rfl ?_
          refine wp_pick (ls' := [(0, vR (some 50)), (1, vI _), (2, vI _)]) [2, 1, 0] rfl ?_
          rw [nI_1]
          have hv2 : fuF (hi h 51) m L 201 0 = nI k := by rw [hv, fuF]; exact if_pos c36
          refine r_iload_n (pc' := 20) d229_19 rfl rfl rfl ?_
          refine r_sipush (v := 200) (pc' := 23) d229_20 rfl (by decide) ?_
          refine r_icmp_gt 56 (pc' := 26) d229_23 rfl rfl (fun c23 => ?_) (fun c23 => ?_)
          · refine r_aload_n (pc' := 57) d229_56 rfl rfl rfl ?_
            refine r_call (pc' := 60) [vR (some 50)] [] d229_57 rfl o229 st12_226_12 (rcv1 sh50 (pl hN rfl)) rfl (by decide) ⟨rfl, rfl⟩ (Nat.le_of_ble_eq_true rfl) rfl (s_backF hN hM ((Outs.rf (hi h 51)).gm hc2 hc4 (k + 1)) ?_)
            refine r_iload_n (pc' := 61) d229_60 rfl rfl rfl ?_
            exact r_iretI d229_61 rfl (by first | exact qv hv (kW c4 _ _) | exact qv hv2 (kW c4 _ _))
          · refine r_iload_n (pc' := 27) d229_26 rfl rfl rfl ?_
            refine r_ldc (pc' := 29) d229_27 rfl o229 kc12_53 ?_
            refine r_icmp_ne 56 (pc' := 32) d229_29 rfl rfl (fun c29 => ?_) (fun c29 => absurd c29 (nI_none (show k < 2 ^ 31 by omega)))
            refine r_aload_n (pc' := 57) d229_56 rfl rfl rfl ?_
            refine r_call (pc' := 60) [vR (some 50)] [] d229_57 rfl o229 st12_226_12 (rcv1 sh50 (pl hN rfl)) rfl (by decide) ⟨rfl, rfl⟩ (Nat.le_of_ble_eq_true rfl) rfl (s_backF hN hM ((Outs.rf (hi h 51)).gm hc2 hc4 (k + 1)) ?_)
            refine r_iload_n (pc' := 61) d229_60 rfl rfl rfl ?_
            exact r_iretI d229_61 rfl (by first | exact qv hv (kW c4 _ _) | exact qv hv2 (kW c4 _ _))
    exact loop 201 0 (hi h 60) rfl rfl
  · refine r_ldc (pc' := 9) d229_7 rfl o229 kc12_187 ?_
    exact r_iretI d229_9 rfl (kS c4)
