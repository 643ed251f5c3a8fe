/-! the reference: further acts, images (printed by wip/whole/m42.py) -/
theorem mk4_w (h : Hp) (x w s s' : Nat → Int32) (a : Nat) : setw (mk4 h x w s a) 51 s' = mk4 h x w s' a := by
  refine hp_ext rfl (fun p q => ?_) (fun p q => rfl)
  simp only [hi_seti, hi_setw]
  by_cases h2 : p = 51
  · subst h2; rfl
  · simp only [if_neg h2]
theorem addI_20 (s : Nat → Int32) (L : Nat) (c f : Int32) : addI s L c f 20 = nI (L + 1) := upd_at _ _ _
theorem M_coal {d : Nat} {h : Hp} {Q : Option AV → Hp → Prop} {m L e a : Nat} {cell fire : Int32} (hN : hn h = 65) (hM : RM h) (hc : Cnt (hi h 51) m L e) (ha : hi h 50 4 = nI a) (ha24 : a ≤ 24) (kS : ¬ hi h 51 0 = 1 → Q (some (vI (-1000002))) h) (kB : hi h 51 0 = 1 → (¬ (0 ≤ cell ∧ cell ≤ 11) ∨ ¬ (1 ≤ fire ∧ fire ≤ 30)) → Q (some (vI (-1000001))) h)
    (kF : hi h 51 0 = 1 → (0 ≤ cell ∧ cell ≤ 11) → (1 ≤ fire ∧ fire ≤ 30) → L = 8 → Q (some (vI (-1000003))) h)
    (kW : hi h 51 0 = 1 → (0 ≤ cell ∧ cell ≤ 11) → (1 ≤ fire ∧ fire ≤ 30) → L < 8 → Q (some (vI (nI (L + 1)))) (mk4 h (hi h 60) (rmW (hi h 54) a (hi h 51)) (addI (hi h 51) L cell fire) (rmA a))) : Spec (d + 1) 195 [vR (some 50), vI cell, vI fire] h Q := by
  obtain ⟨hc1, hc2, hc3, hc4, hc5, hc6⟩ := id hc
  refine spec_intro (by decide +kernel) rfl (Nat.le_of_ble_eq_true rfl) ?_
  refine r_aload_n (pc' := 1) d195_0 rfl rfl rfl ?_
  refine r_call (pc' := 4) [vR (some 50)] [] d195_1 rfl o195 st12_184_12 (rcv1 sh50 (pl hN rfl)) rfl (by decide) ⟨rfl, rfl⟩ (Nat.le_of_ble_eq_true rfl) rfl (s_isYard hN hM ?_)
  refine r_if_neB 10 (pc' := 7) d195_4 rfl rfl (fun c4 => ?_) (fun c4 => ?_)
  · refine r_iload_n (pc' := 11) d195_10 rfl rfl rfl ?_
    refine r_iconst (v := 0) (pc' := 12) d195_11 rfl (by decide) ?_
    refine r_bipush (v := 11) (pc' := 14) d195_12 rfl (by decide) ?_
    refine r_call (pc' := 17) [vI _, vI _, vI _] [] d195_14 rfl o195 st12_59 rcv0 rfl (by decide) ⟨rfl, rfl⟩ (Nat.le_of_ble_eq_true rfl) rfl (s_in ?_)
    refine r_if_eqB 30 (pc' := 20) d195_17 rfl rfl (fun c17 => ?_) (fun c17 => ?_)
    · refine r_ldc (pc' := 32) d195_30 rfl o195 kc12_67 ?_
      exact r_iretI d195_32 rfl (kB c4 (by first | exact Or.inl c17 | exact Or.inr c27))
    · refine r_iload_n (pc' := 21) d195_20 rfl rfl rfl ?_
      refine r_iconst (v := 1) (pc' := 22) d195_21 rfl (by decide) ?_
      refine r_bipush (v := 30) (pc' := 24) d195_22 rfl (by decide) ?_
      refine r_call (pc' := 27) [vI _, vI _, vI _] [] d195_24 rfl o195 st12_59 rcv0 rfl (by decide) ⟨rfl, rfl⟩ (Nat.le_of_ble_eq_true rfl) rfl (s_in ?_)
      refine r_if_neB 33 (pc' := 30) d195_27 rfl rfl (fun c27 => ?_) (fun c27 => ?_)
      · refine r_aload_n (pc' := 34) d195_33 rfl rfl rfl ?_
        refine r_getS (pc' := 37) d195_34 rfl o195 sf12_7_12 sh50 (pl hN rfl) (rfm0 hM) ?_
        refine r_bipush (v := 20) (pc' := 39) d195_37 rfl (by decide) ?_
        refine r_ialdN (pc' := 40) (j := 20) d195_39 rfl sh51 (pl hN rfl) rfl (by omega) (by decide) ?_
        refine r_bipush (v := 8) (pc' := 42) d195_40 rfl (by decide) ?_
        refine r_icmp_ne 48 (pc' := 45) d195_42 rfl rfl (fun c42 => ?_) (fun c42 => ?_)
        · have hL8 : L < 8 := by
            rcases Nat.lt_or_ge L 8 with q | q
            · exact q
            · exact absurd (show hi h 51 20 = 8 by rw [hc3, show L = 8 by omega]; rfl) c42
          refine r_aload_n (pc' := 49) d195_48 rfl rfl rfl ?_
          refine r_call (pc' := 52) [vR (some 50)] [] d195_49 rfl o195 st12_188_12 (rcv1 sh50 (pl hN rfl)) rfl (by decide) ⟨rfl, rfl⟩ (Nat.le_of_ble_eq_true rfl) rfl (s_rem hN hM ha ha24 ?_)
          refine wp_heap (h' := (mk4 h (hi h 60) (rmW (hi h 54) a (hi h 51)) (hi h 51) (rmA a))) (rem_mk h a ha) ?_
          refine r_aload_n (pc' := 53) d195_52 rfl rfl rfl ?_
          refine r_iload_n (pc' := 54) d195_53 rfl rfl rfl ?_
          refine r_iload_n (pc' := 55) d195_54 rfl rfl rfl ?_
          refine r_call (pc' := 58) [vR (some 50), vI _, vI _] [] d195_55 rfl o195 st12_200_12 (rcv1 sh50 (pl hN rfl)) rfl (by decide) ⟨rfl, rfl⟩ (Nat.le_of_ble_eq_true rfl) rfl (s_adds hN hM hc hL8 ?_)
          refine wp_heap (h' := (mk4 h (hi h 60) (rmW (hi h 54) a (hi h 51)) (addI (hi h 51) L cell fire) (rmA a))) (mk4_w _ _ _ _ _ _) ?_
          refine r_aload_n (pc' := 59) d195_58 rfl rfl rfl ?_
          refine r_getS (pc' := 62) d195_59 rfl o195 sf12_7_12 sh50 (pl hN rfl) (rfm0 hM) ?_
          refine r_bipush (v := 20) (pc' := 64) d195_62 rfl (by decide) ?_
          refine r_ialdN (pc' := 65) (j := 20) d195_64 rfl sh51 (pl hN rfl) rfl (by omega) (by decide) ?_
          exact r_iretI d195_65 rfl (qv (addI_20 (hi h 51) L cell fire).symm (kW c4 c17 c27 hL8))
        · refine r_ldc (pc' := 47) d195_45 rfl o195 kc12_81 ?_
          exact r_iretI d195_47 rfl (kF c4 c17 c27 (by rw [hc3] at c42; exact (nI_eq (by omega) (by decide)).mp c42))
      · refine r_ldc (pc' := 32) d195_30 rfl o195 kc12_67 ?_
        exact r_iretI d195_32 rfl (kB c4 (by first | exact Or.inl c17 | exact Or.inr c27))
  · refine r_ldc (pc' := 9) d195_7 rfl o195 kc12_187 ?_
    exact r_iretI d195_9 rfl (kS c4)
def wg (s : Nat → Int32) (k : Nat) : Int32 := if 3 ≤ s (29 + k) then 3 else s (29 + k)
def watS (s : Nat → Int32) : Nat → Nat → Int32
  | 0 => s
  | k + 1 => upd (watS s k) (29 + k) (watS s k (29 + k) - wg (watS s k) k)
def watR (s : Nat → Int32) : Nat → Int32
  | 0 => 0
  | k + 1 => watR s k + wg (watS s k) k
theorem watS_lo (s : Nat → Int32) (k i : Nat) (h1 : ¬ (29 ≤ i ∧ i < 29 + k)) : watS s k i = s i := by
  induction k with
  | zero => rfl
  | succ k ih => unfold watS; rw [upd_ne _ _ _ (by omega)]; exact ih (by omega)
theorem M_water {d : Nat} {h : Hp} {Q : Option AV → Hp → Prop} {m L e a : Nat} (hN : hn h = 65) (hM : RM h) (hc : Cnt (hi h 51) m L e) (ha : hi h 50 4 = nI a) (ha24 : a ≤ 24) (kS : ¬ hi h 51 0 = 1 → Q (some (vI (-1000002))) h)
    (kW : hi h 51 0 = 1 → Q (some (vI (watR (hi h 51) L))) (mk4 h (hi h 60) (rmW (hi h 54) a (hi h 51)) (watS (hi h 51) L) (rmA a))) : Spec (d + 1) 196 [vR (some 50)] h Q := by
  obtain ⟨hc1, hc2, hc3, hc4, hc5, hc6⟩ := id hc
  refine spec_intro (by decide +kernel) rfl (Nat.le_of_ble_eq_true rfl) ?_
  refine r_aload_n (pc' := 1) d196_0 rfl rfl rfl ?_
  refine r_call (pc' := 4) [vR (some 50)] [] d196_1 rfl o196 st12_184_12 (rcv1 sh50 (pl hN rfl)) rfl (by decide) ⟨rfl, rfl⟩ (Nat.le_of_ble_eq_true rfl) rfl (s_isYard hN hM ?_)
  refine r_if_neB 10 (pc' := 7) d196_4 rfl rfl (fun c4 => ?_) (fun c4 => ?_)
  · refine r_aload_n (pc' := 11) d196_10 rfl rfl rfl ?_
    refine r_call (pc' := 14) [vR (some 50)] [] d196_11 rfl o196 st12_188_12 (rcv1 sh50 (pl hN rfl)) rfl (by decide) ⟨rfl, rfl⟩ (Nat.le_of_ble_eq_true rfl) rfl (s_rem hN hM ha ha24 ?_)
    refine wp_heap (h' := (mk4 h (hi h 60) (rmW (hi h 54) a (hi h 51)) (hi h 51) (rmA a))) (rem_mk h a ha) ?_
    refine r_iconst (v := 0) (pc' := 15) d196_14 rfl (by decide) ?_
    refine r_istore_n (pc' := 16) (ls' := [(1, vI _), (0, vR (some 50))]) d196_15 rfl rfl (by decide) rfl ?_
    refine r_iconst (v := 0) (pc' := 17) d196_16 rfl (by decide) ?_
    refine r_istore_n (pc' := 18) (ls' := [(2, vI _), (1, vI _), (0, vR (some 50))]) d196_17 rfl rfl (by decide) rfl ?_
    refine wp_pick (ls' := [(0, vR (some 50)), (1, vI _), (2, vI _)]) [2, 1, 0] rfl ?_
    have loop : ∀ (r k : Nat), k + r = L → wp (d + 1) 196 Q 0 0 18 [(0, vR (some 50)), (1, vI (watR (hi h 51) k)), (2, vI (nI k))] [] (mk4 h (hi h 60) (rmW (hi h 54) a (hi h 51)) (watS (hi h 51) k) (rmA a)) := by
      intro r
      induction r with
      | zero =>
        intro k hk
        obtain rfl : k = L := by omega
        refine r_iload_n (pc' := 19) d196_18 rfl rfl rfl ?_
        refine r_aload_n (pc' := 20) d196_19 rfl rfl rfl ?_
        refine r_getS (pc' := 23) d196_20 rfl o196 sf12_7_12 sh50 (pl hN rfl) (rfm0 hM) ?_
        refine r_bipush (v := 20) (pc' := 25) d196_23 rfl (by decide) ?_
        refine r_ialdN (pc' := 26) (j := 20) d196_25 rfl sh51 (pl hN rfl) rfl (by omega) (by decide) ?_
        refine r_icmp_ge 79 (pc' := 29) d196_26 rfl rfl (fun c26 => ?_) (fun c26 => absurd (show  watS (hi h 51) k 20 ≤ nI k by rw [watS_lo _ _ _ (by omega), hc3]; exact nI_le (Nat.le_refl _) (by omega)) c26)
        refine r_iload_n (pc' := 80) d196_79 rfl rfl rfl ?_
        exact r_iretI d196_80 rfl (kW c4)
      | succ r ih =>
        intro k hk
        refine r_iload_n (pc' := 19) d196_18 rfl rfl rfl ?_
        refine r_aload_n (pc' := 20) d196_19 rfl rfl rfl ?_
        refine r_getS (pc' := 23) d196_20 rfl o196 sf12_7_12 sh50 (pl hN rfl) (rfm0 hM) ?_
        refine r_bipush (v := 20) (pc' := 25) d196_23 rfl (by decide) ?_
        refine r_ialdN (pc' := 26) (j := 20) d196_25 rfl sh51 (pl hN rfl) rfl (by omega) (by decide) ?_
        refine r_icmp_ge 79 (pc' := 29) d196_26 rfl rfl (fun c26 => absurd c26 (show ¬ watS (hi h 51) k 20 ≤ nI k by rw [watS_lo _ _ _ (by omega), hc3]; exact nI_ge (by omega) (by omega))) (fun c26 => ?_)
        refine r_aload_n (pc' := 30) d196_29 rfl rfl rfl ?_
        refine r_getS (pc' := 33) d196_30 rfl o196 sf12_7_12 sh50 (pl hN rfl) (rfm0 hM) ?_
        refine r_bipush (v := 29) (pc' := 35) d196_33 rfl (by decide) ?_
        refine r_iload_n (pc' := 36) d196_35 rfl rfl rfl ?_
        refine r_iadd (pc' := 37) d196_36 rfl ?_
        refine r_ialdN (pc' := 38) (j := (29 + k)) d196_37 rfl sh51 (pl hN rfl) (by simp only [lit, nI_add, pk_mul]) (by omega) (by decide) ?_
        refine r_iconst (v := 3) (pc' := 39) d196_38 rfl (by decide) ?_
        refine r_icmp_ge 54 (pc' := 42) d196_39 rfl rfl (fun c39 => ?_) (fun c39 => ?_)
        · refine r_iconst (v := 3) (pc' := 55) d196_54 rfl (by decide) ?_
          refine r_istore_n (pc' := 56) (ls' := [(3, vI _), (0, vR (some 50)), (1, vI _), (2, vI _)]) d196_55 rfl rfl (by decide) rfl ?_
          refine r_aload_n (pc' := 57) d196_56 rfl rfl rfl ?_
          refine r_getS (pc' := 60) d196_57 rfl o196 sf12_7_12 sh50 (pl hN rfl) (rfm0 hM) ?_
          refine r_bipush (v := 29) (pc' := 62) d196_60 rfl (by decide) ?_
          refine r_iload_n (pc' := 63) d196_62 rfl rfl rfl ?_
          refine r_iadd (pc' := 64) d196_63 rfl ?_
          refine r_dup2 (pc' := 65) d196_64 rfl ?_
          refine r_ialdN (pc' := 66) (j := (29 + k)) d196_65 rfl sh51 (pl hN rfl) (by simp only [lit, nI_add, pk_mul]) (by omega) (by decide) ?_
          refine r_iload_n (pc' := 67) d196_66 rfl rfl rfl ?_
          refine r_isub (pc' := 68) d196_67 rfl ?_
          refine r_iastN (pc' := 69) (j := (29 + k)) d196_68 rfl sh51 (pl hN rfl) (by simp only [lit, nI_add, pk_mul]) (by omega) (by decide) ?_
          refine r_iload_n (pc' := 70) d196_69 rfl rfl rfl ?_
          refine r_iload_n (pc' := 71) d196_70 rfl rfl rfl ?_
          refine r_iadd (pc' := 72) d196_71 rfl ?_
          refine r_istore_n (pc' := 73) (ls' := [(1, vI _), (3, vI _), (0, vR (some 50)), (2, vI _)]) d196_72 rfl rfl (by decide) rfl ?_
          refine r_iinc (v := _ + 1) (pc' := 76) (ls' := [(2, vI _), (1, vI _), (3, vI _), (0, vR (some 50))]) d196_73 rfl rfl rfl (by decide) rfl ?_
          refine r_goto 18 d196_76 rfl ?_
          refine wp_pick (ls' := [(0, vR (some 50)), (1, vI _), (2, vI _)]) [3, 1, 0] rfl ?_
          rw [nI_1]
          have w := ih (k + 1) (by omega)
          have c39 : 3 ≤ watS (hi h 51) k (29 + k) := c39
          rw [watR, watS, wg, if_pos c39] at w
          rw [mk4_s]
          exact w
        · refine r_aload_n (pc' := 43) d196_42 rfl rfl rfl ?_
          refine r_getS (pc' := 46) d196_43 rfl o196 sf12_7_12 sh50 (pl hN rfl) (rfm0 hM) ?_
          refine r_bipush (v := 29) (pc' := 48) d196_46 rfl (by decide) ?_
          refine r_iload_n (pc' := 49) d196_48 rfl rfl rfl ?_
          refine r_iadd (pc' := 50) d196_49 rfl ?_
          refine r_ialdN (pc' := 51) (j := (29 + k)) d196_50 rfl sh51 (pl hN rfl) (by simp only [lit, nI_add, pk_mul]) (by omega) (by decide) ?_
          refine r_goto 55 d196_51 rfl ?_
          refine r_istore_n (pc' := 56) (ls' := [(3, vI _), (0, vR (some 50)), (1, vI _), (2, vI _)]) d196_55 rfl rfl (by decide) rfl ?_
          refine r_aload_n (pc' := 57) d196_56 rfl rfl rfl ?_
          refine r_getS (pc' := 60) d196_57 rfl o196 sf12_7_12 sh50 (pl hN rfl) (rfm0 hM) ?_
          refine r_bipush (v := 29) (pc' := 62) d196_60 rfl (by decide) ?_
          refine r_iload_n (pc' := 63) d196_62 rfl rfl rfl ?_
          refine r_iadd (pc' := 64) d196_63 rfl ?_
          refine r_dup2 (pc' := 65) d196_64 rfl ?_
          refine r_ialdN (pc' := 66) (j := (29 + k)) d196_65 rfl sh51 (pl hN rfl) (by simp only [lit, nI_add, pk_mul]) (by omega) (by decide) ?_
          refine r_iload_n (pc' := 67) d196_66 rfl rfl rfl ?_
          refine r_isub (pc' := 68) d196_67 rfl ?_
          refine r_iastN (pc' := 69) (j := (29 + k)) d196_68 rfl sh51 (pl hN rfl) (by simp only [lit, nI_add, pk_mul]) (by omega) (by decide) ?_
          refine r_iload_n (pc' := 70) d196_69 rfl rfl rfl ?_
          refine r_iload_n (pc' := 71) d196_70 rfl rfl rfl ?_
          refine r_iadd (pc' := 72) d196_71 rfl ?_
          refine r_istore_n (pc' := 73) (ls' := [(1, vI _), (3, vI _), (0, vR (some 50)), (2, vI _)]) d196_72 rfl rfl (by decide) rfl ?_
          refine r_iinc (v := _ + 1) (pc' := 76) (ls' := [(2, vI _), (1, vI _), (3, vI _), (0, vR (some 50))]) d196_73 rfl rfl rfl (by decide) rfl ?_
          refine r_goto 18 d196_76 rfl ?_
          refine wp_pick (ls' := [(0, vR (some 50)), (1, vI _), (2, vI _)]) [3, 1, 0] rfl ?_
          rw [nI_1]
          have w := ih (k + 1) (by omega)
          have c39 : ¬ 3 ≤ watS (hi h 51) k (29 + k) := c39
          rw [watR, watS, wg, if_neg c39] at w
          rw [mk4_s]
          exact w
    exact loop L 0 (by omega)
  · refine r_ldc (pc' := 9) d196_7 rfl o196 kc12_187 ?_
    exact r_iretI d196_9 rfl (kS c4)
abbrev mayI (s : Nat → Int32) (j q : Nat) : Prop := ¬ goneI s j ∧ wellI s j ∧ s (81 + q) = -1000000 ∧ s (15 + q) ≤ s 19 ∧ s (11 + q) = s (5 + j)
def srvI (s : Nat → Int32) (j q : Nat) : Nat → Int32 := upd (upd s (45 + j) (-1000000)) (81 + q) (nI j)
theorem Cnt.srv {s : Nat → Int32} {m L e : Nat} (h : Cnt s m L e) (j q : Nat) : Cnt (srvI s j q) m L e := by
  obtain ⟨h1, h2, h3, h4, h5, h6⟩ := h
  have e0 : ∀ i, i < 45 → srvI s j q i = s i := fun i hi0 => by unfold srvI; rw [upd_ne _ _ _ (by omega), upd_ne _ _ _ (by omega)]
  exact ⟨by rw [e0 _ (by decide)]; exact h1, h2, by rw [e0 _ (by decide)]; exact h3, h4, by rw [e0 _ (by decide)]; exact h5, h6⟩
theorem M_serve {d : Nat} {h : Hp} {Q : Option AV → Hp → Prop} {m L e a : Nat} {t u : Int32} (hN : hn h = 65) (hM : RM h) (hc : Cnt (hi h 51) m L e) (ha : hi h 50 4 = nI a) (ha24 : a ≤ 24) (kB : (¬ inR t m ∨ ¬ inR u e) → Q (some (vI (-1000001))) h)
    (kS : ∀ j : Nat, j < m → t = nI j → ∀ q : Nat, q < e → u = nI q → ¬ mayI (hi h 51) j q → Q (some (vI (-1000002))) h)
    (kW : ∀ j : Nat, j < m → t = nI j → ∀ q : Nat, q < e → u = nI q → mayI (hi h 51) j q → Q (some (vI (servS (srvI (hi h 51) j q) e))) (mk4 h (hi h 60) (rmW (hi h 54) a (hi h 51)) (srvI (hi h 51) j q) (rmA a))) : Spec (d + 3) 200 [vR (some 50), vI t, vI u] h Q := by
  obtain ⟨hc1, hc2, hc3, hc4, hc5, hc6⟩ := id hc
  refine spec_intro (by decide +kernel) rfl (Nat.le_of_ble_eq_true rfl) ?_
  refine r_aload_n (pc' := 1) d200_0 rfl rfl rfl ?_
  refine r_iload_n (pc' := 2) d200_1 rfl rfl rfl ?_
  refine r_call (pc' := 5) [vR (some 50), vI _] [] d200_2 rfl o200 st12_194_12 (rcv1 sh50 (pl hN rfl)) rfl (by decide) ⟨rfl, rfl⟩ (Nat.le_of_ble_eq_true rfl) rfl (s_isThingC hN hM hc ?_)
  refine r_if_eqB 24 (pc' := 8) d200_5 rfl rfl (fun c5 => ?_) (fun c5 => ?_)
  · refine r_ldc (pc' := 26) d200_24 rfl o200 kc12_67 ?_
    exact r_iretI d200_26 rfl (kB (by first | exact Or.inl c5 | exact Or.inr (by rw [hc5] at c21; exact c21)))
  · refine r_iload_n (pc' := 9) d200_8 rfl rfl rfl ?_
    refine r_iconst (v := 0) (pc' := 10) d200_9 rfl (by decide) ?_
    refine r_aload_n (pc' := 11) d200_10 rfl rfl rfl ?_
    refine r_getS (pc' := 14) d200_11 rfl o200 sf12_7_12 sh50 (pl hN rfl) (rfm0 hM) ?_
    refine r_iconst (v := 2) (pc' := 15) d200_14 rfl (by decide) ?_
    refine r_ialdN (pc' := 16) (j := 2) d200_15 rfl sh51 (pl hN rfl) rfl (by omega) (by decide) ?_
    refine r_iconst (v := 1) (pc' := 17) d200_16 rfl (by decide) ?_
    refine r_isub (pc' := 18) d200_17 rfl ?_
    refine r_call (pc' := 21) [vI _, vI _, vI _] [] d200_18 rfl o200 st12_59 rcv0 rfl (by decide) ⟨rfl, rfl⟩ (Nat.le_of_ble_eq_true rfl) rfl (s_in ?_)
    refine r_if_neB 27 (pc' := 24) d200_21 rfl rfl (fun c21 => ?_) (fun c21 => ?_)
    · obtain ⟨j, hj, rfl⟩ := inR_of c5 (by omega)
      obtain ⟨q, hq, rfl⟩ := ix_lt c21.1 (by rw [← hc5]; exact c21.2) (by omega)
      refine r_aload_n (pc' := 28) d200_27 rfl rfl rfl ?_
      refine r_iload_n (pc' := 29) d200_28 rfl rfl rfl ?_
      refine r_call (pc' := 32) [vR (some 50), vI _] [] d200_29 rfl o200 st12_178_12 (rcv1 sh50 (pl hN rfl)) rfl (by decide) ⟨rfl, rfl⟩ (Nat.le_of_ble_eq_true rfl) rfl (s_isGone hN hM (by omega) ?_)
      refine r_if_neB 100 (pc' := 35) d200_32 rfl rfl (fun c32 => ?_) (fun c32 => ?_)
      · refine r_iconst (v := 0) (pc' := 101) d200_100 rfl (by decide) ?_
        refine r_istore_n (pc' := 102) (ls' := [(3, vI _), (0, vR (some 50)), (1, vI _), (2, vI _)]) d200_101 rfl rfl (by decide) rfl ?_
        refine r_iload_n (pc' := 103) d200_102 rfl rfl rfl ?_
        refine r_if_ne 109 (pc' := 106) d200_103 rfl rfl (fun c103 => absurd (by decide) c103) (fun c103 => ?_)
        refine r_ldc (pc' := 108) d200_106 rfl o200 kc12_187 ?_
        exact r_iretI d200_108 rfl (kS j hj rfl q hq rfl (fun z => z.1 c32))
      · refine r_aload_n (pc' := 36) d200_35 rfl rfl rfl ?_
        refine r_iload_n (pc' := 37) d200_36 rfl rfl rfl ?_
        refine r_call (pc' := 40) [vR (some 50), vI _] [] d200_37 rfl o200 st12_210_12 (rcv1 sh50 (pl hN rfl)) rfl (by decide) ⟨rfl, rfl⟩ (Nat.le_of_ble_eq_true rfl) rfl (s_isWell hN hM (by omega) ?_)
        refine r_if_eqB 100 (pc' := 43) d200_40 rfl rfl (fun c40 => ?_) (fun c40 => ?_)
        · refine r_iconst (v := 0) (pc' := 101) d200_100 rfl (by decide) ?_
          refine r_istore_n (pc' := 102) (ls' := [(3, vI _), (0, vR (some 50)), (1, vI _), (2, vI _)]) d200_101 rfl rfl (by decide) rfl ?_
          refine r_iload_n (pc' := 103) d200_102 rfl rfl rfl ?_
          refine r_if_ne 109 (pc' := 106) d200_103 rfl rfl (fun c103 => absurd (by decide) c103) (fun c103 => ?_)
          refine r_ldc (pc' := 108) d200_106 rfl o200 kc12_187 ?_
          exact r_iretI d200_108 rfl (kS j hj rfl q hq rfl (fun z => c40 z.2.1))
        · refine r_aload_n (pc' := 44) d200_43 rfl rfl rfl ?_
          refine r_getS (pc' := 47) d200_44 rfl o200 sf12_7_12 sh50 (pl hN rfl) (rfm0 hM) ?_
          refine r_bipush (v := 81) (pc' := 49) d200_47 rfl (by decide) ?_
          refine r_iload_n (pc' := 50) d200_49 rfl rfl rfl ?_
          refine r_iadd (pc' := 51) d200_50 rfl ?_
          refine r_ialdN (pc' := 52) (j := (81 + q)) d200_51 rfl sh51 (pl hN rfl) (by simp only [lit, nI_add, pk_mul]) (by omega) (by decide) ?_
          refine r_ldc (pc' := 54) d200_52 rfl o200 kc12_53 ?_
          refine r_icmp_ne 100 (pc' := 57) d200_54 rfl rfl (fun c54 => ?_) (fun c54 => ?_)
          · refine r_iconst (v := 0) (pc' := 101) d200_100 rfl (by decide) ?_
            refine r_istore_n (pc' := 102) (ls' := [(3, vI _), (0, vR (some 50)), (1, vI _), (2, vI _)]) d200_101 rfl rfl (by decide) rfl ?_
            refine r_iload_n (pc' := 103) d200_102 rfl rfl rfl ?_
            refine r_if_ne 109 (pc' := 106) d200_103 rfl rfl (fun c103 => absurd (by decide) c103) (fun c103 => ?_)
            refine r_ldc (pc' := 108) d200_106 rfl o200 kc12_187 ?_
            exact r_iretI d200_108 rfl (kS j hj rfl q hq rfl (fun z => c54 z.2.2.1))
          · refine r_aload_n (pc' := 58) d200_57 rfl rfl rfl ?_
            refine r_getS (pc' := 61) d200_58 rfl o200 sf12_7_12 sh50 (pl hN rfl) (rfm0 hM) ?_
            refine r_bipush (v := 15) (pc' := 63) d200_61 rfl (by decide) ?_
            refine r_iload_n (pc' := 64) d200_63 rfl rfl rfl ?_
            refine r_iadd (pc' := 65) d200_64 rfl ?_
            refine r_ialdN (pc' := 66) (j := (15 + q)) d200_65 rfl sh51 (pl hN rfl) (by simp only [lit, nI_add, pk_mul]) (by omega) (by decide) ?_
            refine r_aload_n (pc' := 67) d200_66 rfl rfl rfl ?_
            refine r_getS (pc' := 70) d200_67 rfl o200 sf12_7_12 sh50 (pl hN rfl) (rfm0 hM) ?_
            refine r_bipush (v := 19) (pc' := 72) d200_70 rfl (by decide) ?_
            refine r_ialdN (pc' := 73) (j := 19) d200_72 rfl sh51 (pl hN rfl) rfl (by omega) (by decide) ?_
            refine r_icmp_gt 100 (pc' := 76) d200_73 rfl rfl (fun c73 => ?_) (fun c73 => ?_)
            · refine r_iconst (v := 0) (pc' := 101) d200_100 rfl (by decide) ?_
              refine r_istore_n (pc' := 102) (ls' := [(3, vI _), (0, vR (some 50)), (1, vI _), (2, vI _)]) d200_101 rfl rfl (by decide) rfl ?_
              refine r_iload_n (pc' := 103) d200_102 rfl rfl rfl ?_
              refine r_if_ne 109 (pc' := 106) d200_103 rfl rfl (fun c103 => absurd (by decide) c103) (fun c103 => ?_)
              refine r_ldc (pc' := 108) d200_106 rfl o200 kc12_187 ?_
              exact r_iretI d200_108 rfl (kS j hj rfl q hq rfl (fun z => absurd z.2.2.2.1 (Int32.not_le.mpr c73)))
            · refine r_aload_n (pc' := 77) d200_76 rfl rfl rfl ?_
              refine r_getS (pc' := 80) d200_77 rfl o200 sf12_7_12 sh50 (pl hN rfl) (rfm0 hM) ?_
              refine r_bipush (v := 11) (pc' := 82) d200_80 rfl (by decide) ?_
              refine r_iload_n (pc' := 83) d200_82 rfl rfl rfl ?_
              refine r_iadd (pc' := 84) d200_83 rfl ?_
              refine r_ialdN (pc' := 85) (j := (11 + q)) d200_84 rfl sh51 (pl hN rfl) (by simp only [lit, nI_add, pk_mul]) (by omega) (by decide) ?_
              refine r_aload_n (pc' := 86) d200_85 rfl rfl rfl ?_
              refine r_getS (pc' := 89) d200_86 rfl o200 sf12_7_12 sh50 (pl hN rfl) (rfm0 hM) ?_
              refine r_iconst (v := 5) (pc' := 90) d200_89 rfl (by decide) ?_
              refine r_iload_n (pc' := 91) d200_90 rfl rfl rfl ?_
              refine r_iadd (pc' := 92) d200_91 rfl ?_
              refine r_ialdN (pc' := 93) (j := (5 + j)) d200_92 rfl sh51 (pl hN rfl) (by simp only [lit, nI_add, pk_mul]) (by omega) (by decide) ?_
              refine r_icmp_ne 100 (pc' := 96) d200_93 rfl rfl (fun c93 => ?_) (fun c93 => ?_)
              · refine r_iconst (v := 0) (pc' := 101) d200_100 rfl (by decide) ?_
                refine r_istore_n (pc' := 102) (ls' := [(3, vI _), (0, vR (some 50)), (1, vI _), (2, vI _)]) d200_101 rfl rfl (by decide) rfl ?_
                refine r_iload_n (pc' := 103) d200_102 rfl rfl rfl ?_
                refine r_if_ne 109 (pc' := 106) d200_103 rfl rfl (fun c103 => absurd (by decide) c103) (fun c103 => ?_)
                refine r_ldc (pc' := 108) d200_106 rfl o200 kc12_187 ?_
                exact r_iretI d200_108 rfl (kS j hj rfl q hq rfl (fun z => c93 z.2.2.2.2))
              · refine r_iconst (v := 1) (pc' := 97) d200_96 rfl (by decide) ?_
                refine r_goto 101 d200_97 rfl ?_
                refine r_istore_n (pc' := 102) (ls' := [(3, vI _), (0, vR (some 50)), (1, vI _), (2, vI _)]) d200_101 rfl rfl (by decide) rfl ?_
                refine r_iload_n (pc' := 103) d200_102 rfl rfl rfl ?_
                refine r_if_ne 109 (pc' := 106) d200_103 rfl rfl (fun c103 => ?_) (fun c103 => absurd c103 (by decide))
                refine r_aload_n (pc' := 110) d200_109 rfl rfl rfl ?_
                refine r_call (pc' := 113) [vR (some 50)] [] d200_110 rfl o200 st12_188_12 (rcv1 sh50 (pl hN rfl)) rfl (by decide) ⟨rfl, rfl⟩ (Nat.le_of_ble_eq_true rfl) rfl (s_rem hN hM ha ha24 ?_)
                refine wp_heap (h' := (mk4 h (hi h 60) (rmW (hi h 54) a (hi h 51)) (hi h 51) (rmA a))) (rem_mk h a ha) ?_
                refine r_aload_n (pc' := 114) d200_113 rfl rfl rfl ?_
                refine r_getS (pc' := 117) d200_114 rfl o200 sf12_7_12 sh50 (pl hN rfl) (rfm0 hM) ?_
                refine r_bipush (v := 45) (pc' := 119) d200_117 rfl (by decide) ?_
                refine r_iload_n (pc' := 120) d200_119 rfl rfl rfl ?_
                refine r_iadd (pc' := 121) d200_120 rfl ?_
                refine r_ldc (pc' := 123) d200_121 rfl o200 kc12_53 ?_
                refine r_iastN (pc' := 124) (j := (45 + j)) d200_123 rfl sh51 (pl hN rfl) (by simp only [lit, nI_add, pk_mul]) (by omega) (by decide) ?_
                refine r_aload_n (pc' := 125) d200_124 rfl rfl rfl ?_
                refine r_getS (pc' := 128) d200_125 rfl o200 sf12_7_12 sh50 (pl hN rfl) (rfm0 hM) ?_
                refine r_bipush (v := 81) (pc' := 130) d200_128 rfl (by decide) ?_
                refine r_iload_n (pc' := 131) d200_130 rfl rfl rfl ?_
                refine r_iadd (pc' := 132) d200_131 rfl ?_
                refine r_iload_n (pc' := 133) d200_132 rfl rfl rfl ?_
                refine r_iastN (pc' := 134) (j := (81 + q)) d200_133 rfl sh51 (pl hN rfl) (by simp only [lit, nI_add, pk_mul]) (by omega) (by decide) ?_
                refine wp_heap (h' := (mk4 h (hi h 60) (rmW (hi h 54) a (hi h 51)) (srvI (hi h 51) j q) (rmA a))) (by rw [mk4_s, mk4_s]; rfl) ?_
                refine r_aload_n (pc' := 135) d200_134 rfl rfl rfl ?_
                refine r_call (pc' := 138) [vR (some 50)] [] d200_135 rfl o200 st12_213_12 (rcv1 sh50 (pl hN rfl)) rfl (by decide) ⟨rfl, rfl⟩ (Nat.le_of_ble_eq_true rfl) rfl (s_servedNow hN hM (show Cnt (srvI (hi h 51) j q) m L e from hc.srv j q) ?_)
                exact r_iretI d200_138 rfl (kW j hj rfl q hq rfl ⟨c32, c40, c54, Int32.not_lt.mp c73, c93⟩)
    · refine r_ldc (pc' := 26) d200_24 rfl o200 kc12_67 ?_
      exact r_iretI d200_26 rfl (kB (by first | exact Or.inl c5 | exact Or.inr (by rw [hc5] at c21; exact c21)))
theorem M_undo {d : Nat} {h : Hp} {Q : Option AV → Hp → Prop} {a : Nat} (hN : hn h = 65) (hM : RM h) (ha : hi h 50 4 = nI a) (ha24 : a ≤ 24) (kS : a = 0 → Q (some (vI (-1000002))) h)
    (kW : ∀ b, a = b + 1 → Q (some (vI (nI b))) (setw (seti h 50 4 (nI b)) 51 (mix (fun i => hi h 54 (66 * b + (i - 19))) (hi h 51) 19 66))) : Spec d 201 [vR (some 50)] h Q := by
  refine spec_intro (by decide +kernel) rfl (Nat.le_of_ble_eq_true rfl) ?_
  refine r_aload_n (pc' := 1) d201_0 rfl rfl rfl ?_
  refine r_getI (pc' := 4) d201_1 rfl o201 sf12_147_12 sh50 (pl hN rfl) ?_
  refine wp_v ha ?_
  refine r_if_ne 10 (pc' := 7) d201_4 rfl rfl (fun c4 => ?_) (fun c4 => ?_)
  · obtain ⟨b, rfl⟩ : ∃ b, a = b + 1 := ⟨a - 1, by have : a ≠ 0 := fun z => c4 (by rw [z]; rfl); omega⟩
    refine r_aload_n (pc' := 11) d201_10 rfl rfl rfl ?_
    refine r_dupR (pc' := 12) d201_11 rfl ?_
    refine r_getI (pc' := 15) d201_12 rfl o201 sf12_147_12 sh50 (pl hN rfl) ?_
    refine wp_v ha ?_
    refine r_iconst (v := 1) (pc' := 16) d201_15 rfl (by decide) ?_
    refine r_isub (pc' := 17) d201_16 rfl ?_
    refine r_putI (pc' := 20) d201_17 rfl o201 sp12_147_12 sh50 (fun w => absurd w (by decide)) (Or.inl rfl) (pl hN rfl) ?_
    refine wp_heap (h' := seti h 50 4 (nI b)) (congrArg (seti h 50 4) (nI_pred b)) ?_
    refine r_iconst (v := 0) (pc' := 21) d201_20 rfl (by decide) ?_
    refine r_istore_n (pc' := 22) (ls' := [(1, vI _), (0, vR (some 50))]) d201_21 rfl rfl (by decide) rfl ?_
    refine wp_pick (ls' := [(0, vR (some 50)), (1, vI _)]) [1, 0] rfl ?_
    have loop : ∀ (r k : Nat), k + r = 66 → wp d 201 Q 0 0 22 [(0, vR (some 50)), (1, vI (nI k))] [] (setw (seti h 50 4 (nI b)) 51 (mix (fun i => hi h 54 (66 * b + (i - 19))) (hi h 51) 19 k)) := by
      intro r
      induction r with
      | zero =>
        intro k hk
        obtain rfl : k = 66 := by omega
        refine r_iload_n (pc' := 23) d201_22 rfl rfl rfl ?_
        refine r_bipush (v := 66) (pc' := 25) d201_23 rfl (by decide) ?_
        refine r_icmp_ge 57 (pc' := 28) d201_25 rfl rfl (fun c25 => ?_) (fun c25 => absurd (by decide) c25)
        refine r_aload_n (pc' := 58) d201_57 rfl rfl rfl ?_
        refine r_getI (pc' := 61) d201_58 rfl o201 sf12_147_12 sh50 (pl hN rfl) ?_
        refine wp_v (show hi _ 50 4 = nI b from rfl) ?_
        exact r_iretI d201_61 rfl (kW b rfl)
      | succ r ih =>
        intro k hk
        refine r_iload_n (pc' := 23) d201_22 rfl rfl rfl ?_
        refine r_bipush (v := 66) (pc' := 25) d201_23 rfl (by decide) ?_
        refine r_icmp_ge 57 (pc' := 28) d201_25 rfl rfl (fun c25 => absurd c25 (nI_ge (a := k) (b := 66) (by omega) (by decide))) (fun c25 => ?_)
        refine r_aload_n (pc' := 29) d201_28 rfl rfl rfl ?_
        refine r_getS (pc' := 32) d201_29 rfl o201 sf12_7_12 sh50 (pl hN rfl) (rfm0 hM) ?_
        refine r_bipush (v := 19) (pc' := 34) d201_32 rfl (by decide) ?_
        refine r_iload_n (pc' := 35) d201_34 rfl rfl rfl ?_
        refine r_iadd (pc' := 36) d201_35 rfl ?_
        refine r_aload_n (pc' := 37) d201_36 rfl rfl rfl ?_
        refine r_getS (pc' := 40) d201_37 rfl o201 sf12_20_12 sh50 (pl hN rfl) (rfm3 hM) ?_
        refine r_bipush (v := 66) (pc' := 42) d201_40 rfl (by decide) ?_
        refine r_aload_n (pc' := 43) d201_42 rfl rfl rfl ?_
        refine r_getI (pc' := 46) d201_43 rfl o201 sf12_147_12 sh50 (pl hN rfl) ?_
        refine wp_v (show hi _ 50 4 = nI b from rfl) ?_
        refine r_imul (pc' := 47) d201_46 rfl ?_
        refine r_iload_n (pc' := 48) d201_47 rfl rfl rfl ?_
        refine r_iadd (pc' := 49) d201_48 rfl ?_
        refine r_ialdN (pc' := 50) (j := ((66 * b) + k)) d201_49 rfl sh54 (pl hN rfl) (by simp only [lit, nI_add, pk_mul]) (by omega) (by decide) ?_
        refine r_iastN (pc' := 51) (j := (19 + k)) d201_50 rfl sh51 (pl hN rfl) (by simp only [lit, nI_add, pk_mul]) (by omega) (by decide) ?_
        refine r_iinc (v := _ + 1) (pc' := 54) (ls' := [(1, vI _), (0, vR (some 50))]) d201_51 rfl rfl rfl (by decide) rfl ?_
        refine r_goto 22 d201_54 rfl ?_
        refine wp_pick (ls' := [(0, vR (some 50)), (1, vI _)]) [1, 0] rfl ?_
        refine wp_heap (h' := (setw (seti h 50 4 (nI b)) 51 (mix (fun i => hi h 54 (66 * b + (i - 19))) (hi h 51) 19 (k + 1)))) ((seti_setw _ _ _ _ _).trans (congrArg (setw _ _) (mixv (fun i => hi h 54 (66 * b + (i - 19))) (hi h 51) 19 k (by show hi h 54 (66 * b + k) = hi h 54 (66 * b + (19 + k - 19)); rw [Nat.add_sub_cancel_left])))) ?_
        rw [nI_1]
        exact ih (k + 1) (by omega)
    refine wp_heap (h' := (setw (seti h 50 4 (nI b)) 51 (mix (fun i => hi h 54 (66 * b + (i - 19))) (hi h 51) 19 0))) (by rw [mix_0]; exact (setw_self _ 51).symm) ?_
    exact loop 66 0 rfl
  · refine r_ldc (pc' := 9) d201_7 rfl o201 kc12_187 ?_
    exact r_iretI d201_9 rfl (kS ((nI_eq (by omega) (by decide)).mp c4))
