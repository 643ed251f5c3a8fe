/-! the reference: acts (printed by wip/whole/m41.py) -/
def rmW (w : Nat → Int32) (a : Nat) (s : Nat → Int32) : Nat → Int32 := if a < 24 then mix (fun i => s (19 + (i - 66 * a))) w (66 * a) 66 else mix (fun i => s (19 + (i - 66 * 23))) (shL w) (66 * 23) 66
def rmA (a : Nat) : Nat := if a < 24 then a + 1 else 24
theorem rmA_le (a : Nat) : rmA a ≤ 24 := by unfold rmA; split <;> omega
theorem s_rem {d : Nat} {h : Hp} {Q : Option AV → Hp → Prop} {a : Nat} (hN : hn h = 65) (hM : RM h) (ha : hi h 50 4 = nI a) (ha24 : a ≤ 24) (kk : Q none (seti (setw h 54 (rmW (hi h 54) a (hi h 51))) 50 4 (nI (rmA a)))) : Spec d 189 [vR (some 50)] h Q := by
  refine s_remembers hN hM ha ha24 (fun h1 => ?_) (fun h1 => ?_)
  · rw [rmW, rmA, if_pos h1, if_pos h1] at kk
    exact kk
  · subst h1
    rw [rmW, rmA, if_neg (by decide), if_neg (by decide)] at kk
    refine qh ?_ kk
    refine hp_ext rfl (fun p q => ?_) (fun p q => rfl)
    rw [hi_seti, hi_seti, hi_setw, hi_setw, hi_seti]
    by_cases h1 : p = 50 ∧ q = 4
    · rw [if_pos h1, if_pos h1]
    · rw [if_neg h1, if_neg h1, if_neg h1]
abbrev mk4 (h : Hp) (x w s : Nat → Int32) (a : Nat) : Hp := seti (setw (setw (setw h 60 x) 51 s) 54 w) 50 4 (nI a)
theorem mk4_rem (h : Hp) (x w s w' : Nat → Int32) (a a' : Nat) : seti (setw (mk4 h x w s a) 54 w') 50 4 (nI a') = mk4 h x w' s a' := by
  refine hp_ext rfl (fun p q => ?_) (fun p q => rfl)
  simp only [hi_seti, hi_setw]
  by_cases h1 : p = 50 ∧ q = 4
  · simp only [if_pos h1]
  · simp only [if_neg h1]
    by_cases h2 : p = 54
    · simp only [if_pos h2]
    · simp only [if_neg h2]
theorem mk4_min (h : Hp) (x w s x' s' : Nat → Int32) (a : Nat) : setw (setw (mk4 h x w s a) 60 x') 51 s' = mk4 h x' w s' a := by
  refine hp_ext rfl (fun p q => ?_) (fun p q => rfl)
  simp only [hi_seti, hi_setw]
  by_cases h2 : p = 51
  · subst h2; rfl
  · by_cases h3 : p = 60
    · subst h3; rfl
    · simp only [if_neg h2, if_neg h3]
theorem mk4_s (h : Hp) (x w s : Nat → Int32) (a j : Nat) (v : Int32) : seti (mk4 h x w s a) 51 j v = mk4 h x w (upd s j v) a := by
  refine hp_ext rfl (fun p q => ?_) (fun p q => rfl)
  simp only [hi_seti, hi_setw]
  by_cases h2 : p = 51
  · subst h2
    by_cases h3 : q = j
    · subst h3; simp [upd]
    · simp [upd, h3]
  · simp only [if_neg h2, h2, false_and, if_false]
theorem mk4_0 (h : Hp) (a : Nat) (ha : hi h 50 4 = nI a) : mk4 h (hi h 60) (hi h 54) (hi h 51) a = h := by
  refine hp_ext rfl (fun p q => ?_) (fun p q => rfl)
  simp only [hi_seti, hi_setw]
  by_cases h1 : p = 50 ∧ q = 4
  · rw [if_pos h1, h1.1, h1.2, ha]
  · rw [if_neg h1]
    by_cases h2 : p = 54
    · subst h2; rfl
    · by_cases h3 : p = 51
      · subst h3; rfl
      · by_cases h4 : p = 60
        · subst h4; rfl
        · simp only [if_neg h2, if_neg h3, if_neg h4]
def mA (a : Nat) : Nat → Nat
  | 0 => a
  | k + 1 => rmA (mA a k)
def mW (w s : Nat → Int32) (m L a : Nat) : Nat → Nat → Int32
  | 0 => w
  | k + 1 => rmW (mW w s m L a k) (mA a k) (gmN s m L k)
theorem mA_le {a : Nat} (ha : a ≤ 24) (k : Nat) : mA a k ≤ 24 := by
  cases k with
  | zero => exact ha
  | succ k => exact rmA_le _
theorem nI_of3 {x : Int32} {a b : Nat} (h : nI a ≤ x ∧ x ≤ nI b) (hb : b < 2 ^ 31) (ha : a ≤ b := by omega) : ∃ j : Nat, (a ≤ j ∧ j ≤ b) ∧ x = nI j := by
  have h0 : 0 ≤ x := Int32.le_trans (nI_pos' (by omega)) h.1
  obtain ⟨j, hj, rfl⟩ := nat_of h0 h.2 hb
  exact ⟨j, ⟨(nI_leI (by omega) (by omega)).mp h.1, hj⟩, rfl⟩
theorem M_minutes {d : Nat} {h : Hp} {Q : Option AV → Hp → Prop} {m L e a : Nat} {n : Int32} (hN : hn h = 65) (hM : RM h) (hc : Cnt (hi h 51) m L e) (ha : hi h 50 4 = nI a) (ha24 : a ≤ 24) (hsk : hi h 51 0 = 1 → ¬ hi h 51 3 = 0) (kS : ¬ hi h 51 0 = 1 → Q (some (vI (-1000002))) h) (kB : hi h 51 0 = 1 → ¬ (1 ≤ n ∧ n ≤ 24) → Q (some (vI (-1000001))) h)
    (kF : hi h 51 0 = 1 → (1 ≤ n ∧ n ≤ 24) → ¬ hi h 51 19 + n ≤ 400 → Q (some (vI (-1000003))) h)
    (kW : hi h 51 0 = 1 → ∀ k : Nat, 1 ≤ k → k ≤ 24 → n = nI k → hi h 51 19 + n ≤ 400 → ∀ x, Q (some (vI (gmN (hi h 51) m L k 19))) (mk4 h x (mW (hi h 54) (hi h 51) m L a k) (gmN (hi h 51) m L k) (mA a k))) : Spec (d + 4) 190 [vR (some 50), vI n] h Q := by
  obtain ⟨hc1, hc2, hc3, hc4, hc5, hc6⟩ := id hc
  refine spec_intro (by decide +kernel) rfl (Nat.le_of_ble_eq_true rfl) ?_
  refine r_aload_n (pc' := 1) d190_0 rfl rfl rfl ?_
  refine r_call (pc' := 4) [vR (some 50)] [] d190_1 rfl o190 st12_184_12 (rcv1 sh50 (pl hN rfl)) rfl (by decide) ⟨rfl, rfl⟩ (Nat.le_of_ble_eq_true rfl) rfl (s_isYard hN hM ?_)
  refine r_if_neB 10 (pc' := 7) d190_4 rfl rfl (fun c4 => ?_) (fun c4 => ?_)
  · refine r_iload_n (pc' := 11) d190_10 rfl rfl rfl ?_
    refine r_iconst (v := 1) (pc' := 12) d190_11 rfl (by decide) ?_
    refine r_bipush (v := 24) (pc' := 14) d190_12 rfl (by decide) ?_
    refine r_call (pc' := 17) [vI _, vI _, vI _] [] d190_14 rfl o190 st12_59 rcv0 rfl (by decide) ⟨rfl, rfl⟩ (Nat.le_of_ble_eq_true rfl) rfl (s_in ?_)
    refine r_if_neB 23 (pc' := 20) d190_17 rfl rfl (fun c17 => ?_) (fun c17 => ?_)
    · refine r_aload_n (pc' := 24) d190_23 rfl rfl rfl ?_
      refine r_getS (pc' := 27) d190_24 rfl o190 sf12_7_12 sh50 (pl hN rfl) (rfm0 hM) ?_
      refine r_bipush (v := 19) (pc' := 29) d190_27 rfl (by decide) ?_
      refine r_ialdN (pc' := 30) (j := 19) d190_29 rfl sh51 (pl hN rfl) rfl (by omega) (by decide) ?_
      refine r_iload_n (pc' := 31) d190_30 rfl rfl rfl ?_
      refine r_iadd (pc' := 32) d190_31 rfl ?_
      refine r_sipush (v := 400) (pc' := 35) d190_32 rfl (by decide) ?_
      refine r_icmp_le 41 (pc' := 38) d190_35 rfl rfl (fun c35 => ?_) (fun c35 => ?_)
      · obtain ⟨n, hn24, rfl⟩ := nI_of3 (a := 1) (b := 24) c17 (by decide)
        refine r_iconst (v := 0) (pc' := 42) d190_41 rfl (by decide) ?_
        refine r_istore_n (pc' := 43) (ls' := [(2, vI _), (0, vR (some 50)), (1, vI _)]) d190_42 rfl rfl (by decide) rfl ?_
        refine wp_pick (ls' := [(0, vR (some 50)), (1, vI _), (2, vI _)]) [1, 2, 0] rfl ?_
        have loop : ∀ (r k : Nat) (x : Nat → Int32), k + r = n → wp (d + 4) 190 Q 0 0 43 [(0, vR (some 50)), (1, vI (nI n)), (2, vI (nI k))] [] (mk4 h x (mW (hi h 54) (hi h 51) m L a k) (gmN (hi h 51) m L k) (mA a k)) := by
          intro r
          induction r with
          | zero =>
            intro k x hk
            obtain rfl : k = n := by omega
            refine r_iload_n (pc' := 44) d190_43 rfl rfl rfl ?_
            refine r_iload_n (pc' := 45) d190_44 rfl rfl rfl ?_
            refine r_icmp_ge 62 (pc' := 48) d190_45 rfl rfl (fun c45 => ?_) (fun c45 => absurd (nI_le (Nat.le_refl _) (by omega)) c45)
            refine r_aload_n (pc' := 63) d190_62 rfl rfl rfl ?_
            refine r_getS (pc' := 66) d190_63 rfl o190 sf12_7_12 sh50 (pl hN rfl) (rfm0 hM) ?_
            refine r_bipush (v := 19) (pc' := 68) d190_66 rfl (by decide) ?_
            refine r_ialdN (pc' := 69) (j := 19) d190_68 rfl sh51 (pl hN rfl) rfl (by omega) (by decide) ?_
            exact r_iretI d190_69 rfl (kW c4 k hn24.1 hn24.2 rfl c35 x)
          | succ r ih =>
            intro k x hk
            refine r_iload_n (pc' := 44) d190_43 rfl rfl rfl ?_
            refine r_iload_n (pc' := 45) d190_44 rfl rfl rfl ?_
            refine r_icmp_ge 62 (pc' := 48) d190_45 rfl rfl (fun c45 => absurd c45 (nI_ge (by omega) (by omega))) (fun c45 => ?_)
            refine r_aload_n (pc' := 49) d190_48 rfl rfl rfl ?_
            refine r_call (pc' := 52) [vR (some 50)] [] d190_49 rfl o190 st12_188_12 (rcv1 sh50 (pl hN rfl)) rfl (by decide) ⟨rfl, rfl⟩ (Nat.le_of_ble_eq_true rfl) rfl (s_rem (a := mA a k) hN hM rfl (mA_le ha24 k) ?_)
            refine wp_heap (h' := mk4 h x (rmW (mW (hi h 54) (hi h 51) m L a k) (mA a k) (gmN (hi h 51) m L k)) (gmN (hi h 51) m L k) (rmA (mA a k))) (mk4_rem _ _ _ _ _ _ _) ?_
            refine r_aload_n (pc' := 53) d190_52 rfl rfl rfl ?_
            refine r_call (pc' := 56) [vR (some 50)] [] d190_53 rfl o190 st12_191_12 (rcv1 sh50 (pl hN rfl)) rfl (by decide) ⟨rfl, rfl⟩ (Nat.le_of_ble_eq_true rfl) rfl (s_goMinute hN hM (hc.gm k) (by show ¬ gmN _ _ _ _ 3 = 0; rw [gmN_lo _ _ _ _ _ (by decide) (by decide) (by decide) hc.2.2.2.1]; exact hsk c4) (fun x2 => ?_))
            refine r_iinc (v := _ + 1) (pc' := 59) (ls' := [(2, vI _), (0, vR (some 50)), (1, vI _)]) d190_56 rfl rfl rfl (by decide) rfl ?_
            refine r_goto 43 d190_59 rfl ?_
            refine wp_pick (ls' := [(0, vR (some 50)), (1, vI _), (2, vI _)]) [1, 2, 0] rfl ?_
            refine wp_heap (h' := mk4 h x2 (rmW (mW (hi h 54) (hi h 51) m L a k) (mA a k) (gmN (hi h 51) m L k)) (gm (gmN (hi h 51) m L k) m L) (rmA (mA a k))) (mk4_min _ _ _ _ _ _ _) ?_
            rw [nI_1]
            exact ih (k + 1) x2 (by omega)
        refine wp_heap (h' := mk4 h (hi h 60) (hi h 54) (hi h 51) a) (mk4_0 h a ha).symm ?_
        exact loop n 0 (hi h 60) (by omega)
      · refine r_ldc (pc' := 40) d190_38 rfl o190 kc12_81 ?_
        exact r_iretI d190_40 rfl (kF c4 c17 c35)
    · refine r_ldc (pc' := 22) d190_20 rfl o190 kc12_67 ?_
      exact r_iretI d190_22 rfl (kB c4 c17)
  · refine r_ldc (pc' := 9) d190_7 rfl o190 kc12_187 ?_
    exact r_iretI d190_9 rfl (kS c4)
theorem rem_mk (h : Hp) (a : Nat) (ha : hi h 50 4 = nI a) : seti (setw h 54 (rmW (hi h 54) a (hi h 51))) 50 4 (nI (rmA a)) = mk4 h (hi h 60) (rmW (hi h 54) a (hi h 51)) (hi h 51) (rmA a) := by
  have w := mk4_rem h (hi h 60) (hi h 54) (hi h 51) (rmW (hi h 54) a (hi h 51)) a (rmA a)
  rw [mk4_0 h a ha] at w
  exact w
theorem M_turn {d : Nat} {h : Hp} {Q : Option AV → Hp → Prop} {m L e a : Nat} {t : Int32} (hN : hn h = 65) (hM : RM h) (hc : Cnt (hi h 51) m L e) (ha : hi h 50 4 = nI a) (ha24 : a ≤ 24) (kB : ¬ inR t m → Q (some (vI (-1000001))) h) (kS : ∀ j : Nat, j < m → t = nI j → goneI (hi h 51) j → Q (some (vI (-1000002))) h)
    (kW : ∀ j : Nat, j < m → t = nI j → ¬ goneI (hi h 51) j → Q (some (vI (1 - hi h 51 (69 + j)))) (mk4 h (hi h 60) (rmW (hi h 54) a (hi h 51)) (upd (hi h 51) (69 + j) (1 - hi h 51 (69 + j))) (rmA a))) : Spec (d + 2) 191 [vR (some 50), vI t] h Q := by
  obtain ⟨hc1, hc2, hc3, hc4, hc5, hc6⟩ := id hc
  refine spec_intro (by decide +kernel) rfl (Nat.le_of_ble_eq_true rfl) ?_
  refine r_aload_n (pc' := 1) d191_0 rfl rfl rfl ?_
  refine r_iload_n (pc' := 2) d191_1 rfl rfl rfl ?_
  refine r_call (pc' := 5) [vR (some 50), vI _] [] d191_2 rfl o191 st12_194_12 (rcv1 sh50 (pl hN rfl)) rfl (by decide) ⟨rfl, rfl⟩ (Nat.le_of_ble_eq_true rfl) rfl (s_isThingC hN hM hc ?_)
  refine r_if_neB 11 (pc' := 8) d191_5 rfl rfl (fun c5 => ?_) (fun c5 => ?_)
  · obtain ⟨j, hj, rfl⟩ := inR_of c5 (by omega)
    refine r_aload_n (pc' := 12) d191_11 rfl rfl rfl ?_
    refine r_iload_n (pc' := 13) d191_12 rfl rfl rfl ?_
    refine r_call (pc' := 16) [vR (some 50), vI _] [] d191_13 rfl o191 st12_178_12 (rcv1 sh50 (pl hN rfl)) rfl (by decide) ⟨rfl, rfl⟩ (Nat.le_of_ble_eq_true rfl) rfl (s_isGone hN hM (by omega) ?_)
    refine r_if_eqB 22 (pc' := 19) d191_16 rfl rfl (fun c16 => ?_) (fun c16 => ?_)
    · refine r_aload_n (pc' := 23) d191_22 rfl rfl rfl ?_
      refine r_call (pc' := 26) [vR (some 50)] [] d191_23 rfl o191 st12_188_12 (rcv1 sh50 (pl hN rfl)) rfl (by decide) ⟨rfl, rfl⟩ (Nat.le_of_ble_eq_true rfl) rfl (s_rem hN hM ha ha24 ?_)
      refine wp_heap (h' := (mk4 h (hi h 60) (rmW (hi h 54) a (hi h 51)) (hi h 51) (rmA a))) (rem_mk h a ha) ?_
      refine r_aload_n (pc' := 27) d191_26 rfl rfl rfl ?_
      refine r_getS (pc' := 30) d191_27 rfl o191 sf12_7_12 sh50 (pl hN rfl) (rfm0 hM) ?_
      refine r_bipush (v := 69) (pc' := 32) d191_30 rfl (by decide) ?_
      refine r_iload_n (pc' := 33) d191_32 rfl rfl rfl ?_
      refine r_iadd (pc' := 34) d191_33 rfl ?_
      refine r_iconst (v := 1) (pc' := 35) d191_34 rfl (by decide) ?_
      refine r_aload_n (pc' := 36) d191_35 rfl rfl rfl ?_
      refine r_getS (pc' := 39) d191_36 rfl o191 sf12_7_12 sh50 (pl hN rfl) (rfm0 hM) ?_
      refine r_bipush (v := 69) (pc' := 41) d191_39 rfl (by decide) ?_
      refine r_iload_n (pc' := 42) d191_41 rfl rfl rfl ?_
      refine r_iadd (pc' := 43) d191_42 rfl ?_
      refine r_ialdN (pc' := 44) (j := (69 + j)) d191_43 rfl sh51 (pl hN rfl) (by simp only [lit, nI_add, pk_mul]) (by omega) (by decide) ?_
      refine r_isub (pc' := 45) d191_44 rfl ?_
      refine r_iastN (pc' := 46) (j := (69 + j)) d191_45 rfl sh51 (pl hN rfl) (by simp only [lit, nI_add, pk_mul]) (by omega) (by decide) ?_
      refine r_aload_n (pc' := 47) d191_46 rfl rfl rfl ?_
      refine r_getS (pc' := 50) d191_47 rfl o191 sf12_7_12 sh50 (pl hN rfl) (rfm0 hM) ?_
      refine r_bipush (v := 69) (pc' := 52) d191_50 rfl (by decide) ?_
      refine r_iload_n (pc' := 53) d191_52 rfl rfl rfl ?_
      refine r_iadd (pc' := 54) d191_53 rfl ?_
      refine r_ialdN (pc' := 55) (j := (69 + j)) d191_54 rfl sh51 (pl hN rfl) (by simp only [lit, nI_add, pk_mul]) (by omega) (by decide) ?_
      exact r_iretI d191_55 rfl (qh (mk4_s _ _ _ _ _ _ _).symm (qv (by rw [mk4_s]; exact (upd_at _ _ _).symm) (kW j hj rfl c16)))
    · refine r_ldc (pc' := 21) d191_19 rfl o191 kc12_187 ?_
      exact r_iretI d191_21 rfl (kS j hj rfl c16)
  · refine r_ldc (pc' := 10) d191_8 rfl o191 kc12_67 ?_
    exact r_iretI d191_10 rfl (kB c5)
theorem M_move {d : Nat} {h : Hp} {Q : Option AV → Hp → Prop} {m L e a : Nat} {t cell : Int32} (hN : hn h = 65) (hM : RM h) (hc : Cnt (hi h 51) m L e) (ha : hi h 50 4 = nI a) (ha24 : a ≤ 24) (kB : (¬ inR t m ∨ ¬ (0 ≤ cell ∧ cell ≤ 12)) → Q (some (vI (-1000001))) h)
    (kS : ∀ j : Nat, j < m → t = nI j → (0 ≤ cell ∧ cell ≤ 12) → (goneI (hi h 51) j ∨ takI (hi h 51) m j cell) → Q (some (vI (-1000002))) h)
    (kW : ∀ j : Nat, j < m → t = nI j → (0 ≤ cell ∧ cell ≤ 12) → ¬ goneI (hi h 51) j → ¬ takI (hi h 51) m j cell → Q (some (vI (hi h 51 (45 + j)))) (mk4 h (hi h 60) (rmW (hi h 54) a (hi h 51)) (upd (hi h 51) (45 + j) cell) (rmA a))) : Spec (d + 2) 193 [vR (some 50), vI t, vI cell] h Q := by
  obtain ⟨hc1, hc2, hc3, hc4, hc5, hc6⟩ := id hc
  refine spec_intro (by decide +kernel) rfl (Nat.le_of_ble_eq_true rfl) ?_
  refine r_aload_n (pc' := 1) d193_0 rfl rfl rfl ?_
  refine r_iload_n (pc' := 2) d193_1 rfl rfl rfl ?_
  refine r_call (pc' := 5) [vR (some 50), vI _] [] d193_2 rfl o193 st12_194_12 (rcv1 sh50 (pl hN rfl)) rfl (by decide) ⟨rfl, rfl⟩ (Nat.le_of_ble_eq_true rfl) rfl (s_isThingC hN hM hc ?_)
  refine r_if_eqB 18 (pc' := 8) d193_5 rfl rfl (fun c5 => ?_) (fun c5 => ?_)
  · refine r_ldc (pc' := 20) d193_18 rfl o193 kc12_67 ?_
    exact r_iretI d193_20 rfl (kB (by first | exact Or.inl c5 | exact Or.inr c15))
  · refine r_iload_n (pc' := 9) d193_8 rfl rfl rfl ?_
    refine r_iconst (v := 0) (pc' := 10) d193_9 rfl (by decide) ?_
    refine r_bipush (v := 12) (pc' := 12) d193_10 rfl (by decide) ?_
    refine r_call (pc' := 15) [vI _, vI _, vI _] [] d193_12 rfl o193 st12_59 rcv0 rfl (by decide) ⟨rfl, rfl⟩ (Nat.le_of_ble_eq_true rfl) rfl (s_in ?_)
    refine r_if_neB 21 (pc' := 18) d193_15 rfl rfl (fun c15 => ?_) (fun c15 => ?_)
    · obtain ⟨j, hj, rfl⟩ := inR_of c5 (by omega)
      refine r_aload_n (pc' := 22) d193_21 rfl rfl rfl ?_
      refine r_iload_n (pc' := 23) d193_22 rfl rfl rfl ?_
      refine r_call (pc' := 26) [vR (some 50), vI _] [] d193_23 rfl o193 st12_178_12 (rcv1 sh50 (pl hN rfl)) rfl (by decide) ⟨rfl, rfl⟩ (Nat.le_of_ble_eq_true rfl) rfl (s_isGone hN hM (by omega) ?_)
      refine r_if_neB 38 (pc' := 29) d193_26 rfl rfl (fun c26 => ?_) (fun c26 => ?_)
      · refine r_ldc (pc' := 40) d193_38 rfl o193 kc12_187 ?_
        exact r_iretI d193_40 rfl (kS j hj rfl c15 (by first | exact Or.inl c26 | exact Or.inr c35))
      · refine r_aload_n (pc' := 30) d193_29 rfl rfl rfl ?_
        refine r_iload_n (pc' := 31) d193_30 rfl rfl rfl ?_
        refine r_iload_n (pc' := 32) d193_31 rfl rfl rfl ?_
        refine r_call (pc' := 35) [vR (some 50), vI _, vI _] [] d193_32 rfl o193 st12_197_12 (rcv1 sh50 (pl hN rfl)) rfl (by decide) ⟨rfl, rfl⟩ (Nat.le_of_ble_eq_true rfl) rfl (s_isTaken hN hM hc (by omega) ?_)
        refine r_if_eqB 41 (pc' := 38) d193_35 rfl rfl (fun c35 => ?_) (fun c35 => ?_)
        · refine r_aload_n (pc' := 42) d193_41 rfl rfl rfl ?_
          refine r_call (pc' := 45) [vR (some 50)] [] d193_42 rfl o193 st12_188_12 (rcv1 sh50 (pl hN rfl)) rfl (by decide) ⟨rfl, rfl⟩ (Nat.le_of_ble_eq_true rfl) rfl (s_rem hN hM ha ha24 ?_)
          refine wp_heap (h' := (mk4 h (hi h 60) (rmW (hi h 54) a (hi h 51)) (hi h 51) (rmA a))) (rem_mk h a ha) ?_
          refine r_aload_n (pc' := 46) d193_45 rfl rfl rfl ?_
          refine r_getS (pc' := 49) d193_46 rfl o193 sf12_7_12 sh50 (pl hN rfl) (rfm0 hM) ?_
          refine r_bipush (v := 45) (pc' := 51) d193_49 rfl (by decide) ?_
          refine r_iload_n (pc' := 52) d193_51 rfl rfl rfl ?_
          refine r_iadd (pc' := 53) d193_52 rfl ?_
          refine r_ialdN (pc' := 54) (j := (45 + j)) d193_53 rfl sh51 (pl hN rfl) (by simp only [lit, nI_add, pk_mul]) (by omega) (by decide) ?_
          refine r_istore_n (pc' := 55) (ls' := [(3, vI _), (0, vR (some 50)), (1, vI _), (2, vI _)]) d193_54 rfl rfl (by decide) rfl ?_
          refine r_aload_n (pc' := 56) d193_55 rfl rfl rfl ?_
          refine r_getS (pc' := 59) d193_56 rfl o193 sf12_7_12 sh50 (pl hN rfl) (rfm0 hM) ?_
          refine r_bipush (v := 45) (pc' := 61) d193_59 rfl (by decide) ?_
          refine r_iload_n (pc' := 62) d193_61 rfl rfl rfl ?_
          refine r_iadd (pc' := 63) d193_62 rfl ?_
          refine r_iload_n (pc' := 64) d193_63 rfl rfl rfl ?_
          refine r_iastN (pc' := 65) (j := (45 + j)) d193_64 rfl sh51 (pl hN rfl) (by simp only [lit, nI_add, pk_mul]) (by omega) (by decide) ?_
          refine r_iload_n (pc' := 66) d193_65 rfl rfl rfl ?_
          exact r_iretI d193_66 rfl (qh (mk4_s _ _ _ _ _ _ _).symm (kW j hj rfl c15 c26 c35))
        · refine r_ldc (pc' := 40) d193_38 rfl o193 kc12_187 ?_
          exact r_iretI d193_40 rfl (kS j hj rfl c15 (by first | exact Or.inl c26 | exact Or.inr c35))
    · refine r_ldc (pc' := 20) d193_18 rfl o193 kc12_67 ?_
      exact r_iretI d193_20 rfl (kB (by first | exact Or.inl c5 | exact Or.inr c15))
