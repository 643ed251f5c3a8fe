/-! the reference: what is kept, put back, gone on with; small questions (printed by wip/whole/m39.py) -/
theorem mixv (g f : Nat → Int32) (lo k : Nat) {v : Int32} (hv : v = g (lo + k)) : upd (mix g f lo k) (lo + k) v = mix g f lo (k + 1) := by
  subst hv
  exact mix_s g f lo k
def gmN (s : Nat → Int32) (m L : Nat) : Nat → Nat → Int32
  | 0 => s
  | k + 1 => gm (gmN s m L k) m L
theorem gm_lo (s : Nat → Int32) (m L i : Nat) (h1 : i < 51) (h2 : i ≠ 19) (h3 : ¬ (29 ≤ i ∧ i < 45)) (hL : L ≤ 8) : gm s m L i = s i := by
  unfold gm
  rw [upd_ne _ _ _ h2, cL_out _ _ _ _ (by omega) (by omega), thL_lo _ _ _ _ h1]
theorem gmN_lo (s : Nat → Int32) (m L k i : Nat) (h1 : i < 51) (h2 : i ≠ 19) (h3 : ¬ (29 ≤ i ∧ i < 45)) (hL : L ≤ 8) : gmN s m L k i = s i := by
  induction k with
  | zero => rfl
  | succ k ih => unfold gmN; rw [gm_lo _ _ _ _ h1 h2 h3 hL, ih]
theorem Cnt.gm {s : Nat → Int32} {m L e : Nat} (h : Cnt s m L e) (k : Nat) : Cnt (gmN s m L k) m L e := by
  obtain ⟨h1, h2, h3, h4, h5, h6⟩ := h
  refine ⟨?_, h2, ?_, h4, ?_, h6⟩
  · rw [gmN_lo _ _ _ _ _ (by decide) (by decide) (by decide) h4, h1]
  · rw [gmN_lo _ _ _ _ _ (by decide) (by decide) (by decide) h4, h3]
  · rw [gmN_lo _ _ _ _ _ (by decide) (by decide) (by decide) h4, h5]
theorem gT_hi (s : Nat → Int32) (H : Int32) (t i : Nat) (ht : t < 6) (hi0 : 81 ≤ i) : gT s H t i = s i := by
  unfold gT
  rw [upd_ne _ _ _ (by omega), upd_ne _ _ _ (by omega), upd_ne _ _ _ (by omega), upd_ne _ _ _ (by omega)]
theorem thL_hi (s Hf : Nat → Int32) (k i : Nat) (hk : k ≤ 6) (hi0 : 81 ≤ i) : thL s Hf k i = s i := by
  induction k with
  | zero => rfl
  | succ k ih =>
    unfold thL
    split
    · exact ih (by omega)
    · rw [gT_hi _ _ _ _ (by omega) hi0]; exact ih (by omega)
theorem gm_hi (s : Nat → Int32) (m L i : Nat) (hm : m ≤ 6) (hL : L ≤ 8) (h1 : 81 ≤ i) : gm s m L i = s i := by
  unfold gm
  rw [upd_ne _ _ _ (by omega), cL_out _ _ _ _ (by omega) (by omega), thL_hi _ _ _ _ hm h1]
theorem gmN_hi (s : Nat → Int32) (m L k i : Nat) (hm : m ≤ 6) (hL : L ≤ 8) (h1 : 81 ≤ i) : gmN s m L k i = s i := by
  induction k with
  | zero => rfl
  | succ k ih => unfold gmN; rw [gm_hi _ _ _ _ hm hL h1, ih]
theorem s_holds {d : Nat} {h : Hp} {Q : Option AV → Hp → Prop} (hN : hn h = 65) (hM : RM h) (kk : Q none (setw h 61 (mix (fun i => hi h 51 (19 + i)) (hi h 61) 0 66))) : Spec d 206 [vR (some 50)] h Q := by
  refine spec_intro (by decide +kernel) rfl (Nat.le_of_ble_eq_true rfl) ?_
  refine r_iconst (v := 0) (pc' := 1) d206_0 rfl (by decide) ?_
  refine r_istore_n (pc' := 2) (ls' := [(1, vI _), (0, vR (some 50))]) d206_1 rfl rfl (by decide) rfl ?_
  refine wp_pick (ls' := [(0, vR (some 50)), (1, vI _)]) [1, 0] rfl ?_
  have loop : ∀ (r k : Nat), k + r = 66 → wp d 206 Q 0 0 2 [(0, vR (some 50)), (1, vI (nI k))] [] (setw h 61 (mix (fun i => hi h 51 (19 + i)) (hi h 61) 0 k)) := by
    intro r
    induction r with
    | zero =>
      intro k hk
      obtain rfl : k = 66 := by omega
      refine r_iload_n (pc' := 3) d206_2 rfl rfl rfl ?_
      refine r_bipush (v := 66) (pc' := 5) d206_3 rfl (by decide) ?_
      refine r_icmp_ge 29 (pc' := 8) d206_5 rfl rfl (fun c5 => ?_) (fun c5 => absurd (by decide) c5)
      exact r_ret d206_29 rfl kk
    | succ r ih =>
      intro k hk
      refine r_iload_n (pc' := 3) d206_2 rfl rfl rfl ?_
      refine r_bipush (v := 66) (pc' := 5) d206_3 rfl (by decide) ?_
      refine r_icmp_ge 29 (pc' := 8) d206_5 rfl rfl (fun c5 => absurd c5 (nI_ge (a := k) (b := 66) (by omega) (by decide))) (fun c5 => ?_)
      refine r_aload_n (pc' := 9) d206_8 rfl rfl rfl ?_
      refine r_getS (pc' := 12) d206_9 rfl o206 sf12_41_12 sh50 (pl hN rfl) (rfm19 hM) ?_
      refine r_iload_n (pc' := 13) d206_12 rfl rfl rfl ?_
      refine r_aload_n (pc' := 14) d206_13 rfl rfl rfl ?_
      refine r_getS (pc' := 17) d206_14 rfl o206 sf12_7_12 sh50 (pl hN rfl) (rfm0 hM) ?_
      refine r_bipush (v := 19) (pc' := 19) d206_17 rfl (by decide) ?_
      refine r_iload_n (pc' := 20) d206_19 rfl rfl rfl ?_
      refine r_iadd (pc' := 21) d206_20 rfl ?_
      refine r_ialdN (pc' := 22) (j := (19 + k)) d206_21 rfl sh51 (pl hN rfl) (by simp only [lit, nI_add, pk_mul]) (by omega) (by decide) ?_
      refine r_iastN (pc' := 23) (j := k) d206_22 rfl sh61 (pl hN rfl) rfl (by omega) (by decide) ?_
      refine r_iinc (v := _ + 1) (pc' := 26) (ls' := [(1, vI _), (0, vR (some 50))]) d206_23 rfl rfl rfl (by decide) rfl ?_
      refine r_goto 2 d206_26 rfl ?_
      refine wp_pick (ls' := [(0, vR (some 50)), (1, vI _)]) [1, 0] rfl ?_
      refine wp_heap (h' := (setw h 61 (mix (fun i => hi h 51 (19 + i)) (hi h 61) 0 (k + 1)))) ((seti_setw _ _ _ _ _).trans (congrArg (setw _ _) (mix0_v (fun i => hi h 51 (19 + i)) (hi h 61) k rfl))) ?_
      rw [nI_1]
      exact ih (k + 1) (by omega)
  refine wp_heap (h' := (setw h 61 (mix (fun i => hi h 51 (19 + i)) (hi h 61) 0 0))) (by rw [mix_0]; exact (setw_self _ 61).symm) ?_
  exact loop 66 0 rfl
theorem s_putsBack {d : Nat} {h : Hp} {Q : Option AV → Hp → Prop} (hN : hn h = 65) (hM : RM h) (kk : Q none (setw h 51 (mix (fun i => hi h 61 (i - 19)) (hi h 51) 19 66))) : Spec d 207 [vR (some 50)] h Q := by
  refine spec_intro (by decide +kernel) rfl (Nat.le_of_ble_eq_true rfl) ?_
  refine r_iconst (v := 0) (pc' := 1) d207_0 rfl (by decide) ?_
  refine r_istore_n (pc' := 2) (ls' := [(1, vI _), (0, vR (some 50))]) d207_1 rfl rfl (by decide) rfl ?_
  refine wp_pick (ls' := [(0, vR (some 50)), (1, vI _)]) [1, 0] rfl ?_
  have loop : ∀ (r k : Nat), k + r = 66 → wp d 207 Q 0 0 2 [(0, vR (some 50)), (1, vI (nI k))] [] (setw h 51 (mix (fun i => hi h 61 (i - 19)) (hi h 51) 19 k)) := by
    intro r
    induction r with
    | zero =>
      intro k hk
      obtain rfl : k = 66 := by omega
      refine r_iload_n (pc' := 3) d207_2 rfl rfl rfl ?_
      refine r_bipush (v := 66) (pc' := 5) d207_3 rfl (by decide) ?_
      refine r_icmp_ge 29 (pc' := 8) d207_5 rfl rfl (fun c5 => ?_) (fun c5 => absurd (by decide) c5)
      exact r_ret d207_29 rfl kk
    | succ r ih =>
      intro k hk
      refine r_iload_n (pc' := 3) d207_2 rfl rfl rfl ?_
      refine r_bipush (v := 66) (pc' := 5) d207_3 rfl (by decide) ?_
      refine r_icmp_ge 29 (pc' := 8) d207_5 rfl rfl (fun c5 => absurd c5 (nI_ge (a := k) (b := 66) (by omega) (by decide))) (fun c5 => ?_)
      refine r_aload_n (pc' := 9) d207_8 rfl rfl rfl ?_
      refine r_getS (pc' := 12) d207_9 rfl o207 sf12_7_12 sh50 (pl hN rfl) (rfm0 hM) ?_
      refine r_bipush (v := 19) (pc' := 14) d207_12 rfl (by decide) ?_
      refine r_iload_n (pc' := 15) d207_14 rfl rfl rfl ?_
      refine r_iadd (pc' := 16) d207_15 rfl ?_
      refine r_aload_n (pc' := 17) d207_16 rfl rfl rfl ?_
      refine r_getS (pc' := 20) d207_17 rfl o207 sf12_41_12 sh50 (pl hN rfl) (rfm19 hM) ?_
      refine r_iload_n (pc' := 21) d207_20 rfl rfl rfl ?_
      refine r_ialdN (pc' := 22) (j := k) d207_21 rfl sh61 (pl hN rfl) rfl (by omega) (by decide) ?_
      refine r_iastN (pc' := 23) (j := (19 + k)) d207_22 rfl sh51 (pl hN rfl) (by simp only [lit, nI_add, pk_mul]) (by omega) (by decide) ?_
      refine r_iinc (v := _ + 1) (pc' := 26) (ls' := [(1, vI _), (0, vR (some 50))]) d207_23 rfl rfl rfl (by decide) rfl ?_
      refine r_goto 2 d207_26 rfl ?_
      refine wp_pick (ls' := [(0, vR (some 50)), (1, vI _)]) [1, 0] rfl ?_
      refine wp_heap (h' := (setw h 51 (mix (fun i => hi h 61 (i - 19)) (hi h 51) 19 (k + 1)))) ((seti_setw _ _ _ _ _).trans (congrArg (setw _ _) (mixv (fun i => hi h 61 (i - 19)) (hi h 51) 19 k (by show hi h 61 k = hi h 61 (19 + k - 19); rw [Nat.add_sub_cancel_left])))) ?_
      rw [nI_1]
      exact ih (k + 1) (by omega)
  refine wp_heap (h' := (setw h 51 (mix (fun i => hi h 61 (i - 19)) (hi h 51) 19 0))) (by rw [mix_0]; exact (setw_self _ 51).symm) ?_
  exact loop 66 0 rfl
def shL (w : Nat → Int32) : Nat → Int32 := mix (fun i => w (i + 66)) w 0 1518
theorem shL_s (w : Nat → Int32) (k : Nat) (hk : k < 1518) : upd (mix (fun i => w (i + 66)) w 0 k) k (mix (fun i => w (i + 66)) w 0 k (k + 66)) = mix (fun i => w (i + 66)) w 0 (k + 1) := by
  apply mix0_v
  exact mix_out _ _ (by omega)
theorem s_remembers {d : Nat} {h : Hp} {Q : Option AV → Hp → Prop} {a : Nat} (hN : hn h = 65) (hM : RM h) (ha : hi h 50 4 = nI a) (ha24 : a ≤ 24)
    (k1 : a < 24 → Q none (seti (setw h 54 (mix (fun i => hi h 51 (19 + (i - 66 * a))) (hi h 54) (66 * a) 66)) 50 4 (nI (a + 1))))
    (k2 : a = 24 → Q none (seti (setw (seti h 50 4 (nI 23)) 54 (mix (fun i => hi h 51 (19 + (i - 66 * 23))) (shL (hi h 54)) (66 * 23) 66)) 50 4 (nI 24))) : Spec d 189 [vR (some 50)] h Q := by
  refine spec_intro (by decide +kernel) rfl (Nat.le_of_ble_eq_true rfl) ?_
  refine r_aload_n (pc' := 1) d189_0 rfl rfl rfl ?_
  refine r_getI (pc' := 4) d189_1 rfl o189 sf12_147_12 sh50 (pl hN rfl) ?_
  refine wp_v ha ?_
  refine r_bipush (v := 24) (pc' := 6) d189_4 rfl (by decide) ?_
  refine r_icmp_ne 49 (pc' := 9) d189_6 rfl rfl (fun c6 => ?_) (fun c6 => ?_)
  · refine r_iconst (v := 0) (pc' := 50) d189_49 rfl (by decide) ?_
    refine r_istore_n (pc' := 51) (ls' := [(1, vI _), (0, vR (some 50))]) d189_50 rfl rfl (by decide) rfl ?_
    have ha23 : a < 24 := by
      rcases Nat.lt_or_ge a 24 with q | q
      · exact q
      · exact absurd (show nI a = nI 24 by rw [show a = 24 by omega]) c6
    refine wp_pick (ls' := [(0, vR (some 50)), (1, vI _)]) [1, 0] rfl ?_
    have loop2 : ∀ (r k : Nat), k + r = 66 → wp d 189 Q 0 0 51 [(0, vR (some 50)), (1, vI (nI k))] [] (setw h 54 (mix (fun i => hi h 51 (19 + (i - 66 * a))) (hi h 54) (66 * a) k)) := by
      intro r
      induction r with
      | zero =>
        intro k hk
        obtain rfl : k = 66 := by omega
        refine r_iload_n (pc' := 52) d189_51 rfl rfl rfl ?_
        refine r_bipush (v := 66) (pc' := 54) d189_52 rfl (by decide) ?_
        refine r_icmp_ge 86 (pc' := 57) d189_54 rfl rfl (fun c54 => ?_) (fun c54 => absurd (by decide) c54)
        refine r_aload_n (pc' := 87) d189_86 rfl rfl rfl ?_
        refine r_dupR (pc' := 88) d189_87 rfl ?_
        refine r_getI (pc' := 91) d189_88 rfl o189 sf12_147_12 sh50 (pl hN rfl) ?_
        refine wp_v ha ?_
        refine r_iconst (v := 1) (pc' := 92) d189_91 rfl (by decide) ?_
        refine r_iadd (pc' := 93) d189_92 rfl ?_
        refine r_putI (pc' := 96) d189_93 rfl o189 sp12_147_12 sh50 (fun w => absurd w (by decide)) (Or.inl rfl) (pl hN rfl) ?_
        exact r_ret d189_96 rfl (qh (congrArg (seti _ 50 4) (nI_1 a).symm) (k1 ha23))
      | succ r ih =>
        intro k hk
        refine r_iload_n (pc' := 52) d189_51 rfl rfl rfl ?_
        refine r_bipush (v := 66) (pc' := 54) d189_52 rfl (by decide) ?_
        refine r_icmp_ge 86 (pc' := 57) d189_54 rfl rfl (fun c54 => absurd c54 (nI_ge (a := k) (b := 66) (by omega) (by decide))) (fun c54 => ?_)
        refine r_aload_n (pc' := 58) d189_57 rfl rfl rfl ?_
        refine r_getS (pc' := 61) d189_58 rfl o189 sf12_20_12 sh50 (pl hN rfl) (rfm3 hM) ?_
        refine r_bipush (v := 66) (pc' := 63) d189_61 rfl (by decide) ?_
        refine r_aload_n (pc' := 64) d189_63 rfl rfl rfl ?_
        refine r_getI (pc' := 67) d189_64 rfl o189 sf12_147_12 sh50 (pl hN rfl) ?_
        refine wp_v ha ?_
        refine r_imul (pc' := 68) d189_67 rfl ?_
        refine r_iload_n (pc' := 69) d189_68 rfl rfl rfl ?_
        refine r_iadd (pc' := 70) d189_69 rfl ?_
        refine r_aload_n (pc' := 71) d189_70 rfl rfl rfl ?_
        refine r_getS (pc' := 74) d189_71 rfl o189 sf12_7_12 sh50 (pl hN rfl) (rfm0 hM) ?_
        refine r_bipush (v := 19) (pc' := 76) d189_74 rfl (by decide) ?_
        refine r_iload_n (pc' := 77) d189_76 rfl rfl rfl ?_
        refine r_iadd (pc' := 78) d189_77 rfl ?_
        refine r_ialdN (pc' := 79) (j := (19 + k)) d189_78 rfl sh51 (pl hN rfl) (by simp only [lit, nI_add, pk_mul]) (by omega) (by decide) ?_
        refine r_iastN (pc' := 80) (j := ((66 * a) + k)) d189_79 rfl sh54 (pl hN rfl) (by simp only [lit, nI_add, pk_mul]) (by omega) (by decide) ?_
        refine r_iinc (v := _ + 1) (pc' := 83) (ls' := [(1, vI _), (0, vR (some 50))]) d189_80 rfl rfl rfl (by decide) rfl ?_
        refine r_goto 51 d189_83 rfl ?_
        refine wp_pick (ls' := [(0, vR (some 50)), (1, vI _)]) [1, 0] rfl ?_
        refine wp_heap (h' := (setw h 54 (mix (fun i => hi h 51 (19 + (i - 66 * a))) (hi h 54) (66 * a) (k + 1)))) ((seti_setw _ _ _ _ _).trans (congrArg (setw _ _) (mixv (fun i => hi h 51 (19 + (i - 66 * a))) (hi h 54) (66 * a) k (by show hi h 51 (19 + k) = hi h 51 (19 + (66 * a + k - 66 * a)); rw [Nat.add_sub_cancel_left])))) ?_
        rw [nI_1]
        exact ih (k + 1) (by omega)
    refine wp_heap (h' := (setw h 54 (mix (fun i => hi h 51 (19 + (i - 66 * a))) (hi h 54) (66 * a) 0))) (by first | (rw [mix_0]; done) | (rw [mix_0]; exact (setw_self _ 54).symm)) ?_
    exact loop2 66 0 rfl
  · obtain rfl : a = 24 := (nI_eq (by omega) (by decide)).mp c6
    refine r_iconst (v := 0) (pc' := 10) d189_9 rfl (by decide) ?_
    refine r_istore_n (pc' := 11) (ls' := [(1, vI _), (0, vR (some 50))]) d189_10 rfl rfl (by decide) rfl ?_
    refine wp_pick (ls' := [(0, vR (some 50)), (1, vI _)]) [1, 0] rfl ?_
    have loop : ∀ (r k : Nat), k + r = 1518 → wp d 189 Q 0 0 11 [(0, vR (some 50)), (1, vI (nI k))] [] (setw h 54 (mix (fun i => hi h 54 (i + 66)) (hi h 54) 0 k)) := by
      intro r
      induction r with
      | zero =>
        intro k hk
        obtain rfl : k = 1518 := by omega
        refine r_iload_n (pc' := 12) d189_11 rfl rfl rfl ?_
        refine r_sipush (v := 1518) (pc' := 15) d189_12 rfl (by decide) ?_
        refine r_icmp_ge 39 (pc' := 18) d189_15 rfl rfl (fun c15 => ?_) (fun c15 => absurd (by decide) c15)
        refine r_aload_n (pc' := 40) d189_39 rfl rfl rfl ?_
        refine r_dupR (pc' := 41) d189_40 rfl ?_
        refine r_getI (pc' := 44) d189_41 rfl o189 sf12_147_12 sh50 (pl hN rfl) ?_
        refine wp_v ha ?_
        refine r_iconst (v := 1) (pc' := 45) d189_44 rfl (by decide) ?_
        refine r_isub (pc' := 46) d189_45 rfl ?_
        refine r_putI (pc' := 49) d189_46 rfl o189 sp12_147_12 sh50 (fun w => absurd w (by decide)) (Or.inl rfl) (pl hN rfl) ?_
        refine r_iconst (v := 0) (pc' := 50) d189_49 rfl (by decide) ?_
        refine r_istore_n (pc' := 51) (ls' := [(1, vI _), (0, vR (some 50))]) d189_50 rfl rfl (by decide) rfl ?_
        refine wp_heap (h' := setw (seti h 50 4 (nI 23)) 54 (shL (hi h 54))) (by refine hp_ext rfl (fun x y => ?_) (fun x y => rfl); rw [hi_seti, hi_setw, hi_setw, hi_seti]; by_cases hx : x = 54; (subst hx; rfl); (simp only [hx, if_false]; rfl)) ?_
        refine wp_pick (ls' := [(0, vR (some 50)), (1, vI _)]) [1, 0] rfl ?_
        have loop2 : ∀ (r k : Nat), k + r = 66 → wp d 189 Q 0 0 51 [(0, vR (some 50)), (1, vI (nI k))] [] (setw (seti h 50 4 (nI 23)) 54 (mix (fun i => hi h 51 (19 + (i - 66 * 23))) (shL (hi h 54)) (66 * 23) k)) := by
          intro r
          induction r with
          | zero =>
            intro k hk
            obtain rfl : k = 66 := by omega
            refine r_iload_n (pc' := 52) d189_51 rfl rfl rfl ?_
            refine r_bipush (v := 66) (pc' := 54) d189_52 rfl (by decide) ?_
            refine r_icmp_ge 86 (pc' := 57) d189_54 rfl rfl (fun c54 => ?_) (fun c54 => absurd (by decide) c54)
            refine r_aload_n (pc' := 87) d189_86 rfl rfl rfl ?_
            refine r_dupR (pc' := 88) d189_87 rfl ?_
            refine r_getI (pc' := 91) d189_88 rfl o189 sf12_147_12 sh50 (pl hN rfl) ?_
            refine wp_v (show hi _ 50 4 = nI 23 from rfl) ?_
            refine r_iconst (v := 1) (pc' := 92) d189_91 rfl (by decide) ?_
            refine r_iadd (pc' := 93) d189_92 rfl ?_
            refine r_putI (pc' := 96) d189_93 rfl o189 sp12_147_12 sh50 (fun w => absurd w (by decide)) (Or.inl rfl) (pl hN rfl) ?_
            exact r_ret d189_96 rfl (qh (congrArg (seti _ 50 4) (nI_1 23).symm) (k2 rfl))
          | succ r ih =>
            intro k hk
            refine r_iload_n (pc' := 52) d189_51 rfl rfl rfl ?_
            refine r_bipush (v := 66) (pc' := 54) d189_52 rfl (by decide) ?_
            refine r_icmp_ge 86 (pc' := 57) d189_54 rfl rfl (fun c54 => absurd c54 (nI_ge (a := k) (b := 66) (by omega) (by decide))) (fun c54 => ?_)
            refine r_aload_n (pc' := 58) d189_57 rfl rfl rfl ?_
            refine r_getS (pc' := 61) d189_58 rfl o189 sf12_20_12 sh50 (pl hN rfl) (rfm3 hM) ?_
            refine r_bipush (v := 66) (pc' := 63) d189_61 rfl (by decide) ?_
            refine r_aload_n (pc' := 64) d189_63 rfl rfl rfl ?_
            refine r_getI (pc' := 67) d189_64 rfl o189 sf12_147_12 sh50 (pl hN rfl) ?_
            refine wp_v (show hi _ 50 4 = nI 23 from rfl) ?_
            refine r_imul (pc' := 68) d189_67 rfl ?_
            refine r_iload_n (pc' := 69) d189_68 rfl rfl rfl ?_
            refine r_iadd (pc' := 70) d189_69 rfl ?_
            refine r_aload_n (pc' := 71) d189_70 rfl rfl rfl ?_
            refine r_getS (pc' := 74) d189_71 rfl o189 sf12_7_12 sh50 (pl hN rfl) (rfm0 hM) ?_
            refine r_bipush (v := 19) (pc' := 76) d189_74 rfl (by decide) ?_
            refine r_iload_n (pc' := 77) d189_76 rfl rfl rfl ?_
            refine r_iadd (pc' := 78) d189_77 rfl ?_
            refine r_ialdN (pc' := 79) (j := (19 + k)) d189_78 rfl sh51 (pl hN rfl) (by simp only [lit, nI_add, pk_mul]) (by omega) (by decide) ?_
            refine r_iastN (pc' := 80) (j := ((66 * 23) + k)) d189_79 rfl sh54 (pl hN rfl) (by simp only [lit, nI_add, pk_mul]) (by omega) (by decide) ?_
            refine r_iinc (v := _ + 1) (pc' := 83) (ls' := [(1, vI _), (0, vR (some 50))]) d189_80 rfl rfl rfl (by decide) rfl ?_
            refine r_goto 51 d189_83 rfl ?_
            refine wp_pick (ls' := [(0, vR (some 50)), (1, vI _)]) [1, 0] rfl ?_
            refine wp_heap (h' := (setw (seti h 50 4 (nI 23)) 54 (mix (fun i => hi h 51 (19 + (i - 66 * 23))) (shL (hi h 54)) (66 * 23) (k + 1)))) ((seti_setw _ _ _ _ _).trans (congrArg (setw _ _) (mixv (fun i => hi h 51 (19 + (i - 66 * 23))) (shL (hi h 54)) (66 * 23) k (by show hi h 51 (19 + k) = hi h 51 (19 + (66 * 23 + k - 66 * 23)); rw [Nat.add_sub_cancel_left])))) ?_
            rw [nI_1]
            exact ih (k + 1) (by omega)
        refine wp_heap (h' := (setw (seti h 50 4 (nI 23)) 54 (mix (fun i => hi h 51 (19 + (i - 66 * 23))) (shL (hi h 54)) (66 * 23) 0))) (by first | (rw [mix_0]; done) | (rw [mix_0]; exact (setw_self _ 54).symm)) ?_
        exact loop2 66 0 rfl
      | succ r ih =>
        intro k hk
        refine r_iload_n (pc' := 12) d189_11 rfl rfl rfl ?_
        refine r_sipush (v := 1518) (pc' := 15) d189_12 rfl (by decide) ?_
        refine r_icmp_ge 39 (pc' := 18) d189_15 rfl rfl (fun c15 => absurd c15 (nI_ge (a := k) (b := 1518) (by omega) (by decide))) (fun c15 => ?_)
        refine r_aload_n (pc' := 19) d189_18 rfl rfl rfl ?_
        refine r_getS (pc' := 22) d189_19 rfl o189 sf12_20_12 sh50 (pl hN rfl) (rfm3 hM) ?_
        refine r_iload_n (pc' := 23) d189_22 rfl rfl rfl ?_
        refine r_aload_n (pc' := 24) d189_23 rfl rfl rfl ?_
        refine r_getS (pc' := 27) d189_24 rfl o189 sf12_20_12 sh50 (pl hN rfl) (rfm3 hM) ?_
        refine r_iload_n (pc' := 28) d189_27 rfl rfl rfl ?_
        refine r_bipush (v := 66) (pc' := 30) d189_28 rfl (by decide) ?_
        refine r_iadd (pc' := 31) d189_30 rfl ?_
        refine r_ialdN (pc' := 32) (j := (k + 66)) d189_31 rfl sh54 (pl hN rfl) (by simp only [lit, nI_add, pk_mul]) (by omega) (by decide) ?_
        refine r_iastN (pc' := 33) (j := k) d189_32 rfl sh54 (pl hN rfl) rfl (by omega) (by decide) ?_
        refine r_iinc (v := _ + 1) (pc' := 36) (ls' := [(1, vI _), (0, vR (some 50))]) d189_33 rfl rfl rfl (by decide) rfl ?_
        refine r_goto 11 d189_36 rfl ?_
        refine wp_pick (ls' := [(0, vR (some 50)), (1, vI _)]) [1, 0] rfl ?_
        refine wp_heap (h' := (setw h 54 (mix (fun i => hi h 54 (i + 66)) (hi h 54) 0 (k + 1)))) ((seti_setw _ _ _ _ _).trans (congrArg (setw _ _) (shL_s (hi h 54) k (by omega)))) ?_
        rw [nI_1]
        exact ih (k + 1) (by omega)
    refine wp_heap (h' := (setw h 54 (mix (fun i => hi h 54 (i + 66)) (hi h 54) 0 0))) (by rw [mix_0]; exact (setw_self _ 54).symm) ?_
    exact loop 1518 0 rfl
theorem s_go {d : Nat} {h : Hp} {Q : Option AV → Hp → Prop} {m L e n : Nat} (hN : hn h = 65) (hM : RM h) (hc : Cnt (hi h 51) m L e) (hsk : ¬ hi h 51 3 = 0) (hn0 : n ≤ 1000) (kk : ∀ x, Q none (setw (setw h 60 x) 51 (gmN (hi h 51) m L n))) : Spec (d + 4) 208 [vR (some 50), vI (nI n)] h Q := by
  refine spec_intro (by decide +kernel) rfl (Nat.le_of_ble_eq_true rfl) ?_
  refine r_iconst (v := 0) (pc' := 1) d208_0 rfl (by decide) ?_
  refine r_istore_n (pc' := 2) (ls' := [(2, vI _), (0, vR (some 50)), (1, vI _)]) d208_1 rfl rfl (by decide) rfl ?_
  refine wp_pick (ls' := [(0, vR (some 50)), (1, vI _), (2, vI _)]) [1, 2, 0] rfl ?_
  have loop : ∀ (r k : Nat) (x : Nat → Int32), k + r = n → wp (d + 4) 208 Q 0 0 2 [(0, vR (some 50)), (1, vI (nI n)), (2, vI (nI k))] [] (setw (setw h 60 x) 51 (gmN (hi h 51) m L k)) := by
    intro r
    induction r with
    | zero =>
      intro k x hk
      obtain rfl : k = n := by omega
      refine r_iload_n (pc' := 3) d208_2 rfl rfl rfl ?_
      refine r_iload_n (pc' := 4) d208_3 rfl rfl rfl ?_
      refine r_icmp_ge 17 (pc' := 7) d208_4 rfl rfl (fun c4 => ?_) (fun c4 => absurd (nI_le (Nat.le_refl _) (by omega)) c4)
      exact r_ret d208_17 rfl (kk x)
    | succ r ih =>
      intro k x hk
      refine r_iload_n (pc' := 3) d208_2 rfl rfl rfl ?_
      refine r_iload_n (pc' := 4) d208_3 rfl rfl rfl ?_
      refine r_icmp_ge 17 (pc' := 7) d208_4 rfl rfl (fun c4 => absurd c4 (nI_ge (by omega) (by omega))) (fun c4 => ?_)
      refine r_aload_n (pc' := 8) d208_7 rfl rfl rfl ?_
      refine r_call (pc' := 11) [vR (some 50)] [] d208_8 rfl o208 st12_191_12 (rcv1 sh50 (pl hN rfl)) rfl (by decide) ⟨rfl, rfl⟩ (Nat.le_of_ble_eq_true rfl) rfl (s_goMinute hN hM (hc.gm k) (by show ¬ gmN _ _ _ _ 3 = 0; rw [gmN_lo _ _ _ _ _ (by decide) (by decide) (by decide) hc.2.2.2.1]; exact hsk) (fun x2 => ?_))
      refine r_iinc (v := _ + 1) (pc' := 14) (ls' := [(2, vI _), (0, vR (some 50)), (1, vI _)]) d208_11 rfl rfl rfl (by decide) rfl ?_
      refine r_goto 2 d208_14 rfl ?_
      refine wp_pick (ls' := [(0, vR (some 50)), (1, vI _), (2, vI _)]) [1, 2, 0] rfl ?_
      refine wp_heap (h' := setw (setw h 60 x2) 51 (gmN (hi h 51) m L (k + 1))) (by rw [setw_comm _ 51 60 _ _ (by decide), setw_w, setw_w]; rfl) ?_
      rw [nI_1]
      exact ih (k + 1) x2 (by omega)
  refine wp_heap (h' := setw (setw h 60 (hi h 60)) 51 (gmN (hi h 51) m L 0)) (by rw [setw_self]; exact (setw_self _ 51).symm) ?_
  exact loop n 0 (hi h 60) (by omega)
abbrev thrI (s : Nat → Int32) (t : Nat) : Prop := needI (s (5 + t)) ≤ s (51 + t)
abbrev wellI (s : Nat → Int32) (t : Nat) : Prop := thrI s t ∧ s (75 + t) = 0
theorem s_isThrough {d : Nat} {h : Hp} {Q : Option AV → Hp → Prop} {t : Nat} (hN : hn h = 65) (hM : RM h) (ht : t < 6) (k : Q (some (vI (bI (thrI (hi h 51) t)))) h) : Spec (d + 1) 197 [vR (some 50), vI (nI t)] h Q := by
  refine spec_intro (by decide +kernel) rfl (Nat.le_of_ble_eq_true rfl) ?_
  refine r_aload_n (pc' := 1) d197_0 rfl rfl rfl ?_
  refine r_getS (pc' := 4) d197_1 rfl o197 sf12_7_12 sh50 (pl hN rfl) (rfm0 hM) ?_
  refine r_bipush (v := 51) (pc' := 6) d197_4 rfl (by decide) ?_
  refine r_iload_n (pc' := 7) d197_6 rfl rfl rfl ?_
  refine r_iadd (pc' := 8) d197_7 rfl ?_
  refine r_ialdN (pc' := 9) (j := (51 + t)) d197_8 rfl sh51 (pl hN rfl) (by simp only [lit, nI_add, pk_mul]) (by omega) (by decide) ?_
  refine r_aload_n (pc' := 10) d197_9 rfl rfl rfl ?_
  refine r_aload_n (pc' := 11) d197_10 rfl rfl rfl ?_
  refine r_getS (pc' := 14) d197_11 rfl o197 sf12_7_12 sh50 (pl hN rfl) (rfm0 hM) ?_
  refine r_iconst (v := 5) (pc' := 15) d197_14 rfl (by decide) ?_
  refine r_iload_n (pc' := 16) d197_15 rfl rfl rfl ?_
  refine r_iadd (pc' := 17) d197_16 rfl ?_
  refine r_ialdN (pc' := 18) (j := (5 + t)) d197_17 rfl sh51 (pl hN rfl) (by simp only [lit, nI_add, pk_mul]) (by omega) (by decide) ?_
  refine r_call (pc' := 21) [vR (some 50), vI _] [vI _] d197_18 rfl o197 st12_204_12 (rcv1 sh50 (pl hN rfl)) rfl (by decide) ⟨rfl, rfl⟩ (Nat.le_of_ble_eq_true rfl) rfl (s_need ?_)
  refine r_icmp_lt 28 (pc' := 24) d197_21 rfl rfl (fun c21 => ?_) (fun c21 => ?_)
  · refine r_iconst (v := 0) (pc' := 29) d197_28 rfl (by decide) ?_
    exact r_iretZ0 d197_29 rfl (qv (b0 (Int32.not_le.mpr c21)) k)
  · refine r_iconst (v := 1) (pc' := 25) d197_24 rfl (by decide) ?_
    refine r_goto 29 d197_25 rfl ?_
    exact r_iretZ1 d197_29 rfl (qv (b1 (Int32.not_lt.mp c21)) k)
theorem s_isWell {d : Nat} {h : Hp} {Q : Option AV → Hp → Prop} {t : Nat} (hN : hn h = 65) (hM : RM h) (ht : t < 6) (k : Q (some (vI (bI (wellI (hi h 51) t)))) h) : Spec (d + 2) 198 [vR (some 50), vI (nI t)] h Q := by
  refine spec_intro (by decide +kernel) rfl (Nat.le_of_ble_eq_true rfl) ?_
  refine r_aload_n (pc' := 1) d198_0 rfl rfl rfl ?_
  refine r_iload_n (pc' := 2) d198_1 rfl rfl rfl ?_
  refine r_call (pc' := 5) [vR (some 50), vI _] [] d198_2 rfl o198 st12_207_12 (rcv1 sh50 (pl hN rfl)) rfl (by decide) ⟨rfl, rfl⟩ (Nat.le_of_ble_eq_true rfl) rfl (s_isThrough hN hM ht ?_)
  refine r_if_eqB 24 (pc' := 8) d198_5 rfl rfl (fun c5 => ?_) (fun c5 => ?_)
  · refine r_iconst (v := 0) (pc' := 25) d198_24 rfl (by decide) ?_
    exact r_iretZ0 d198_25 rfl (qv (b0 (by first | exact fun w => c5 w.1 | exact fun w => c17 w.2)) k)
  · refine r_aload_n (pc' := 9) d198_8 rfl rfl rfl ?_
    refine r_getS (pc' := 12) d198_9 rfl o198 sf12_7_12 sh50 (pl hN rfl) (rfm0 hM) ?_
    refine r_bipush (v := 75) (pc' := 14) d198_12 rfl (by decide) ?_
    refine r_iload_n (pc' := 15) d198_14 rfl rfl rfl ?_
    refine r_iadd (pc' := 16) d198_15 rfl ?_
    refine r_ialdN (pc' := 17) (j := (75 + t)) d198_16 rfl sh51 (pl hN rfl) (by simp only [lit, nI_add, pk_mul]) (by omega) (by decide) ?_
    refine r_if_ne 24 (pc' := 20) d198_17 rfl rfl (fun c17 => ?_) (fun c17 => ?_)
    · refine r_iconst (v := 0) (pc' := 25) d198_24 rfl (by decide) ?_
      exact r_iretZ0 d198_25 rfl (qv (b0 (by first | exact fun w => c5 w.1 | exact fun w => c17 w.2)) k)
    · refine r_iconst (v := 1) (pc' := 21) d198_20 rfl (by decide) ?_
      refine r_goto 25 d198_21 rfl ?_
      exact r_iretZ1 d198_25 rfl (qv (b1 ⟨c5, c17⟩) k)
def takL (s : Nat → Int32) (t : Nat) (cell : Int32) : Nat → Bool
  | 0 => false
  | k + 1 => takL s t cell k || (decide (k ≠ t) && decide (s (45 + k) = cell))
abbrev takI (s : Nat → Int32) (m t : Nat) (cell : Int32) : Prop := takL s t cell m = true ∧ cell ≠ 12
def bb (b : Bool) : Int32 := if b then 1 else 0
theorem s_isTaken {d : Nat} {h : Hp} {Q : Option AV → Hp → Prop} {m L e t : Nat} {cell : Int32} (hN : hn h = 65) (hM : RM h) (hc : Cnt (hi h 51) m L e) (ht : t < 6) (kq : Q (some (vI (bI (takI (hi h 51) m t cell)))) h) : Spec d 192 [vR (some 50), vI (nI t), vI cell] h Q := by
  obtain ⟨hc1, hc2, hc3, hc4, hc5, hc6⟩ := id hc
  refine spec_intro (by decide +kernel) rfl (Nat.le_of_ble_eq_true rfl) ?_
  refine r_iconst (v := 0) (pc' := 1) d192_0 rfl (by decide) ?_
  refine r_istore_n (pc' := 2) (ls' := [(3, vI _), (0, vR (some 50)), (1, vI _), (2, vI _)]) d192_1 rfl rfl (by decide) rfl ?_
  refine r_iconst (v := 0) (pc' := 3) d192_2 rfl (by decide) ?_
  refine r_istore (pc' := 5) (ls' := [(4, vI _), (3, vI _), (0, vR (some 50)), (1, vI _), (2, vI _)]) d192_3 rfl (by decide) rfl ?_
  refine wp_pick (ls' := [(0, vR (some 50)), (1, vI _), (2, vI _), (3, vI _), (4, vI _)]) [2, 3, 4, 1, 0] rfl ?_
  have loop : ∀ (r k : Nat), k + r = m → wp d 192 Q 0 0 5 [(0, vR (some 50)), (1, vI (nI t)), (2, vI cell), (3, vI (bI (takL (hi h 51) t cell k = true))), (4, vI (nI k))] [] h := by
    intro r
    induction r with
    | zero =>
      intro k hk
      obtain rfl : k = m := by omega
      refine r_iload (pc' := 7) d192_5 rfl rfl ?_
      refine r_aload_n (pc' := 8) d192_7 rfl rfl rfl ?_
      refine r_getS (pc' := 11) d192_8 rfl o192 sf12_7_12 sh50 (pl hN rfl) (rfm0 hM) ?_
      refine r_iconst (v := 1) (pc' := 12) d192_11 rfl (by decide) ?_
      refine r_ialdN (pc' := 13) (j := 1) d192_12 rfl sh51 (pl hN rfl) rfl (by omega) (by decide) ?_
      refine r_icmp_ge 52 (pc' := 16) d192_13 rfl rfl (fun c13 => ?_) (fun c13 => absurd (show hi h 51 1 ≤ nI k by rw [hc.1]; exact nI_le (Nat.le_refl _) (by omega)) c13)
      refine r_iload_n (pc' := 53) d192_52 rfl rfl rfl ?_
      refine r_if_eqB 66 (pc' := 56) d192_53 rfl rfl (fun c53 => ?_) (fun c53 => ?_)
      · refine r_iconst (v := 0) (pc' := 67) d192_66 rfl (by decide) ?_
        exact r_iretZ0 d192_67 rfl (qv (b0 (by first | exact fun w => c53 w.1 | exact fun w => w.2 c59)) kq)
      · refine r_iload_n (pc' := 57) d192_56 rfl rfl rfl ?_
        refine r_bipush (v := 12) (pc' := 59) d192_57 rfl (by decide) ?_
        refine r_icmp_eq 66 (pc' := 62) d192_59 rfl rfl (fun c59 => ?_) (fun c59 => ?_)
        · refine r_iconst (v := 0) (pc' := 67) d192_66 rfl (by decide) ?_
          exact r_iretZ0 d192_67 rfl (qv (b0 (by first | exact fun w => c53 w.1 | exact fun w => w.2 c59)) kq)
        · refine r_iconst (v := 1) (pc' := 63) d192_62 rfl (by decide) ?_
          refine r_goto 67 d192_63 rfl ?_
          exact r_iretZ1 d192_67 rfl (qv (b1 ⟨c53, c59⟩) kq)
    | succ r ih =>
      intro k hk
      refine r_iload (pc' := 7) d192_5 rfl rfl ?_
      refine r_aload_n (pc' := 8) d192_7 rfl rfl rfl ?_
      refine r_getS (pc' := 11) d192_8 rfl o192 sf12_7_12 sh50 (pl hN rfl) (rfm0 hM) ?_
      refine r_iconst (v := 1) (pc' := 12) d192_11 rfl (by decide) ?_
      refine r_ialdN (pc' := 13) (j := 1) d192_12 rfl sh51 (pl hN rfl) rfl (by omega) (by decide) ?_
      refine r_icmp_ge 52 (pc' := 16) d192_13 rfl rfl (fun c13 => absurd c13 (show ¬ hi h 51 1 ≤ nI k by rw [hc.1]; exact nI_ge (by omega) (by omega))) (fun c13 => ?_)
      refine r_iload_n (pc' := 17) d192_16 rfl rfl rfl ?_
      refine r_if_neB 40 (pc' := 20) d192_17 rfl rfl (fun c17 => ?_) (fun c17 => ?_)
      · refine r_iconst (v := 1) (pc' := 41) d192_40 rfl (by decide) ?_
        refine r_goto 45 d192_41 rfl ?_
        refine r_istore_n (pc' := 46) (ls' := [(3, vI _), (0, vR (some 50)), (1, vI _), (2, vI _), (4, vI _)]) d192_45 rfl rfl (by decide) rfl ?_
        refine r_iinc (v := _ + 1) (pc' := 49) (ls' := [(4, vI _), (3, vI _), (0, vR (some 50)), (1, vI _), (2, vI _)]) d192_46 rfl rfl rfl (by decide) rfl ?_
        refine r_goto 5 d192_49 rfl ?_
        refine wp_pick (ls' := [(0, vR (some 50)), (1, vI _), (2, vI _), (3, vI _), (4, vI _)]) [2, 3, 4, 1, 0] rfl ?_
        rw [nI_1]
        have w := ih (k + 1) (by omega)
        rw [b1 (show takL (hi h 51) t cell (k + 1) = true by rw [takL, c17]; rfl)] at w
        exact w
      · refine r_iload (pc' := 22) d192_20 rfl rfl ?_
        refine r_iload_n (pc' := 23) d192_22 rfl rfl rfl ?_
        refine r_icmp_eq 44 (pc' := 26) d192_23 rfl rfl (fun c23 => ?_) (fun c23 => ?_)
        · refine r_iconst (v := 0) (pc' := 45) d192_44 rfl (by decide) ?_
          refine r_istore_n (pc' := 46) (ls' := [(3, vI _), (0, vR (some 50)), (1, vI _), (2, vI _), (4, vI _)]) d192_45 rfl rfl (by decide) rfl ?_
          refine r_iinc (v := _ + 1) (pc' := 49) (ls' := [(4, vI _), (3, vI _), (0, vR (some 50)), (1, vI _), (2, vI _)]) d192_46 rfl rfl rfl (by decide) rfl ?_
          refine r_goto 5 d192_49 rfl ?_
          refine wp_pick (ls' := [(0, vR (some 50)), (1, vI _), (2, vI _), (3, vI _), (4, vI _)]) [2, 3, 4, 1, 0] rfl ?_
          rw [nI_1]
          have w := ih (k + 1) (by omega)
          rw [b0 (show ¬ takL (hi h 51) t cell (k + 1) = true by have e : k = t := (nI_eq (by omega) (by omega)).mp c23; rw [takL]; subst e; simp [c17])] at w
          exact w
        · refine r_aload_n (pc' := 27) d192_26 rfl rfl rfl ?_
          refine r_getS (pc' := 30) d192_27 rfl o192 sf12_7_12 sh50 (pl hN rfl) (rfm0 hM) ?_
          refine r_bipush (v := 45) (pc' := 32) d192_30 rfl (by decide) ?_
          refine r_iload (pc' := 34) d192_32 rfl rfl ?_
          refine r_iadd (pc' := 35) d192_34 rfl ?_
          refine r_ialdN (pc' := 36) (j := (45 + k)) d192_35 rfl sh51 (pl hN rfl) (by simp only [lit, nI_add, pk_mul]) (by omega) (by decide) ?_
          refine r_iload_n (pc' := 37) d192_36 rfl rfl rfl ?_
          refine r_icmp_ne 44 (pc' := 40) d192_37 rfl rfl (fun c37 => ?_) (fun c37 => ?_)
          · refine r_iconst (v := 0) (pc' := 45) d192_44 rfl (by decide) ?_
            refine r_istore_n (pc' := 46) (ls' := [(3, vI _), (0, vR (some 50)), (1, vI _), (2, vI _), (4, vI _)]) d192_45 rfl rfl (by decide) rfl ?_
            refine r_iinc (v := _ + 1) (pc' := 49) (ls' := [(4, vI _), (3, vI _), (0, vR (some 50)), (1, vI _), (2, vI _)]) d192_46 rfl rfl rfl (by decide) rfl ?_
            refine r_goto 5 d192_49 rfl ?_
            refine wp_pick (ls' := [(0, vR (some 50)), (1, vI _), (2, vI _), (3, vI _), (4, vI _)]) [2, 3, 4, 1, 0] rfl ?_
            rw [nI_1]
            have w := ih (k + 1) (by omega)
            rw [b0 (show ¬ takL (hi h 51) t cell (k + 1) = true by rw [takL]; simp [c17, c37])] at w
            exact w
          · refine r_iconst (v := 1) (pc' := 41) d192_40 rfl (by decide) ?_
            refine r_goto 45 d192_41 rfl ?_
            refine r_istore_n (pc' := 46) (ls' := [(3, vI _), (0, vR (some 50)), (1, vI _), (2, vI _), (4, vI _)]) d192_45 rfl rfl (by decide) rfl ?_
            refine r_iinc (v := _ + 1) (pc' := 49) (ls' := [(4, vI _), (3, vI _), (0, vR (some 50)), (1, vI _), (2, vI _)]) d192_46 rfl rfl rfl (by decide) rfl ?_
            refine r_goto 5 d192_49 rfl ?_
            refine wp_pick (ls' := [(0, vR (some 50)), (1, vI _), (2, vI _), (3, vI _), (4, vI _)]) [2, 3, 4, 1, 0] rfl ?_
            rw [nI_1]
            have w := ih (k + 1) (by omega)
            rw [b1 (show takL (hi h 51) t cell (k + 1) = true by have e : k ≠ t := fun z => c23 (by rw [z]); rw [takL]; simp [e, c37])] at w
            exact w
  exact loop m 0 (by omega)
