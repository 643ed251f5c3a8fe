/-! the reference: sets, hand, judged (printed by wip/whole/m47.py) -/
def soB (s : Nat → Int32) : Nat → Int32
  | 0 => 0
  | k + 1 => soB s k ||| (if ¬ goneI s k ∧ s (75 + k) = 1 then 1 <<< (nI k &&& 31) else 0)
def soW (s : Nat → Int32) : Nat → Int32
  | 0 => 0
  | k + 1 => soW s k ||| (if ¬ goneI s k ∧ wellI s k then 1 <<< (nI k &&& 31) else 0)
theorem s_setOfB {d : Nat} {h : Hp} {Q : Option AV → Hp → Prop} {m L e : Nat} (hN : hn h = 65) (hM : RM h) (hc : Cnt (hi h 51) m L e) (kk : Q (some (vI (soB (hi h 51) m))) h) : Spec (d + 3) 223 [vR (some 50), vI 1] h Q := by
  obtain ⟨hc1, hc2, hc3, hc4, hc5, hc6⟩ := id hc
  refine spec_intro (by decide +kernel) rfl (Nat.le_of_ble_eq_true rfl) ?_
  refine r_iconst (v := 0) (pc' := 1) d223_0 rfl (by decide) ?_
  refine r_istore_n (pc' := 2) (ls' := [(2, vI _), (0, vR (some 50)), (1, vI _)]) d223_1 rfl rfl (by decide) rfl ?_
  refine r_iconst (v := 0) (pc' := 3) d223_2 rfl (by decide) ?_
  refine r_istore_n (pc' := 4) (ls' := [(3, vI _), (2, vI _), (0, vR (some 50)), (1, vI _)]) d223_3 rfl rfl (by decide) rfl ?_
  refine wp_pick (ls' := [(0, vR (some 50)), (1, vI _), (2, vI _), (3, vI _)]) [2, 3, 1, 0] rfl ?_
  have loop : ∀ (r k : Nat), k + r = m → wp (d + 3) 223 Q 0 0 4 [(0, vR (some 50)), (1, vI 1), (2, vI (soB (hi h 51) k)), (3, vI (nI k))] [] h := by
    intro r
    induction r with
    | zero =>
      intro k hk
      obtain rfl : k = m := by omega
      refine r_iload_n (pc' := 5) d223_4 rfl rfl rfl ?_
      refine r_aload_n (pc' := 6) d223_5 rfl rfl rfl ?_
      refine r_getS (pc' := 9) d223_6 rfl o223 sf12_7_12 sh50 (pl hN rfl) (rfm0 hM) ?_
      refine r_iconst (v := 1) (pc' := 10) d223_9 rfl (by decide) ?_
      refine r_ialdN (pc' := 11) (j := 1) d223_10 rfl sh51 (pl hN rfl) rfl (by omega) (by decide) ?_
      refine r_icmp_ge 75 (pc' := 14) d223_11 rfl rfl (fun c11 => ?_) (fun c11 => absurd (by rw [show hi h 51 1 = nI k from hc1]; exact nI_le (Nat.le_refl _) (by omega)) c11)
      refine r_iload_n (pc' := 76) d223_75 rfl rfl rfl ?_
      exact r_iretI d223_76 rfl kk
    | succ r ih =>
      intro k hk
      refine r_iload_n (pc' := 5) d223_4 rfl rfl rfl ?_
      refine r_aload_n (pc' := 6) d223_5 rfl rfl rfl ?_
      refine r_getS (pc' := 9) d223_6 rfl o223 sf12_7_12 sh50 (pl hN rfl) (rfm0 hM) ?_
      refine r_iconst (v := 1) (pc' := 10) d223_9 rfl (by decide) ?_
      refine r_ialdN (pc' := 11) (j := 1) d223_10 rfl sh51 (pl hN rfl) rfl (by omega) (by decide) ?_
      refine r_icmp_ge 75 (pc' := 14) d223_11 rfl rfl (fun c11 => absurd c11 (by rw [show hi h 51 1 = nI m from hc1]; exact nI_ge (by omega) (by omega))) (fun c11 => ?_)
      refine r_iload_n (pc' := 15) d223_14 rfl rfl rfl ?_
      refine r_if_eq 39 (pc' := 18) d223_15 rfl rfl (fun c15 => absurd c15 (by decide)) (fun c15 => ?_)
      refine r_aload_n (pc' := 19) d223_18 rfl rfl rfl ?_
      refine r_getS (pc' := 22) d223_19 rfl o223 sf12_7_12 sh50 (pl hN rfl) (rfm0 hM) ?_
      refine r_bipush (v := 75) (pc' := 24) d223_22 rfl (by decide) ?_
      refine r_iload_n (pc' := 25) d223_24 rfl rfl rfl ?_
      refine r_iadd (pc' := 26) d223_25 rfl ?_
      refine r_ialdN (pc' := 27) (j := (75 + k)) d223_26 rfl sh51 (pl hN rfl) (by simp only [lit, nI_add, pk_mul]) (by omega) (by decide) ?_
      refine r_iconst (v := 1) (pc' := 28) d223_27 rfl (by decide) ?_
      refine r_icmp_ne 35 (pc' := 31) d223_28 rfl rfl (fun c28 => ?_) (fun c28 => ?_)
      · refine r_iconst (v := 0) (pc' := 36) d223_35 rfl (by decide) ?_
        refine r_goto 44 d223_36 rfl ?_
        refine r_istore (pc' := 46) (ls' := [(4, vI _), (0, vR (some 50)), (1, vI _), (2, vI _), (3, vI _)]) d223_44 rfl (by decide) rfl ?_
        refine r_iload_n (pc' := 47) d223_46 rfl rfl rfl ?_
        refine r_aload_n (pc' := 48) d223_47 rfl rfl rfl ?_
        refine r_iload_n (pc' := 49) d223_48 rfl rfl rfl ?_
        refine r_call (pc' := 52) [vR (some 50), vI _] [vI _] d223_49 rfl o223 st12_178_12 (rcv1 sh50 (pl hN rfl)) rfl (by decide) ⟨rfl, rfl⟩ (Nat.le_of_ble_eq_true rfl) rfl (s_isGone hN hM (by omega) ?_)
        refine r_if_neB 66 (pc' := 55) d223_52 rfl rfl (fun c52 => ?_) (fun c52 => ?_)
        · refine r_iconst (v := 0) (pc' := 67) d223_66 rfl (by decide) ?_
          refine r_ior (pc' := 68) d223_67 rfl ?_
          refine r_istore_n (pc' := 69) (ls' := [(2, vI _), (4, vI _), (0, vR (some 50)), (1, vI _), (3, vI _)]) d223_68 rfl rfl (by decide) rfl ?_
          refine r_iinc (v := _ + 1) (pc' := 72) (ls' := [(3, vI _), (2, vI _), (4, vI _), (0, vR (some 50)), (1, vI _)]) d223_69 rfl rfl rfl (by decide) rfl ?_
          refine r_goto 4 d223_72 rfl ?_
          refine wp_pick (ls' := [(0, vR (some 50)), (1, vI _), (2, vI _), (3, vI _)]) [3, 4, 1, 0] rfl ?_
          rw [nI_1]
          have w := ih (k + 1) (by omega)
          rw [soB, if_neg (fun z => c28 z.2)] at w
          exact w
        · refine r_iload (pc' := 57) d223_55 rfl rfl ?_
          refine r_if_eq 66 (pc' := 60) d223_57 rfl rfl (fun c57 => ?_) (fun c57 => absurd (by decide) c57)
          refine r_iconst (v := 0) (pc' := 67) d223_66 rfl (by decide) ?_
          refine r_ior (pc' := 68) d223_67 rfl ?_
          refine r_istore_n (pc' := 69) (ls' := [(2, vI _), (4, vI _), (0, vR (some 50)), (1, vI _), (3, vI _)]) d223_68 rfl rfl (by decide) rfl ?_
          refine r_iinc (v := _ + 1) (pc' := 72) (ls' := [(3, vI _), (2, vI _), (4, vI _), (0, vR (some 50)), (1, vI _)]) d223_69 rfl rfl rfl (by decide) rfl ?_
          refine r_goto 4 d223_72 rfl ?_
          refine wp_pick (ls' := [(0, vR (some 50)), (1, vI _), (2, vI _), (3, vI _)]) [3, 4, 1, 0] rfl ?_
          rw [nI_1]
          have w := ih (k + 1) (by omega)
          rw [soB, if_neg (fun z => c28 z.2)] at w
          exact w
      · refine r_iconst (v := 1) (pc' := 32) d223_31 rfl (by decide) ?_
        refine r_goto 44 d223_32 rfl ?_
        refine r_istore (pc' := 46) (ls' := [(4, vI _), (0, vR (some 50)), (1, vI _), (2, vI _), (3, vI _)]) d223_44 rfl (by decide) rfl ?_
        refine r_iload_n (pc' := 47) d223_46 rfl rfl rfl ?_
        refine r_aload_n (pc' := 48) d223_47 rfl rfl rfl ?_
        refine r_iload_n (pc' := 49) d223_48 rfl rfl rfl ?_
        refine r_call (pc' := 52) [vR (some 50), vI _] [vI _] d223_49 rfl o223 st12_178_12 (rcv1 sh50 (pl hN rfl)) rfl (by decide) ⟨rfl, rfl⟩ (Nat.le_of_ble_eq_true rfl) rfl (s_isGone hN hM (by omega) ?_)
        refine r_if_neB 66 (pc' := 55) d223_52 rfl rfl (fun c52 => ?_) (fun c52 => ?_)
        · refine r_iconst (v := 0) (pc' := 67) d223_66 rfl (by decide) ?_
          refine r_ior (pc' := 68) d223_67 rfl ?_
          refine r_istore_n (pc' := 69) (ls' := [(2, vI _), (4, vI _), (0, vR (some 50)), (1, vI _), (3, vI _)]) d223_68 rfl rfl (by decide) rfl ?_
          refine r_iinc (v := _ + 1) (pc' := 72) (ls' := [(3, vI _), (2, vI _), (4, vI _), (0, vR (some 50)), (1, vI _)]) d223_69 rfl rfl rfl (by decide) rfl ?_
          refine r_goto 4 d223_72 rfl ?_
          refine wp_pick (ls' := [(0, vR (some 50)), (1, vI _), (2, vI _), (3, vI _)]) [3, 4, 1, 0] rfl ?_
          rw [nI_1]
          have w := ih (k + 1) (by omega)
          rw [soB, if_neg (fun z => z.1 c52)] at w
          exact w
        · refine r_iload (pc' := 57) d223_55 rfl rfl ?_
          refine r_if_eq 66 (pc' := 60) d223_57 rfl rfl (fun c57 => absurd c57 (by decide)) (fun c57 => ?_)
          refine r_iconst (v := 1) (pc' := 61) d223_60 rfl (by decide) ?_
          refine r_iload_n (pc' := 62) d223_61 rfl rfl rfl ?_
          refine r_ishl (pc' := 63) d223_62 rfl ?_
          refine r_goto 67 d223_63 rfl ?_
          refine r_ior (pc' := 68) d223_67 rfl ?_
          refine r_istore_n (pc' := 69) (ls' := [(2, vI _), (4, vI _), (0, vR (some 50)), (1, vI _), (3, vI _)]) d223_68 rfl rfl (by decide) rfl ?_
          refine r_iinc (v := _ + 1) (pc' := 72) (ls' := [(3, vI _), (2, vI _), (4, vI _), (0, vR (some 50)), (1, vI _)]) d223_69 rfl rfl rfl (by decide) rfl ?_
          refine r_goto 4 d223_72 rfl ?_
          refine wp_pick (ls' := [(0, vR (some 50)), (1, vI _), (2, vI _), (3, vI _)]) [3, 4, 1, 0] rfl ?_
          rw [nI_1]
          have w := ih (k + 1) (by omega)
          rw [soB, if_pos ⟨c52, c28⟩] at w
          exact w
  exact loop m 0 (by omega)
theorem s_setOfW {d : Nat} {h : Hp} {Q : Option AV → Hp → Prop} {m L e : Nat} (hN : hn h = 65) (hM : RM h) (hc : Cnt (hi h 51) m L e) (kk : Q (some (vI (soW (hi h 51) m))) h) : Spec (d + 3) 223 [vR (some 50), vI 0] h Q := by
  obtain ⟨hc1, hc2, hc3, hc4, hc5, hc6⟩ := id hc
  refine spec_intro (by decide +kernel) rfl (Nat.le_of_ble_eq_true rfl) ?_
  refine r_iconst (v := 0) (pc' := 1) d223_0 rfl (by decide) ?_
  refine r_istore_n (pc' := 2) (ls' := [(2, vI _), (0, vR (some 50)), (1, vI _)]) d223_1 rfl rfl (by decide) rfl ?_
  refine r_iconst (v := 0) (pc' := 3) d223_2 rfl (by decide) ?_
  refine r_istore_n (pc' := 4) (ls' := [(3, vI _), (2, vI _), (0, vR (some 50)), (1, vI _)]) d223_3 rfl rfl (by decide) rfl ?_
  refine wp_pick (ls' := [(0, vR (some 50)), (1, vI _), (2, vI _), (3, vI _)]) [2, 3, 1, 0] rfl ?_
  have loop : ∀ (r k : Nat), k + r = m → wp (d + 3) 223 Q 0 0 4 [(0, vR (some 50)), (1, vI 0), (2, vI (soW (hi h 51) k)), (3, vI (nI k))] [] h := by
    intro r
    induction r with
    | zero =>
      intro k hk
      obtain rfl : k = m := by omega
      refine r_iload_n (pc' := 5) d223_4 rfl rfl rfl ?_
      refine r_aload_n (pc' := 6) d223_5 rfl rfl rfl ?_
      refine r_getS (pc' := 9) d223_6 rfl o223 sf12_7_12 sh50 (pl hN rfl) (rfm0 hM) ?_
      refine r_iconst (v := 1) (pc' := 10) d223_9 rfl (by decide) ?_
      refine r_ialdN (pc' := 11) (j := 1) d223_10 rfl sh51 (pl hN rfl) rfl (by omega) (by decide) ?_
      refine r_icmp_ge 75 (pc' := 14) d223_11 rfl rfl (fun c11 => ?_) (fun c11 => absurd (by rw [show hi h 51 1 = nI k from hc1]; exact nI_le (Nat.le_refl _) (by omega)) c11)
      refine r_iload_n (pc' := 76) d223_75 rfl rfl rfl ?_
      exact r_iretI d223_76 rfl kk
    | succ r ih =>
      intro k hk
      refine r_iload_n (pc' := 5) d223_4 rfl rfl rfl ?_
      refine r_aload_n (pc' := 6) d223_5 rfl rfl rfl ?_
      refine r_getS (pc' := 9) d223_6 rfl o223 sf12_7_12 sh50 (pl hN rfl) (rfm0 hM) ?_
      refine r_iconst (v := 1) (pc' := 10) d223_9 rfl (by decide) ?_
      refine r_ialdN (pc' := 11) (j := 1) d223_10 rfl sh51 (pl hN rfl) rfl (by omega) (by decide) ?_
      refine r_icmp_ge 75 (pc' := 14) d223_11 rfl rfl (fun c11 => absurd c11 (by rw [show hi h 51 1 = nI m from hc1]; exact nI_ge (by omega) (by omega))) (fun c11 => ?_)
      refine r_iload_n (pc' := 15) d223_14 rfl rfl rfl ?_
      refine r_if_eq 39 (pc' := 18) d223_15 rfl rfl (fun c15 => ?_) (fun c15 => absurd (by decide) c15)
      refine r_aload_n (pc' := 40) d223_39 rfl rfl rfl ?_
      refine r_iload_n (pc' := 41) d223_40 rfl rfl rfl ?_
      refine r_call (pc' := 44) [vR (some 50), vI _] [] d223_41 rfl o223 st12_210_12 (rcv1 sh50 (pl hN rfl)) rfl (by decide) ⟨rfl, rfl⟩ (Nat.le_of_ble_eq_true rfl) rfl (s_isWell hN hM (by omega) ?_)
      refine r_istore (pc' := 46) (ls' := [(4, vI _), (0, vR (some 50)), (1, vI _), (2, vI _), (3, vI _)]) d223_44 rfl (by decide) rfl ?_
      refine r_iload_n (pc' := 47) d223_46 rfl rfl rfl ?_
      refine r_aload_n (pc' := 48) d223_47 rfl rfl rfl ?_
      refine r_iload_n (pc' := 49) d223_48 rfl rfl rfl ?_
      refine r_call (pc' := 52) [vR (some 50), vI _] [vI _] d223_49 rfl o223 st12_178_12 (rcv1 sh50 (pl hN rfl)) rfl (by decide) ⟨rfl, rfl⟩ (Nat.le_of_ble_eq_true rfl) rfl (s_isGone hN hM (by omega) ?_)
      refine r_if_neB 66 (pc' := 55) d223_52 rfl rfl (fun c52 => ?_) (fun c52 => ?_)
      · refine r_iconst (v := 0) (pc' := 67) d223_66 rfl (by decide) ?_
        refine r_ior (pc' := 68) d223_67 rfl ?_
        refine r_istore_n (pc' := 69) (ls' := [(2, vI _), (4, vI _), (0, vR (some 50)), (1, vI _), (3, vI _)]) d223_68 rfl rfl (by decide) rfl ?_
        refine r_iinc (v := _ + 1) (pc' := 72) (ls' := [(3, vI _), (2, vI _), (4, vI _), (0, vR (some 50)), (1, vI _)]) d223_69 rfl rfl rfl (by decide) rfl ?_
        refine r_goto 4 d223_72 rfl ?_
        refine wp_pick (ls' := [(0, vR (some 50)), (1, vI _), (2, vI _), (3, vI _)]) [3, 4, 1, 0] rfl ?_
        rw [nI_1]
        have w := ih (k + 1) (by omega)
        rw [soW, if_neg (fun z => z.1 c52)] at w
        exact w
      · refine r_iload (pc' := 57) d223_55 rfl rfl ?_
        refine r_if_eqB 66 (pc' := 60) d223_57 rfl rfl (fun c57 => ?_) (fun c57 => ?_)
        · refine r_iconst (v := 0) (pc' := 67) d223_66 rfl (by decide) ?_
          refine r_ior (pc' := 68) d223_67 rfl ?_
          refine r_istore_n (pc' := 69) (ls' := [(2, vI _), (4, vI _), (0, vR (some 50)), (1, vI _), (3, vI _)]) d223_68 rfl rfl (by decide) rfl ?_
          refine r_iinc (v := _ + 1) (pc' := 72) (ls' := [(3, vI _), (2, vI _), (4, vI _), (0, vR (some 50)), (1, vI _)]) d223_69 rfl rfl rfl (by decide) rfl ?_
          refine r_goto 4 d223_72 rfl ?_
          refine wp_pick (ls' := [(0, vR (some 50)), (1, vI _), (2, vI _), (3, vI _)]) [3, 4, 1, 0] rfl ?_
          rw [nI_1]
          have w := ih (k + 1) (by omega)
          rw [soW, if_neg (fun z => c57 z.2)] at w
          exact w
        · refine r_iconst (v := 1) (pc' := 61) d223_60 rfl (by decide) ?_
          refine r_iload_n (pc' := 62) d223_61 rfl rfl rfl ?_
          refine r_ishl (pc' := 63) d223_62 rfl ?_
          refine r_goto 67 d223_63 rfl ?_
          refine r_ior (pc' := 68) d223_67 rfl ?_
          refine r_istore_n (pc' := 69) (ls' := [(2, vI _), (4, vI _), (0, vR (some 50)), (1, vI _), (3, vI _)]) d223_68 rfl rfl (by decide) rfl ?_
          refine r_iinc (v := _ + 1) (pc' := 72) (ls' := [(3, vI _), (2, vI _), (4, vI _), (0, vR (some 50)), (1, vI _)]) d223_69 rfl rfl rfl (by decide) rfl ?_
          refine r_goto 4 d223_72 rfl ?_
          refine wp_pick (ls' := [(0, vR (some 50)), (1, vI _), (2, vI _), (3, vI _)]) [3, 4, 1, 0] rfl ?_
          rw [nI_1]
          have w := ih (k + 1) (by omega)
          rw [soW, if_pos ⟨c52, c57⟩] at w
          exact w
  exact loop m 0 (by omega)
def ltO (s : Nat → Int32) (o : Option Nat) (k : Nat) : Prop := match o with
  | none => True
  | some b => belowI s b < belowI s k
def hnB (s : Nat → Int32) : Nat → Option Nat
  | 0 => none
  | k + 1 => match hnB s k with
    | none => if onI s k ∧ s (75 + k) = 0 then some k else none
    | some b => if onI s k ∧ s (75 + k) = 0 ∧ belowI s b < belowI s k then some k else some b
def hnI (s : Nat → Int32) (m : Nat) : Option Nat := match hnB s m with
  | none => none
  | some b => if aboveI s b < belowI s b then some b else none
theorem hnB_lt (s : Nat → Int32) (q b : Nat) (h : hnB s q = some b) : b < q := by
  induction q generalizing b with
  | zero => cases h
  | succ q ih =>
    unfold hnB at h
    cases hq : hnB s q with
    | none => rw [hq] at h; dsimp only at h; split at h; cases h; omega; cases h
    | some c =>
      rw [hq] at h
      dsimp only at h
      have := ih c hq
      split at h <;> cases h <;> omega
theorem s_handles {d : Nat} {h : Hp} {Q : Option AV → Hp → Prop} {m L e : Nat} (hN : hn h = 65) (hM : RM h) (hc : Cnt (hi h 51) m L e) (kk : Q (some (vI (oN (hnI (hi h 51) m)))) h) : Spec (d + 2) 224 [vR (some 50)] h Q := by
  obtain ⟨hc1, hc2, hc3, hc4, hc5, hc6⟩ := id hc
  refine spec_intro (by decide +kernel) rfl (Nat.le_of_ble_eq_true rfl) ?_
  refine r_ldc (pc' := 2) d224_0 rfl o224 kc12_53 ?_
  refine r_istore_n (pc' := 3) (ls' := [(1, vI _), (0, vR (some 50))]) d224_2 rfl rfl (by decide) rfl ?_
  refine r_iconst (v := 0) (pc' := 4) d224_3 rfl (by decide) ?_
  refine r_istore_n (pc' := 5) (ls' := [(2, vI _), (1, vI _), (0, vR (some 50))]) d224_4 rfl rfl (by decide) rfl ?_
  refine wp_pick (ls' := [(0, vR (some 50)), (1, vI _), (2, vI _)]) [2, 1, 0] rfl ?_
  have loop : ∀ (r k : Nat), k + r = m → wp (d + 2) 224 Q 0 0 5 [(0, vR (some 50)), (1, vI (oN (hnB (hi h 51) k))), (2, vI (nI k))] [] h := by
    intro r
    induction r with
    | zero =>
      intro k hk
      obtain rfl : k = m := by omega
      cases hB : hnB (hi h 51) k with
      | none =>
        refine r_iload_n (pc' := 6) d224_5 rfl rfl rfl ?_
        refine r_aload_n (pc' := 7) d224_6 rfl rfl rfl ?_
        refine r_getS (pc' := 10) d224_7 rfl o224 sf12_7_12 sh50 (pl hN rfl) (rfm0 hM) ?_
        refine r_iconst (v := 1) (pc' := 11) d224_10 rfl (by decide) ?_
        refine r_ialdN (pc' := 12) (j := 1) d224_11 rfl sh51 (pl hN rfl) rfl (by omega) (by decide) ?_
        refine r_icmp_ge 76 (pc' := 15) d224_12 rfl rfl (fun c12 => ?_) (fun c12 => absurd (by rw [show hi h 51 1 = nI k from hc1]; exact nI_le (Nat.le_refl _) (by omega)) c12)
        refine r_iload_n (pc' := 77) d224_76 rfl rfl rfl ?_
        refine r_ldc (pc' := 79) d224_77 rfl o224 kc12_53 ?_
        refine r_icmp_eq 99 (pc' := 82) d224_79 rfl rfl (fun c79 => ?_) (fun c79 => absurd rfl c79)
        refine r_ldc (pc' := 101) d224_99 rfl o224 kc12_53 ?_
        exact r_iretI d224_101 rfl (qv (by rw [hnI, hB]; rfl) kk)
      | some b =>
        have hb := hnB_lt _ _ _ hB
        refine r_iload_n (pc' := 6) d224_5 rfl rfl rfl ?_
        refine r_aload_n (pc' := 7) d224_6 rfl rfl rfl ?_
        refine r_getS (pc' := 10) d224_7 rfl o224 sf12_7_12 sh50 (pl hN rfl) (rfm0 hM) ?_
        refine r_iconst (v := 1) (pc' := 11) d224_10 rfl (by decide) ?_
        refine r_ialdN (pc' := 12) (j := 1) d224_11 rfl sh51 (pl hN rfl) rfl (by omega) (by decide) ?_
        refine r_icmp_ge 76 (pc' := 15) d224_12 rfl rfl (fun c12 => ?_) (fun c12 => absurd (by rw [show hi h 51 1 = nI k from hc1]; exact nI_le (Nat.le_refl _) (by omega)) c12)
        refine r_iload_n (pc' := 77) d224_76 rfl rfl rfl ?_
        refine r_ldc (pc' := 79) d224_77 rfl o224 kc12_53 ?_
        refine r_icmp_eq 99 (pc' := 82) d224_79 rfl rfl (fun c79 => absurd c79 (nI_none (by omega))) (fun c79 => ?_)
        refine r_aload_n (pc' := 83) d224_82 rfl rfl rfl ?_
        refine r_iload_n (pc' := 84) d224_83 rfl rfl rfl ?_
        refine r_call (pc' := 87) [vR (some 50), vI _] [] d224_84 rfl o224 st12_160_12 (rcv1 sh50 (pl hN rfl)) rfl (by decide) ⟨rfl, rfl⟩ (Nat.le_of_ble_eq_true rfl) rfl (s_below hN hM (by omega) ?_)
        refine r_aload_n (pc' := 88) d224_87 rfl rfl rfl ?_
        refine r_iload_n (pc' := 89) d224_88 rfl rfl rfl ?_
        refine r_call (pc' := 92) [vR (some 50), vI _] [vI _] d224_89 rfl o224 st12_223_12 (rcv1 sh50 (pl hN rfl)) rfl (by decide) ⟨rfl, rfl⟩ (Nat.le_of_ble_eq_true rfl) rfl (s_above hN hM (by omega) ?_)
        refine r_icmp_le 99 (pc' := 95) d224_92 rfl rfl (fun c92 => ?_) (fun c92 => ?_)
        · refine r_ldc (pc' := 101) d224_99 rfl o224 kc12_53 ?_
          exact r_iretI d224_101 rfl (qv (by rw [hnI, hB]; dsimp only; rw [if_neg (Int32.not_lt.mpr c92)] <;> rfl) kk)
        · refine r_iload_n (pc' := 96) d224_95 rfl rfl rfl ?_
          refine r_goto 101 d224_96 rfl ?_
          exact r_iretI d224_101 rfl (qv (by rw [hnI, hB]; dsimp only; rw [if_pos (Int32.not_le.mp c92)] <;> rfl) kk)
    | succ r ih =>
      intro k hk
      have ih2 := ih (k + 1) (by omega)
      cases hB : hnB (hi h 51) k with
      | none =>
        refine r_iload_n (pc' := 6) d224_5 rfl rfl rfl ?_
        refine r_aload_n (pc' := 7) d224_6 rfl rfl rfl ?_
        refine r_getS (pc' := 10) d224_7 rfl o224 sf12_7_12 sh50 (pl hN rfl) (rfm0 hM) ?_
        refine r_iconst (v := 1) (pc' := 11) d224_10 rfl (by decide) ?_
        refine r_ialdN (pc' := 12) (j := 1) d224_11 rfl sh51 (pl hN rfl) rfl (by omega) (by decide) ?_
        refine r_icmp_ge 76 (pc' := 15) d224_12 rfl rfl (fun c12 => absurd c12 (by rw [show hi h 51 1 = nI m from hc1]; exact nI_ge (by omega) (by omega))) (fun c12 => ?_)
        refine r_aload_n (pc' := 16) d224_15 rfl rfl rfl ?_
        refine r_iload_n (pc' := 17) d224_16 rfl rfl rfl ?_
        refine r_call (pc' := 20) [vR (some 50), vI _] [] d224_17 rfl o224 st12_163_12 (rcv1 sh50 (pl hN rfl)) rfl (by decide) ⟨rfl, rfl⟩ (Nat.le_of_ble_eq_true rfl) rfl (s_isOn hN hM (by omega) ?_)
        refine r_if_eqB 39 (pc' := 23) d224_20 rfl rfl (fun c20 => ?_) (fun c20 => ?_)
        · refine r_iconst (v := 0) (pc' := 40) d224_39 rfl (by decide) ?_
          refine r_istore_n (pc' := 41) (ls' := [(3, vI _), (0, vR (some 50)), (1, vI _), (2, vI _)]) d224_40 rfl rfl (by decide) rfl ?_
          refine r_iload_n (pc' := 42) d224_41 rfl rfl rfl ?_
          refine r_if_eq 68 (pc' := 45) d224_42 rfl rfl (fun c42 => ?_) (fun c42 => absurd (by decide) c42)
          refine r_iload_n (pc' := 69) d224_68 rfl rfl rfl ?_
          refine r_istore_n (pc' := 70) (ls' := [(1, vI _), (3, vI _), (0, vR (some 50)), (2, vI _)]) d224_69 rfl rfl (by decide) rfl ?_
          refine r_iinc (v := _ + 1) (pc' := 73) (ls' := [(2, vI _), (1, vI _), (3, vI _), (0, vR (some 50))]) d224_70 rfl rfl rfl (by decide) rfl ?_
          refine r_goto 5 d224_73 rfl ?_
          refine wp_pick (ls' := [(0, vR (some 50)), (1, vI _), (2, vI _)]) [3, 1, 0] rfl ?_
          rw [nI_1]
          rw [hnB, hB] at ih2
          dsimp only at ih2
          rw [if_neg (fun z => c20 z.1)] at ih2
          exact ih2
        · refine r_aload_n (pc' := 24) d224_23 rfl rfl rfl ?_
          refine r_getS (pc' := 27) d224_24 rfl o224 sf12_7_12 sh50 (pl hN rfl) (rfm0 hM) ?_
          refine r_bipush (v := 75) (pc' := 29) d224_27 rfl (by decide) ?_
          refine r_iload_n (pc' := 30) d224_29 rfl rfl rfl ?_
          refine r_iadd (pc' := 31) d224_30 rfl ?_
          refine r_ialdN (pc' := 32) (j := (75 + k)) d224_31 rfl sh51 (pl hN rfl) (by simp only [lit, nI_add, pk_mul]) (by omega) (by decide) ?_
          refine r_if_ne 39 (pc' := 35) d224_32 rfl rfl (fun c32 => ?_) (fun c32 => ?_)
          · refine r_iconst (v := 0) (pc' := 40) d224_39 rfl (by decide) ?_
            refine r_istore_n (pc' := 41) (ls' := [(3, vI _), (0, vR (some 50)), (1, vI _), (2, vI _)]) d224_40 rfl rfl (by decide) rfl ?_
            refine r_iload_n (pc' := 42) d224_41 rfl rfl rfl ?_
            refine r_if_eq 68 (pc' := 45) d224_42 rfl rfl (fun c42 => ?_) (fun c42 => absurd (by decide) c42)
            refine r_iload_n (pc' := 69) d224_68 rfl rfl rfl ?_
            refine r_istore_n (pc' := 70) (ls' := [(1, vI _), (3, vI _), (0, vR (some 50)), (2, vI _)]) d224_69 rfl rfl (by decide) rfl ?_
            refine r_iinc (v := _ + 1) (pc' := 73) (ls' := [(2, vI _), (1, vI _), (3, vI _), (0, vR (some 50))]) d224_70 rfl rfl rfl (by decide) rfl ?_
            refine r_goto 5 d224_73 rfl ?_
            refine wp_pick (ls' := [(0, vR (some 50)), (1, vI _), (2, vI _)]) [3, 1, 0] rfl ?_
            rw [nI_1]
            rw [hnB, hB] at ih2
            dsimp only at ih2
            rw [if_neg (fun z => c32 z.2)] at ih2
            exact ih2
          · refine r_iconst (v := 1) (pc' := 36) d224_35 rfl (by decide) ?_
            refine r_goto 40 d224_36 rfl ?_
            refine r_istore_n (pc' := 41) (ls' := [(3, vI _), (0, vR (some 50)), (1, vI _), (2, vI _)]) d224_40 rfl rfl (by decide) rfl ?_
            refine r_iload_n (pc' := 42) d224_41 rfl rfl rfl ?_
            refine r_if_eq 68 (pc' := 45) d224_42 rfl rfl (fun c42 => absurd c42 (by decide)) (fun c42 => ?_)
            refine r_iload_n (pc' := 46) d224_45 rfl rfl rfl ?_
            refine r_ldc (pc' := 48) d224_46 rfl o224 kc12_53 ?_
            refine r_icmp_eq 64 (pc' := 51) d224_48 rfl rfl (fun c48 => ?_) (fun c48 => absurd rfl c48)
            refine r_iload_n (pc' := 65) d224_64 rfl rfl rfl ?_
            refine r_goto 69 d224_65 rfl ?_
            refine r_istore_n (pc' := 70) (ls' := [(1, vI _), (3, vI _), (0, vR (some 50)), (2, vI _)]) d224_69 rfl rfl (by decide) rfl ?_
            refine r_iinc (v := _ + 1) (pc' := 73) (ls' := [(2, vI _), (1, vI _), (3, vI _), (0, vR (some 50))]) d224_70 rfl rfl rfl (by decide) rfl ?_
            refine r_goto 5 d224_73 rfl ?_
            refine wp_pick (ls' := [(0, vR (some 50)), (1, vI _), (2, vI _)]) [3, 1, 0] rfl ?_
            rw [nI_1]
            rw [hnB, hB] at ih2
            dsimp only at ih2
            rw [if_pos ⟨c20, c32⟩] at ih2
            exact ih2
      | some b =>
        have hb := hnB_lt _ _ _ hB
        refine r_iload_n (pc' := 6) d224_5 rfl rfl rfl ?_
        refine r_aload_n (pc' := 7) d224_6 rfl rfl rfl ?_
        refine r_getS (pc' := 10) d224_7 rfl o224 sf12_7_12 sh50 (pl hN rfl) (rfm0 hM) ?_
        refine r_iconst (v := 1) (pc' := 11) d224_10 rfl (by decide) ?_
        refine r_ialdN (pc' := 12) (j := 1) d224_11 rfl sh51 (pl hN rfl) rfl (by omega) (by decide) ?_
        refine r_icmp_ge 76 (pc' := 15) d224_12 rfl rfl (fun c12 => absurd c12 (by rw [show hi h 51 1 = nI m from hc1]; exact nI_ge (by omega) (by omega))) (fun c12 => ?_)
        refine r_aload_n (pc' := 16) d224_15 rfl rfl rfl ?_
        refine r_iload_n (pc' := 17) d224_16 rfl rfl rfl ?_
        refine r_call (pc' := 20) [vR (some 50), vI _] [] d224_17 rfl o224 st12_163_12 (rcv1 sh50 (pl hN rfl)) rfl (by decide) ⟨rfl, rfl⟩ (Nat.le_of_ble_eq_true rfl) rfl (s_isOn hN hM (by omega) ?_)
        refine r_if_eqB 39 (pc' := 23) d224_20 rfl rfl (fun c20 => ?_) (fun c20 => ?_)
        · refine r_iconst (v := 0) (pc' := 40) d224_39 rfl (by decide) ?_
          refine r_istore_n (pc' := 41) (ls' := [(3, vI _), (0, vR (some 50)), (1, vI _), (2, vI _)]) d224_40 rfl rfl (by decide) rfl ?_
          refine r_iload_n (pc' := 42) d224_41 rfl rfl rfl ?_
          refine r_if_eq 68 (pc' := 45) d224_42 rfl rfl (fun c42 => ?_) (fun c42 => absurd (by decide) c42)
          refine r_iload_n (pc' := 69) d224_68 rfl rfl rfl ?_
          refine r_istore_n (pc' := 70) (ls' := [(1, vI _), (3, vI _), (0, vR (some 50)), (2, vI _)]) d224_69 rfl rfl (by decide) rfl ?_
          refine r_iinc (v := _ + 1) (pc' := 73) (ls' := [(2, vI _), (1, vI _), (3, vI _), (0, vR (some 50))]) d224_70 rfl rfl rfl (by decide) rfl ?_
          refine r_goto 5 d224_73 rfl ?_
          refine wp_pick (ls' := [(0, vR (some 50)), (1, vI _), (2, vI _)]) [3, 1, 0] rfl ?_
          rw [nI_1]
          rw [hnB, hB] at ih2
          dsimp only at ih2
          rw [if_neg (fun z => c20 z.1)] at ih2
          exact ih2
        · refine r_aload_n (pc' := 24) d224_23 rfl rfl rfl ?_
          refine r_getS (pc' := 27) d224_24 rfl o224 sf12_7_12 sh50 (pl hN rfl) (rfm0 hM) ?_
          refine r_bipush (v := 75) (pc' := 29) d224_27 rfl (by decide) ?_
          refine r_iload_n (pc' := 30) d224_29 rfl rfl rfl ?_
          refine r_iadd (pc' := 31) d224_30 rfl ?_
          refine r_ialdN (pc' := 32) (j := (75 + k)) d224_31 rfl sh51 (pl hN rfl) (by simp only [lit, nI_add, pk_mul]) (by omega) (by decide) ?_
          refine r_if_ne 39 (pc' := 35) d224_32 rfl rfl (fun c32 => ?_) (fun c32 => ?_)
          · refine r_iconst (v := 0) (pc' := 40) d224_39 rfl (by decide) ?_
            refine r_istore_n (pc' := 41) (ls' := [(3, vI _), (0, vR (some 50)), (1, vI _), (2, vI _)]) d224_40 rfl rfl (by decide) rfl ?_
            refine r_iload_n (pc' := 42) d224_41 rfl rfl rfl ?_
            refine r_if_eq 68 (pc' := 45) d224_42 rfl rfl (fun c42 => ?_) (fun c42 => absurd (by decide) c42)
            refine r_iload_n (pc' := 69) d224_68 rfl rfl rfl ?_
            refine r_istore_n (pc' := 70) (ls' := [(1, vI _), (3, vI _), (0, vR (some 50)), (2, vI _)]) d224_69 rfl rfl (by decide) rfl ?_
            refine r_iinc (v := _ + 1) (pc' := 73) (ls' := [(2, vI _), (1, vI _), (3, vI _), (0, vR (some 50))]) d224_70 rfl rfl rfl (by decide) rfl ?_
            refine r_goto 5 d224_73 rfl ?_
            refine wp_pick (ls' := [(0, vR (some 50)), (1, vI _), (2, vI _)]) [3, 1, 0] rfl ?_
            rw [nI_1]
            rw [hnB, hB] at ih2
            dsimp only at ih2
            rw [if_neg (fun z => c32 z.2.1)] at ih2
            exact ih2
          · refine r_iconst (v := 1) (pc' := 36) d224_35 rfl (by decide) ?_
            refine r_goto 40 d224_36 rfl ?_
            refine r_istore_n (pc' := 41) (ls' := [(3, vI _), (0, vR (some 50)), (1, vI _), (2, vI _)]) d224_40 rfl rfl (by decide) rfl ?_
            refine r_iload_n (pc' := 42) d224_41 rfl rfl rfl ?_
            refine r_if_eq 68 (pc' := 45) d224_42 rfl rfl (fun c42 => absurd c42 (by decide)) (fun c42 => ?_)
            refine r_iload_n (pc' := 46) d224_45 rfl rfl rfl ?_
            refine r_ldc (pc' := 48) d224_46 rfl o224 kc12_53 ?_
            refine r_icmp_eq 64 (pc' := 51) d224_48 rfl rfl (fun c48 => absurd c48 (nI_none (by omega))) (fun c48 => ?_)
            refine r_aload_n (pc' := 52) d224_51 rfl rfl rfl ?_
            refine r_iload_n (pc' := 53) d224_52 rfl rfl rfl ?_
            refine r_call (pc' := 56) [vR (some 50), vI _] [] d224_53 rfl o224 st12_160_12 (rcv1 sh50 (pl hN rfl)) rfl (by decide) ⟨rfl, rfl⟩ (Nat.le_of_ble_eq_true rfl) rfl (s_below hN hM (by omega) ?_)
            refine r_aload_n (pc' := 57) d224_56 rfl rfl rfl ?_
            refine r_iload_n (pc' := 58) d224_57 rfl rfl rfl ?_
            refine r_call (pc' := 61) [vR (some 50), vI _] [vI _] d224_58 rfl o224 st12_160_12 (rcv1 sh50 (pl hN rfl)) rfl (by decide) ⟨rfl, rfl⟩ (Nat.le_of_ble_eq_true rfl) rfl (s_below hN hM (by omega) ?_)
            refine r_icmp_le 68 (pc' := 64) d224_61 rfl rfl (fun c61 => ?_) (fun c61 => ?_)
            · refine r_iload_n (pc' := 69) d224_68 rfl rfl rfl ?_
              refine r_istore_n (pc' := 70) (ls' := [(1, vI _), (3, vI _), (0, vR (some 50)), (2, vI _)]) d224_69 rfl rfl (by decide) rfl ?_
              refine r_iinc (v := _ + 1) (pc' := 73) (ls' := [(2, vI _), (1, vI _), (3, vI _), (0, vR (some 50))]) d224_70 rfl rfl rfl (by decide) rfl ?_
              refine r_goto 5 d224_73 rfl ?_
              refine wp_pick (ls' := [(0, vR (some 50)), (1, vI _), (2, vI _)]) [3, 1, 0] rfl ?_
              rw [nI_1]
              rw [hnB, hB] at ih2
              dsimp only at ih2
              rw [if_neg (fun z => absurd z.2.2 (Int32.not_lt.mpr c61))] at ih2
              exact ih2
            · refine r_iload_n (pc' := 65) d224_64 rfl rfl rfl ?_
              refine r_goto 69 d224_65 rfl ?_
              refine r_istore_n (pc' := 70) (ls' := [(1, vI _), (3, vI _), (0, vR (some 50)), (2, vI _)]) d224_69 rfl rfl (by decide) rfl ?_
              refine r_iinc (v := _ + 1) (pc' := 73) (ls' := [(2, vI _), (1, vI _), (3, vI _), (0, vR (some 50))]) d224_70 rfl rfl rfl (by decide) rfl ?_
              refine r_goto 5 d224_73 rfl ?_
              refine wp_pick (ls' := [(0, vR (some 50)), (1, vI _), (2, vI _)]) [3, 1, 0] rfl ?_
              rw [nI_1]
              rw [hnB, hB] at ih2
              dsimp only at ih2
              rw [if_pos ⟨c20, c32, Int32.not_le.mp c61⟩] at ih2
              exact ih2
  exact loop m 0 (by omega)
def flp (s : Nat → Int32) (o : Option Nat) : Nat → Int32 := match o with
  | none => s
  | some b => upd s (69 + b) (1 - s (69 + b))
def hdS (s : Nat → Int32) (m L : Nat) : Nat → Nat → Int32
  | 0 => s
  | k + 1 => gm (flp (hdS s m L k) (hnI (hdS s m L k) m)) m L
def hdT (s : Nat → Int32) (m L : Nat) : Nat → Nat
  | 0 => 0
  | k + 1 => hdT s m L k + (if (hnI (hdS s m L k) m).isSome then 1 else 0)
theorem hdT_le (s : Nat → Int32) (m L k : Nat) : hdT s m L k ≤ k := by
  induction k with
  | zero => exact Nat.le_refl _
  | succ k ih => unfold hdT; split <;> omega
theorem hnI_lt {s : Nat → Int32} {m b : Nat} (h : hnI s m = some b) : b < m := by
  unfold hnI at h
  cases hq : hnB s m with
  | none => rw [hq] at h; cases h
  | some c => rw [hq] at h; dsimp only at h; split at h; cases h; exact hnB_lt _ _ _ hq; cases h
theorem flp_lo (s : Nat → Int32) (o : Option Nat) (i : Nat) (h : i < 69) : flp s o i = s i := by
  cases o with
  | none => rfl
  | some b => exact upd_ne _ _ _ (by omega)
theorem sk_flp {s : Nat → Int32} (h : ¬ s 3 = 0) (o : Option Nat) : ¬ flp s o 3 = 0 := by rw [flp_lo _ _ _ (by decide)]; exact h
theorem cnt_flp {s : Nat → Int32} {m L e : Nat} (h : Cnt s m L e) (o : Option Nat) : Cnt (flp s o) m L e := h.out (flp_lo _ _ _ (by decide)) (flp_lo _ _ _ (by decide)) (flp_lo _ _ _ (by decide))
theorem out_flp {s' s : Nat → Int32} (h : Outs s' s) (o : Option Nat) (ho : ∀ b, o = some b → b < 6) : Outs (flp s' o) s := by
  cases o with
  | none => exact h
  | some b => have := ho b rfl; exact h.upd _ _ (by omega) (by omega)
theorem hdS_ok {s : Nat → Int32} {m L e : Nat} (hc : Cnt s m L e) (h3 : ¬ s 3 = 0) (k : Nat) : Cnt (hdS s m L k) m L e ∧ ¬ hdS s m L k 3 = 0 ∧ Outs (hdS s m L k) s := by
  induction k with
  | zero => exact ⟨hc, h3, Outs.rf _⟩
  | succ k ih =>
    refine ⟨(cnt_flp ih.1 _).gm 1, ?_, (out_flp ih.2.2 _ (fun b hb => by have := hnI_lt hb; have := hc.2.1; omega)).gm hc.2.1 hc.2.2.2.1 1⟩
    exact sk_gm (show ¬ flp (hdS s m L k) (hnI (hdS s m L k) m) 3 = 0 by rw [flp_lo _ _ _ (by decide)]; exact ih.2.1) hc.2.2.2.1 1
def hdR (s : Nat → Int32) (m L n : Nat) (what : Int32) : Int32 := if what = 2 then nI (hdT s m L n) else if what = 0 then soB (hdS s m L n) m else soW (hdS s m L n) m
theorem M_hand {d : Nat} {h : Hp} {Q : Option AV → Hp → Prop} {m L e : Nat} {u what : Int32} (hN : hn h = 65) (hM : RM h) (hc : Cnt (hi h 51) m L e) (hsk : hi h 51 0 = 1 → ¬ hi h 51 3 = 0) (kS : ¬ hi h 51 0 = 1 → Q (some (vI (-1000002))) h) (kB : hi h 51 0 = 1 → (¬ (1 ≤ u ∧ u ≤ 60) ∨ ¬ (0 ≤ what ∧ what ≤ 2)) → Q (some (vI (-1000001))) h)
    (kW : hi h 51 0 = 1 → ∀ n : Nat, 1 ≤ n → n ≤ 60 → u = nI n → (0 ≤ what ∧ what ≤ 2) → ∀ x y, Q (some (vI (hdR (hi h 51) m L n what))) (jk h x y)) : Spec (d + 4) 225 [vR (some 50), vI u, vI what] h Q := by
  obtain ⟨hc1, hc2, hc3, hc4, hc5, hc6⟩ := id hc
  refine spec_intro (by decide +kernel) rfl (Nat.le_of_ble_eq_true rfl) ?_
  refine r_aload_n (pc' := 1) d225_0 rfl rfl rfl ?_
  refine r_call (pc' := 4) [vR (some 50)] [] d225_1 rfl o225 st12_184_12 (rcv1 sh50 (pl hN rfl)) rfl (by decide) ⟨rfl, rfl⟩ (Nat.le_of_ble_eq_true rfl) rfl (s_isYard hN hM ?_)
  refine r_if_neB 10 (pc' := 7) d225_4 rfl rfl (fun c4 => ?_) (fun c4 => ?_)
  · refine r_iload_n (pc' := 11) d225_10 rfl rfl rfl ?_
    refine r_iconst (v := 1) (pc' := 12) d225_11 rfl (by decide) ?_
    refine r_bipush (v := 60) (pc' := 14) d225_12 rfl (by decide) ?_
    refine r_call (pc' := 17) [vI _, vI _, vI _] [] d225_14 rfl o225 st12_59 rcv0 rfl (by decide) ⟨rfl, rfl⟩ (Nat.le_of_ble_eq_true rfl) rfl (s_in ?_)
    refine r_if_eqB 29 (pc' := 20) d225_17 rfl rfl (fun c17 => ?_) (fun c17 => ?_)
    · refine r_ldc (pc' := 31) d225_29 rfl o225 kc12_67 ?_
      exact r_iretI d225_31 rfl (kB c4 (by first | exact Or.inl c17 | exact Or.inr c26))
    · refine r_iload_n (pc' := 21) d225_20 rfl rfl rfl ?_
      refine r_iconst (v := 0) (pc' := 22) d225_21 rfl (by decide) ?_
      refine r_iconst (v := 2) (pc' := 23) d225_22 rfl (by decide) ?_
      refine r_call (pc' := 26) [vI _, vI _, vI _] [] d225_23 rfl o225 st12_59 rcv0 rfl (by decide) ⟨rfl, rfl⟩ (Nat.le_of_ble_eq_true rfl) rfl (s_in ?_)
      refine r_if_neB 32 (pc' := 29) d225_26 rfl rfl (fun c26 => ?_) (fun c26 => ?_)
      · obtain ⟨n, ⟨hn1, hn2⟩, rfl⟩ := nI_of3 (a := 1) (b := 60) c17 (by decide)
        refine r_aload_n (pc' := 33) d225_32 rfl rfl rfl ?_
        refine r_call (pc' := 36) [vR (some 50)] [] d225_33 rfl o225 st12_217_12 (rcv1 sh50 (pl hN rfl)) rfl (by decide) ⟨rfl, rfl⟩ (Nat.le_of_ble_eq_true rfl) rfl (s_holdsF hN hM ?_)
        refine r_iconst (v := 0) (pc' := 37) d225_36 rfl (by decide) ?_
        refine r_istore_n (pc' := 38) (ls' := [(3, vI _), (0, vR (some 50)), (1, vI _), (2, vI _)]) d225_37 rfl rfl (by decide) rfl ?_
        refine r_iconst (v := 0) (pc' := 39) d225_38 rfl (by decide) ?_
        refine r_istore (pc' := 41) (ls' := [(4, vI _), (3, vI _), (0, vR (some 50)), (1, vI _), (2, vI _)]) d225_39 rfl (by decide) rfl ?_
        refine wp_pick (ls' := [(0, vR (some 50)), (1, vI _), (2, vI _), (3, vI _), (4, vI _)]) [2, 3, 4, 1, 0] rfl ?_
        have loop : ∀ (r k : Nat) (x : Nat → Int32), k + r = n → wp (d + 4) 225 Q 0 0 41 [(0, vR (some 50)), (1, vI (nI n)), (2, vI what), (3, vI (nI (hdT (hi h 51) m L k))), (4, vI (nI k))] [] (fw h (hold66 (hi h 51) (hi h 61)) x (hdS (hi h 51) m L k)) := by
          intro r
          induction r with
          | zero =>
            intro k x hk
            obtain rfl : k = n := by omega
            refine r_iload (pc' := 43) d225_41 rfl rfl ?_
            refine r_iload_n (pc' := 44) d225_43 rfl rfl rfl ?_
            refine r_icmp_ge 95 (pc' := 47) d225_44 rfl rfl (fun c44 => ?_) (fun c44 => absurd (nI_le (Nat.le_refl _) (by omega)) c44)
            refine r_iload_n (pc' := 96) d225_95 rfl rfl rfl ?_
            refine r_iconst (v := 2) (pc' := 97) d225_96 rfl (by decide) ?_
            refine r_icmp_ne 104 (pc' := 100) d225_97 rfl rfl (fun c97 => ?_) (fun c97 => ?_)
            · refine r_aload_n (pc' := 105) d225_104 rfl rfl rfl ?_
              refine r_iload_n (pc' := 106) d225_105 rfl rfl rfl ?_
              refine r_if_ne 113 (pc' := 109) d225_106 rfl rfl (fun c106 => ?_) (fun c106 => ?_)
              · refine r_iconst (v := 0) (pc' := 114) d225_113 rfl (by decide) ?_
                refine r_call (pc' := 117) [vR (some 50), vI _] [] d225_114 rfl o225 st12_251_12 (rcv1 sh50 (pl hN rfl)) rfl (by decide) ⟨rfl, rfl⟩ (Nat.le_of_ble_eq_true rfl) rfl (s_setOfW hN hM (hdS_ok hc (hsk c4) k).1 ?_)
                refine r_istore (pc' := 119) (ls' := [(4, vI _), (0, vR (some 50)), (1, vI _), (2, vI _), (3, vI _)]) d225_117 rfl (by decide) rfl ?_
                refine r_aload_n (pc' := 120) d225_119 rfl rfl rfl ?_
                refine r_call (pc' := 123) [vR (some 50)] [] d225_120 rfl o225 st12_226_12 (rcv1 sh50 (pl hN rfl)) rfl (by decide) ⟨rfl, rfl⟩ (Nat.le_of_ble_eq_true rfl) rfl (s_backF hN hM (hdS_ok hc (hsk c4) k).2.2 ?_)
                refine r_iload (pc' := 125) d225_123 rfl rfl ?_
                exact r_iretI d225_125 rfl (qv (by rw [hdR, if_neg c97, if_neg c106] <;> rfl) (kW c4 k hn1 hn2 rfl c26 _ _))
              · refine r_iconst (v := 1) (pc' := 110) d225_109 rfl (by decide) ?_
                refine r_goto 114 d225_110 rfl ?_
                refine r_call (pc' := 117) [vR (some 50), vI _] [] d225_114 rfl o225 st12_251_12 (rcv1 sh50 (pl hN rfl)) rfl (by decide) ⟨rfl, rfl⟩ (Nat.le_of_ble_eq_true rfl) rfl (s_setOfB hN hM (hdS_ok hc (hsk c4) k).1 ?_)
                refine r_istore (pc' := 119) (ls' := [(4, vI _), (0, vR (some 50)), (1, vI _), (2, vI _), (3, vI _)]) d225_117 rfl (by decide) rfl ?_
                refine r_aload_n (pc' := 120) d225_119 rfl rfl rfl ?_
                refine r_call (pc' := 123) [vR (some 50)] [] d225_120 rfl o225 st12_226_12 (rcv1 sh50 (pl hN rfl)) rfl (by decide) ⟨rfl, rfl⟩ (Nat.le_of_ble_eq_true rfl) rfl (s_backF hN hM (hdS_ok hc (hsk c4) k).2.2 ?_)
                refine r_iload (pc' := 125) d225_123 rfl rfl ?_
                exact r_iretI d225_125 rfl (qv (by rw [hdR, if_neg c97, if_pos c106] <;> rfl) (kW c4 k hn1 hn2 rfl c26 _ _))
            · refine r_iload_n (pc' := 101) d225_100 rfl rfl rfl ?_
              refine r_goto 117 d225_101 rfl ?_
              refine r_istore (pc' := 119) (ls' := [(4, vI _), (0, vR (some 50)), (1, vI _), (2, vI _), (3, vI _)]) d225_117 rfl (by decide) rfl ?_
              refine r_aload_n (pc' := 120) d225_119 rfl rfl rfl ?_
              refine r_call (pc' := 123) [vR (some 50)] [] d225_120 rfl o225 st12_226_12 (rcv1 sh50 (pl hN rfl)) rfl (by decide) ⟨rfl, rfl⟩ (Nat.le_of_ble_eq_true rfl) rfl (s_backF hN hM (hdS_ok hc (hsk c4) k).2.2 ?_)
              refine r_iload (pc' := 125) d225_123 rfl rfl ?_
              exact r_iretI d225_125 rfl (qv (by rw [hdR, if_pos c97] <;> rfl) (kW c4 k hn1 hn2 rfl c26 _ _))
          | succ r ih =>
            intro k x hk
            have ih2 := ih (k + 1)
            rw [hdT, hdS] at ih2
            have hT := hdT_le (hi h 51) m L k
            refine r_iload (pc' := 43) d225_41 rfl rfl ?_
            refine r_iload_n (pc' := 44) d225_43 rfl rfl rfl ?_
            refine r_icmp_ge 95 (pc' := 47) d225_44 rfl rfl (fun c44 => absurd c44 (nI_ge (by omega) (by omega))) (fun c44 => ?_)
            refine r_aload_n (pc' := 48) d225_47 rfl rfl rfl ?_
            refine r_call (pc' := 51) [vR (some 50)] [] d225_48 rfl o225 st12_248_12 (rcv1 sh50 (pl hN rfl)) rfl (by decide) ⟨rfl, rfl⟩ (Nat.le_of_ble_eq_true rfl) rfl (s_handles hN hM (hdS_ok hc (hsk c4) k).1 ?_)
            refine r_istore (pc' := 53) (ls' := [(5, vI _), (0, vR (some 50)), (1, vI _), (2, vI _), (3, vI _), (4, vI _)]) d225_51 rfl (by decide) rfl ?_
            refine wp_pick (ls' := [(0, vR (some 50)), (1, vI _), (2, vI _), (3, vI _), (4, vI _), (5, vI (oN (hnI (hdS (hi h 51) m L k) m)))]) [1, 2, 3, 4, 5, 0] rfl ?_
            cases hB : hnI (hdS (hi h 51) m L k) m with
            | none =>
              rw [hB] at ih2
              refine r_iload (pc' := 55) d225_53 rfl rfl ?_
              refine r_ldc (pc' := 57) d225_55 rfl o225 kc12_53 ?_
              refine r_icmp_eq 85 (pc' := 60) d225_57 rfl rfl (fun c57 => ?_) (fun c57 => absurd rfl c57)
              refine r_aload_n (pc' := 86) d225_85 rfl rfl rfl ?_
              refine r_call (pc' := 89) [vR (some 50)] [] d225_86 rfl o225 st12_191_12 (rcv1 sh50 (pl hN rfl)) rfl (by decide) ⟨rfl, rfl⟩ (Nat.le_of_ble_eq_true rfl) rfl (s_gmF hN hM (cnt_flp (hdS_ok hc (hsk c4) k).1 none) (sk_flp (hdS_ok hc (hsk c4) k).2.1 none) (fun x2 => ?_))
              refine r_iinc (v := _ + 1) (pc' := 92) (ls' := [(4, vI _), (0, vR (some 50)), (1, vI _), (2, vI _), (3, vI _), (5, vI _)]) d225_89 rfl rfl rfl (by decide) rfl ?_
              refine r_goto 41 d225_92 rfl ?_
              refine wp_pick (ls' := [(0, vR (some 50)), (1, vI _), (2, vI _), (3, vI _), (4, vI _)]) [1, 2, 3, 4, 0] rfl ?_
              rw [nI_1]
              exact ih2 x2 (by omega)
            | some b =>
              rw [hB] at ih2
              have hb : b < m := hnI_lt hB
              refine wp_pick (ls' := [(0, vR (some 50)), (1, vI _), (2, vI _), (3, vI _), (4, vI _), (5, vI (nI b))]) [0, 1, 2, 3, 4, 5] rfl ?_
              refine r_iload (pc' := 55) d225_53 rfl rfl ?_
              refine r_ldc (pc' := 57) d225_55 rfl o225 kc12_53 ?_
              refine r_icmp_eq 85 (pc' := 60) d225_57 rfl rfl (fun c57 => absurd c57 (nI_none (by omega))) (fun c57 => ?_)
              refine r_aload_n (pc' := 61) d225_60 rfl rfl rfl ?_
              refine r_getS (pc' := 64) d225_61 rfl o225 sf12_7_12 sh50 (pl hN rfl) (rfm0 hM) ?_
              refine r_bipush (v := 69) (pc' := 66) d225_64 rfl (by decide) ?_
              refine r_iload (pc' := 68) d225_66 rfl rfl ?_
              refine r_iadd (pc' := 69) d225_68 rfl ?_
              refine r_iconst (v := 1) (pc' := 70) d225_69 rfl (by decide) ?_
              refine r_aload_n (pc' := 71) d225_70 rfl rfl rfl ?_
              refine r_getS (pc' := 74) d225_71 rfl o225 sf12_7_12 sh50 (pl hN rfl) (rfm0 hM) ?_
              refine r_bipush (v := 69) (pc' := 76) d225_74 rfl (by decide) ?_
              refine r_iload (pc' := 78) d225_76 rfl rfl ?_
              refine r_iadd (pc' := 79) d225_78 rfl ?_
              refine r_ialdN (pc' := 80) (j := (69 + b)) d225_79 rfl sh51 (pl hN rfl) (by simp only [lit, nI_add, pk_mul]) (by omega) (by decide) ?_
              refine r_isub (pc' := 81) d225_80 rfl ?_
              refine r_iastN (pc' := 82) (j := (69 + b)) d225_81 rfl sh51 (pl hN rfl) (by simp only [lit, nI_add, pk_mul]) (by omega) (by decide) ?_
              refine r_iinc (v := _ + 1) (pc' := 85) (ls' := [(3, vI _), (0, vR (some 50)), (1, vI _), (2, vI _), (4, vI _), (5, vI _)]) d225_82 rfl rfl rfl (by decide) rfl ?_
              refine wp_heap (fw_s h (hold66 (hi h 51) (hi h 61)) x _ _ _) ?_
              refine r_aload_n (pc' := 86) d225_85 rfl rfl rfl ?_
              refine r_call (pc' := 89) [vR (some 50)] [] d225_86 rfl o225 st12_191_12 (rcv1 sh50 (pl hN rfl)) rfl (by decide) ⟨rfl, rfl⟩ (Nat.le_of_ble_eq_true rfl) rfl (s_gmF hN hM (cnt_flp (hdS_ok hc (hsk c4) k).1 (some b)) (sk_flp (hdS_ok hc (hsk c4) k).2.1 (some b)) (fun x2 => ?_))
              refine r_iinc (v := _ + 1) (pc' := 92) (ls' := [(4, vI _), (3, vI _), (0, vR (some 50)), (1, vI _), (2, vI _), (5, vI _)]) d225_89 rfl rfl rfl (by decide) rfl ?_
              refine r_goto 41 d225_92 rfl ?_
              refine wp_pick (ls' := [(0, vR (some 50)), (1, vI _), (2, vI _), (3, vI _), (4, vI _)]) [2, 3, 4, 1, 0] rfl ?_
              rw [nI_1]
              rw [nI_1]
              exact ih2 x2 (by omega)
        exact loop n 0 (hi h 60) (by omega)
      · refine r_ldc (pc' := 31) d225_29 rfl o225 kc12_67 ?_
        exact r_iretI d225_31 rfl (kB c4 (by first | exact Or.inl c17 | exact Or.inr c26))
  · refine r_ldc (pc' := 9) d225_7 rfl o225 kc12_187 ?_
    exact r_iretI d225_9 rfl (kS c4)
