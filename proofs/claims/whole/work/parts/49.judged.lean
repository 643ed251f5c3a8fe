/-! the reference: judged, count (printed by wip/whole/m49.py) -/
def okIt (s : Nat → Int32) (m : Nat) (v : Int32) : Bool := decide (v = -1) || (decide (inR v m) && !decide (goneI s v.toNatClampNeg))
def arL (s g : Nat → Int32) (m at0 : Nat) : Nat → Bool
  | 0 => true
  | k + 1 => arL s g m at0 k && okIt s m (g (at0 + k))
theorem arL_at {s g : Nat → Int32} {m at0 n : Nat} (h : arL s g m at0 n = true) (k : Nat) (hk : k < n) : okIt s m (g (at0 + k)) = true := by
  induction n with
  | zero => omega
  | succ n ih =>
    unfold arL at h
    rw [Bool.and_eq_true] at h
    by_cases e : k = n
    · subst e; exact h.2
    · exact ih h.1 (by omega)
theorem okIt_of {s : Nat → Int32} {m : Nat} {v : Int32} (h : okIt s m v = true) (hm : m ≤ 6) : v = -1 ∨ ∃ q : Nat, q < m ∧ v = nI q ∧ ¬ goneI s q := by
  unfold okIt at h
  rw [Bool.or_eq_true, Bool.and_eq_true] at h
  rcases h with h | ⟨h1, h2⟩
  · exact Or.inl (of_decide_eq_true h)
  · obtain ⟨q, hq, e⟩ := inR_of (of_decide_eq_true h1) (by omega)
    refine Or.inr ⟨q, hq, e, ?_⟩
    subst e
    rw [nI_clamp (by omega)] at h2
    simpa using h2
theorem s_areItems {d : Nat} {h : Hp} {Q : Option AV → Hp → Prop} {m L e : Nat} {j p n : Nat} (hN : hn h = 65) (hM : RM h) (hc : Cnt (hi h 51) m L e) (hj : j < 8) (hpn : p + n ≤ 40) (kk : Q (some (vI (bI ((arL (hi h 51) (hi h 57) m (40 * j + p) n) = true)))) h) : Spec (d + 2) 226 [vR (some 50), vI (nI j), vI (nI p), vI (nI n)] h Q := by
  obtain ⟨hc1, hc2, hc3, hc4, hc5, hc6⟩ := id hc
  refine spec_intro (by decide +kernel) rfl (Nat.le_of_ble_eq_true rfl) ?_
  refine r_iconst (v := 1) (pc' := 1) d226_0 rfl (by decide) ?_
  refine r_istore (pc' := 3) (ls' := [(4, vI _), (0, vR (some 50)), (1, vI _), (2, vI _), (3, vI _)]) d226_1 rfl (by decide) rfl ?_
  refine r_iconst (v := 0) (pc' := 4) d226_3 rfl (by decide) ?_
  refine r_istore (pc' := 6) (ls' := [(5, vI _), (4, vI _), (0, vR (some 50)), (1, vI _), (2, vI _), (3, vI _)]) d226_4 rfl (by decide) rfl ?_
  refine wp_pick (ls' := [(0, vR (some 50)), (1, vI _), (2, vI _), (3, vI _), (4, vI _), (5, vI _)]) [2, 3, 4, 5, 1, 0] rfl ?_
  have loop : ∀ (r k : Nat), k + r = n → wp (d + 2) 226 Q 0 0 6 [(0, vR (some 50)), (1, vI (nI j)), (2, vI (nI p)), (3, vI (nI n)), (4, vI (bI ((arL (hi h 51) (hi h 57) m (40 * j + p) k) = true))), (5, vI (nI k))] [] h := by
    intro r
    induction r with
    | zero =>
      intro k hk
      obtain rfl : k = n := by omega
      refine r_iload (pc' := 8) d226_6 rfl rfl ?_
      refine r_iload_n (pc' := 9) d226_8 rfl rfl rfl ?_
      refine r_icmp_ge 70 (pc' := 12) d226_9 rfl rfl (fun c9 => ?_) (fun c9 => absurd (nI_le (Nat.le_refl _) (by omega)) c9)
      refine r_iload (pc' := 72) d226_70 rfl rfl ?_
      exact r_iretB d226_72 rfl kk
    | succ r ih =>
      intro k hk
      refine r_iload (pc' := 8) d226_6 rfl rfl ?_
      refine r_iload_n (pc' := 9) d226_8 rfl rfl rfl ?_
      refine r_icmp_ge 70 (pc' := 12) d226_9 rfl rfl (fun c9 => absurd c9 (nI_ge (by omega) (by omega))) (fun c9 => ?_)
      refine r_aload_n (pc' := 13) d226_12 rfl rfl rfl ?_
      refine r_getS (pc' := 16) d226_13 rfl o226 sf12_29_12 sh50 (pl hN rfl) (rfm7 hM) ?_
      refine r_bipush (v := 40) (pc' := 18) d226_16 rfl (by decide) ?_
      refine r_iload_n (pc' := 19) d226_18 rfl rfl rfl ?_
      refine r_imul (pc' := 20) d226_19 rfl ?_
      refine r_iload_n (pc' := 21) d226_20 rfl rfl rfl ?_
      refine r_iadd (pc' := 22) d226_21 rfl ?_
      refine r_iload (pc' := 24) d226_22 rfl rfl ?_
      refine r_iadd (pc' := 25) d226_24 rfl ?_
      refine r_ialdN (pc' := 26) (j := (((40 * j) + p) + k)) d226_25 rfl sh57 (pl hN rfl) (by simp only [lit, nI_add, pk_mul]) (by omega) (by decide) ?_
      refine r_istore (pc' := 28) (ls' := [(6, vI _), (0, vR (some 50)), (1, vI _), (2, vI _), (3, vI _), (4, vI _), (5, vI _)]) d226_26 rfl (by decide) rfl ?_
      refine r_iload (pc' := 30) d226_28 rfl rfl ?_
      refine r_if_eqB 61 (pc' := 33) d226_30 rfl rfl (fun c30 => ?_) (fun c30 => ?_)
      · refine r_iconst (v := 0) (pc' := 62) d226_61 rfl (by decide) ?_
        refine r_istore (pc' := 64) (ls' := [(4, vI _), (6, vI _), (0, vR (some 50)), (1, vI _), (2, vI _), (3, vI _), (5, vI _)]) d226_62 rfl (by decide) rfl ?_
        refine r_iinc (v := _ + 1) (pc' := 67) (ls' := [(5, vI _), (4, vI _), (6, vI _), (0, vR (some 50)), (1, vI _), (2, vI _), (3, vI _)]) d226_64 rfl rfl rfl (by decide) rfl ?_
        refine r_goto 6 d226_67 rfl ?_
        refine wp_pick (ls' := [(0, vR (some 50)), (1, vI _), (2, vI _), (3, vI _), (4, vI _), (5, vI _)]) [3, 4, 5, 6, 1, 0] rfl ?_
        rw [nI_1]
        have w := ih (k + 1) (by omega)
        rw [b0 (show ¬ (arL (hi h 51) (hi h 57) m (40 * j + p) (k + 1)) = true by rw [arL, Bool.and_eq_true]; exact fun z => c30 z.1)] at w
        exact w
      · refine r_iload (pc' := 35) d226_33 rfl rfl ?_
        refine r_iconst (v := (-1)) (pc' := 36) d226_35 rfl (by decide) ?_
        refine r_icmp_eq 57 (pc' := 39) d226_36 rfl rfl (fun c36 => ?_) (fun c36 => ?_)
        · refine r_iconst (v := 1) (pc' := 58) d226_57 rfl (by decide) ?_
          refine r_goto 62 d226_58 rfl ?_
          refine r_istore (pc' := 64) (ls' := [(4, vI _), (6, vI _), (0, vR (some 50)), (1, vI _), (2, vI _), (3, vI _), (5, vI _)]) d226_62 rfl (by decide) rfl ?_
          refine r_iinc (v := _ + 1) (pc' := 67) (ls' := [(5, vI _), (4, vI _), (6, vI _), (0, vR (some 50)), (1, vI _), (2, vI _), (3, vI _)]) d226_64 rfl rfl rfl (by decide) rfl ?_
          refine r_goto 6 d226_67 rfl ?_
          refine wp_pick (ls' := [(0, vR (some 50)), (1, vI _), (2, vI _), (3, vI _), (4, vI _), (5, vI _)]) [3, 4, 5, 6, 1, 0] rfl ?_
          rw [nI_1]
          have w := ih (k + 1) (by omega)
          rw [b1 (show (arL (hi h 51) (hi h 57) m (40 * j + p) (k + 1)) = true by rw [arL, Bool.and_eq_true]; exact ⟨c30, by rw [okIt, c36]; rfl⟩)] at w
          exact w
        · refine r_aload_n (pc' := 40) d226_39 rfl rfl rfl ?_
          refine r_iload (pc' := 42) d226_40 rfl rfl ?_
          refine r_call (pc' := 45) [vR (some 50), vI _] [] d226_42 rfl o226 st12_194_12 (rcv1 sh50 (pl hN rfl)) rfl (by decide) ⟨rfl, rfl⟩ (Nat.le_of_ble_eq_true rfl) rfl (s_isThingC hN hM hc ?_)
          refine r_if_eqB 61 (pc' := 48) d226_45 rfl rfl (fun c45 => ?_) (fun c45 => ?_)
          · refine r_iconst (v := 0) (pc' := 62) d226_61 rfl (by decide) ?_
            refine r_istore (pc' := 64) (ls' := [(4, vI _), (6, vI _), (0, vR (some 50)), (1, vI _), (2, vI _), (3, vI _), (5, vI _)]) d226_62 rfl (by decide) rfl ?_
            refine r_iinc (v := _ + 1) (pc' := 67) (ls' := [(5, vI _), (4, vI _), (6, vI _), (0, vR (some 50)), (1, vI _), (2, vI _), (3, vI _)]) d226_64 rfl rfl rfl (by decide) rfl ?_
            refine r_goto 6 d226_67 rfl ?_
            refine wp_pick (ls' := [(0, vR (some 50)), (1, vI _), (2, vI _), (3, vI _), (4, vI _), (5, vI _)]) [3, 4, 5, 6, 1, 0] rfl ?_
            rw [nI_1]
            have w := ih (k + 1) (by omega)
            rw [b0 (show ¬ (arL (hi h 51) (hi h 57) m (40 * j + p) (k + 1)) = true by rw [arL, Bool.and_eq_true]; intro z; rcases okIt_of z.2 hc2 with y | ⟨q, hq, e0, -⟩; exact c36 y; exact c45 (by rw [e0]; exact ⟨nI_pos' (by omega), by rw [show nI m - 1 = nI (m - 1) from pk_sub (b := 1) (by omega)]; exact nI_le (by omega) (by omega)⟩))] at w
            exact w
          · obtain ⟨q, hq, e0⟩ := inR_of c45 (by omega)
            refine r_aload_n (pc' := 49) d226_48 rfl rfl rfl ?_
            refine r_iload (pc' := 51) d226_49 rfl rfl ?_
            refine wp_v e0 ?_
            refine r_call (pc' := 54) [vR (some 50), vI _] [] d226_51 rfl o226 st12_178_12 (rcv1 sh50 (pl hN rfl)) rfl (by decide) ⟨rfl, rfl⟩ (Nat.le_of_ble_eq_true rfl) rfl (s_isGone hN hM (by omega) ?_)
            refine r_if_neB 61 (pc' := 57) d226_54 rfl rfl (fun c54 => ?_) (fun c54 => ?_)
            · refine r_iconst (v := 0) (pc' := 62) d226_61 rfl (by decide) ?_
              refine r_istore (pc' := 64) (ls' := [(4, vI _), (6, vI _), (0, vR (some 50)), (1, vI _), (2, vI _), (3, vI _), (5, vI _)]) d226_62 rfl (by decide) rfl ?_
              refine r_iinc (v := _ + 1) (pc' := 67) (ls' := [(5, vI _), (4, vI _), (6, vI _), (0, vR (some 50)), (1, vI _), (2, vI _), (3, vI _)]) d226_64 rfl rfl rfl (by decide) rfl ?_
              refine r_goto 6 d226_67 rfl ?_
              refine wp_pick (ls' := [(0, vR (some 50)), (1, vI _), (2, vI _), (3, vI _), (4, vI _), (5, vI _)]) [3, 4, 5, 6, 1, 0] rfl ?_
              rw [nI_1]
              have w := ih (k + 1) (by omega)
              rw [b0 (show ¬ (arL (hi h 51) (hi h 57) m (40 * j + p) (k + 1)) = true by rw [arL, Bool.and_eq_true]; intro z; rcases okIt_of z.2 hc2 with y | ⟨q2, hq2, e2, g2⟩; exact c36 y; obtain rfl : q = q2 := (nI_eq (by omega) (by omega)).mp (e0.symm.trans e2); exact g2 c54)] at w
              exact w
            · refine r_iconst (v := 1) (pc' := 58) d226_57 rfl (by decide) ?_
              refine r_goto 62 d226_58 rfl ?_
              refine r_istore (pc' := 64) (ls' := [(4, vI _), (6, vI _), (0, vR (some 50)), (1, vI _), (2, vI _), (3, vI _), (5, vI _)]) d226_62 rfl (by decide) rfl ?_
              refine r_iinc (v := _ + 1) (pc' := 67) (ls' := [(5, vI _), (4, vI _), (6, vI _), (0, vR (some 50)), (1, vI _), (2, vI _), (3, vI _)]) d226_64 rfl rfl rfl (by decide) rfl ?_
              refine r_goto 6 d226_67 rfl ?_
              refine wp_pick (ls' := [(0, vR (some 50)), (1, vI _), (2, vI _), (3, vI _), (4, vI _), (5, vI _)]) [3, 4, 5, 6, 1, 0] rfl ?_
              rw [nI_1]
              have w := ih (k + 1) (by omega)
              rw [b1 (show (arL (hi h 51) (hi h 57) m (40 * j + p) (k + 1)) = true by rw [arL, Bool.and_eq_true]; exact ⟨c30, by rw [okIt, Bool.or_eq_true, Bool.and_eq_true]; exact Or.inr ⟨decide_eq_true c45, by rw [e0, nI_clamp (by omega)]; simpa using c54⟩⟩)] at w
              exact w
  exact loop n 0 (by omega)
def jdO (v : Int32) : Option Nat := if v < 0 then none else some v.toNatClampNeg
def jdS (s g : Nat → Int32) (m L at0 : Nat) : Nat → Nat → Int32
  | 0 => s
  | k + 1 => gm (flp (jdS s g m L at0 k) (jdO (g (at0 + k)))) m L
theorem jdO_lt {s : Nat → Int32} {m : Nat} {v : Int32} (h : okIt s m v = true) (hm : m ≤ 6) (b : Nat) (hb : jdO v = some b) : b < m := by
  rcases okIt_of h hm with rfl | ⟨q, hq, rfl, -⟩
  · cases hb
  · unfold jdO at hb
    rw [if_neg (nI_pos (by omega)), nI_clamp (by omega)] at hb
    cases hb
    exact hq
theorem jdS_ok {s g : Nat → Int32} {m L e at0 n : Nat} (hc : Cnt s m L e) (h3 : ¬ s 3 = 0) (ha : arL s g m at0 n = true) (k : Nat) (hk : k ≤ n) : Cnt (jdS s g m L at0 k) m L e ∧ ¬ jdS s g m L at0 k 3 = 0 ∧ Outs (jdS s g m L at0 k) s := by
  induction k with
  | zero => exact ⟨hc, h3, Outs.rf _⟩
  | succ k ih =>
    have ih := ih (by omega)
    refine ⟨(cnt_flp ih.1 _).gm 1, ?_, (out_flp ih.2.2 _ (fun b hb => by have := jdO_lt (arL_at ha k (by omega)) hc.2.1 b hb; have := hc.2.1; omega)).gm hc.2.1 hc.2.2.2.1 1⟩
    exact sk_gm (sk_flp ih.2.1 _) hc.2.2.2.1 1
theorem M_judged {d : Nat} {h : Hp} {Q : Option AV → Hp → Prop} {m L e : Nat} {row i u : Int32} (hN : hn h = 65) (hM : RM h) (hc : Cnt (hi h 51) m L e) (hsk : hi h 51 0 = 1 → ¬ hi h 51 3 = 0) (hS : ∀ j, j < 8 → ∃ z : Nat, z ≤ 40 ∧ hi h 56 j = nI z) (kS : ¬ hi h 51 0 = 1 → Q (some (vI (-1000002))) h) (kB : hi h 51 0 = 1 → (¬ (0 ≤ row ∧ row ≤ 7) ∨ ¬ (0 ≤ u ∧ u ≤ 40)) → Q (some (vI (-1000001))) h)
    (kN : hi h 51 0 = 1 → ∀ j : Nat, j < 8 → row = nI j → ∀ n : Nat, n ≤ 40 → u = nI n →  hi h 55 j = -1000000 → Q (some (vI (-1000011))) (seti h 50 8 1))
    (kP : hi h 51 0 = 1 → ∀ j : Nat, j < 8 → row = nI j → ∀ n : Nat, n ≤ 40 → u = nI n →  ¬ hi h 55 j = -1000000 → ¬ (0 ≤ i ∧ (0 : Int32) ≤ nI n ∧ i.toInt + (nI n).toInt ≤ (hi h 56 j).toInt) → Q (some (vI (-1000012))) (seti h 50 8 2))
    (kI : hi h 51 0 = 1 → ∀ j : Nat, j < 8 → row = nI j → ∀ n : Nat, n ≤ 40 → u = nI n →  ¬ hi h 55 j = -1000000 → ∀ p : Nat, p + n ≤ 40 → i = nI p → (0 ≤ i ∧ (0 : Int32) ≤ nI n ∧ i.toInt + (nI n).toInt ≤ (hi h 56 j).toInt) → ¬ arL (hi h 51) (hi h 57) m (40 * j + p) n = true → Q (some (vI (-1000001))) h)
    (kW : hi h 51 0 = 1 → ∀ j : Nat, j < 8 → row = nI j → ∀ n : Nat, n ≤ 40 → u = nI n →  ¬ hi h 55 j = -1000000 → ∀ p : Nat, p + n ≤ 40 → i = nI p → (0 ≤ i ∧ (0 : Int32) ≤ nI n ∧ i.toInt + (nI n).toInt ≤ (hi h 56 j).toInt) → arL (hi h 51) (hi h 57) m (40 * j + p) n = true → ∀ x y, Q (some (vI (soW (jdS (hi h 51) (hi h 57) m L (40 * j + p) n) m))) (seti (jk h x y) 50 8 0)) : Spec (d + 4) 227 [vR (some 50), vI row, vI i, vI u] h Q := by
  obtain ⟨hc1, hc2, hc3, hc4, hc5, hc6⟩ := id hc
  refine spec_intro (by decide +kernel) rfl (Nat.le_of_ble_eq_true rfl) ?_
  refine r_aload_n (pc' := 1) d227_0 rfl rfl rfl ?_
  refine r_call (pc' := 4) [vR (some 50)] [] d227_1 rfl o227 st12_184_12 (rcv1 sh50 (pl hN rfl)) rfl (by decide) ⟨rfl, rfl⟩ (Nat.le_of_ble_eq_true rfl) rfl (s_isYard hN hM ?_)
  refine r_if_neB 10 (pc' := 7) d227_4 rfl rfl (fun c4 => ?_) (fun c4 => ?_)
  · refine r_iload_n (pc' := 11) d227_10 rfl rfl rfl ?_
    refine r_call (pc' := 14) [vI _] [] d227_11 rfl o227 st12_63 rcv0 rfl (by decide) ⟨rfl, rfl⟩ (Nat.le_of_ble_eq_true rfl) rfl (s_isRow ?_)
    refine r_if_eqB 27 (pc' := 17) d227_14 rfl rfl (fun c14 => ?_) (fun c14 => ?_)
    · refine r_ldc (pc' := 29) d227_27 rfl o227 kc12_67 ?_
      exact r_iretI d227_29 rfl (kB c4 (by first | exact Or.inl c14 | exact Or.inr c24))
    · refine r_iload_n (pc' := 18) d227_17 rfl rfl rfl ?_
      refine r_iconst (v := 0) (pc' := 19) d227_18 rfl (by decide) ?_
      refine r_bipush (v := 40) (pc' := 21) d227_19 rfl (by decide) ?_
      refine r_call (pc' := 24) [vI _, vI _, vI _] [] d227_21 rfl o227 st12_59 rcv0 rfl (by decide) ⟨rfl, rfl⟩ (Nat.le_of_ble_eq_true rfl) rfl (s_in ?_)
      refine r_if_neB 30 (pc' := 27) d227_24 rfl rfl (fun c24 => ?_) (fun c24 => ?_)
      · obtain ⟨j, hj, rfl⟩ := nat_of (n := 7) c14.1 c14.2 (by decide)
        obtain ⟨n, hn40, rfl⟩ := nat2 (n := 40) c24 (by decide)
        refine r_aload_n (pc' := 31) d227_30 rfl rfl rfl ?_
        refine r_getS (pc' := 34) d227_31 rfl o227 sf12_23_12 sh50 (pl hN rfl) (rfm5 hM) ?_
        refine r_iload_n (pc' := 35) d227_34 rfl rfl rfl ?_
        refine r_ialdN (pc' := 36) (j := j) d227_35 rfl sh55 (pl hN rfl) rfl (by omega) (by decide) ?_
        refine r_ldc (pc' := 38) d227_36 rfl o227 kc12_53 ?_
        refine r_icmp_ne 47 (pc' := 41) d227_38 rfl rfl (fun c38 => ?_) (fun c38 => ?_)
        · refine r_aload_n (pc' := 48) d227_47 rfl rfl rfl ?_
          refine r_iload_n (pc' := 49) d227_48 rfl rfl rfl ?_
          refine r_iload_n (pc' := 50) d227_49 rfl rfl rfl ?_
          refine r_iload_n (pc' := 51) d227_50 rfl rfl rfl ?_
          refine r_call (pc' := 54) [vR (some 50), vI _, vI _, vI _] [] d227_51 rfl o227 st12_75_12 (rcv1 sh50 (pl hN rfl)) rfl (by decide) ⟨rfl, rfl⟩ (Nat.le_of_ble_eq_true rfl) rfl (s_isSpan hN hM (by omega) ?_)
          refine r_if_neB 63 (pc' := 57) d227_54 rfl rfl (fun c54 => ?_) (fun c54 => ?_)
          · obtain ⟨z, hz, ez⟩ := hS j (by omega)
            obtain ⟨p, hp31, rfl⟩ := nI_of (Int32.not_lt.mpr c54.1)
            have hpn : p + n ≤ z := by have := c54.2.2; rw [ez, nI_toInt hp31, nI_toInt (by omega), nI_toInt (by omega)] at this; omega
            refine r_aload_n (pc' := 64) d227_63 rfl rfl rfl ?_
            refine r_iload_n (pc' := 65) d227_64 rfl rfl rfl ?_
            refine r_iload_n (pc' := 66) d227_65 rfl rfl rfl ?_
            refine r_iload_n (pc' := 67) d227_66 rfl rfl rfl ?_
            refine r_call (pc' := 70) [vR (some 50), vI _, vI _, vI _] [] d227_67 rfl o227 st12_255_12 (rcv1 sh50 (pl hN rfl)) rfl (by decide) ⟨rfl, rfl⟩ (Nat.le_of_ble_eq_true rfl) rfl (s_areItems hN hM hc (by omega) (by omega) ?_)
            refine r_if_neB 76 (pc' := 73) d227_70 rfl rfl (fun c70 => ?_) (fun c70 => ?_)
            · refine r_aload_n (pc' := 77) d227_76 rfl rfl rfl ?_
              refine r_call (pc' := 80) [vR (some 50)] [] d227_77 rfl o227 st12_217_12 (rcv1 sh50 (pl hN rfl)) rfl (by decide) ⟨rfl, rfl⟩ (Nat.le_of_ble_eq_true rfl) rfl (s_holdsF hN hM ?_)
              refine r_iconst (v := 0) (pc' := 81) d227_80 rfl (by decide) ?_
              refine r_istore (pc' := 83) (ls' := [(4, vI _), (0, vR (some 50)), (1, vI _), (2, vI _), (3, vI _)]) d227_81 rfl (by decide) rfl ?_
              refine wp_pick (ls' := [(0, vR (some 50)), (1, vI _), (2, vI _), (3, vI _), (4, vI _)]) [1, 2, 3, 4, 0] rfl ?_
              have loop : ∀ (r k : Nat) (x : Nat → Int32), k + r = n → wp (d + 4) 227 Q 0 0 83 [(0, vR (some 50)), (1, vI (nI j)), (2, vI (nI p)), (3, vI (nI n)), (4, vI (nI k))] [] (fw h (hold66 (hi h 51) (hi h 61)) x (jdS (hi h 51) (hi h 57) m L (40 * j + p) k)) := by
                intro r
                induction r with
                | zero =>
                  intro k x hk
                  obtain rfl : k = n := by omega
                  refine r_iload (pc' := 85) d227_83 rfl rfl ?_
                  refine r_iload_n (pc' := 86) d227_85 rfl rfl rfl ?_
                  refine r_icmp_ge 142 (pc' := 89) d227_86 rfl rfl (fun c86 => ?_) (fun c86 => absurd (nI_le (Nat.le_refl _) (by omega)) c86)
                  refine r_aload_n (pc' := 143) d227_142 rfl rfl rfl ?_
                  refine r_iconst (v := 0) (pc' := 144) d227_143 rfl (by decide) ?_
                  refine r_call (pc' := 147) [vR (some 50), vI _] [] d227_144 rfl o227 st12_251_12 (rcv1 sh50 (pl hN rfl)) rfl (by decide) ⟨rfl, rfl⟩ (Nat.le_of_ble_eq_true rfl) rfl (s_setOfW hN hM (jdS_ok hc (hsk c4) c70 k (by omega)).1 ?_)
                  refine r_istore (pc' := 149) (ls' := [(4, vI _), (0, vR (some 50)), (1, vI _), (2, vI _), (3, vI _)]) d227_147 rfl (by decide) rfl ?_
                  refine r_aload_n (pc' := 150) d227_149 rfl rfl rfl ?_
                  refine r_call (pc' := 153) [vR (some 50)] [] d227_150 rfl o227 st12_226_12 (rcv1 sh50 (pl hN rfl)) rfl (by decide) ⟨rfl, rfl⟩ (Nat.le_of_ble_eq_true rfl) rfl (s_backF hN hM (jdS_ok hc (hsk c4) c70 k (by omega)).2.2 ?_)
                  refine r_aload_n (pc' := 154) d227_153 rfl rfl rfl ?_
                  refine r_iload (pc' := 156) d227_154 rfl rfl ?_
                  refine r_call (pc' := 159) [vR (some 50), vI _] [] d227_156 rfl o227 st12_72_12 (rcv1 sh50 (pl hN rfl)) rfl (by decide) ⟨rfl, rfl⟩ (Nat.le_of_ble_eq_true rfl) rfl (s_well hN ?_)
                  exact r_iretI d227_159 rfl (kW c4 j (by omega) rfl k hn40 rfl c38 p (by omega) rfl c54 c70 _ _)
                | succ r ih =>
                  intro k x hk
                  have ih2 := ih (k + 1)
                  rw [jdS] at ih2
                  refine r_iload (pc' := 85) d227_83 rfl rfl ?_
                  refine r_iload_n (pc' := 86) d227_85 rfl rfl rfl ?_
                  refine r_icmp_ge 142 (pc' := 89) d227_86 rfl rfl (fun c86 => absurd c86 (nI_ge (by omega) (by omega))) (fun c86 => ?_)
                  refine r_aload_n (pc' := 90) d227_89 rfl rfl rfl ?_
                  refine r_getS (pc' := 93) d227_90 rfl o227 sf12_29_12 sh50 (pl hN rfl) (rfm7 hM) ?_
                  refine r_bipush (v := 40) (pc' := 95) d227_93 rfl (by decide) ?_
                  refine r_iload_n (pc' := 96) d227_95 rfl rfl rfl ?_
                  refine r_imul (pc' := 97) d227_96 rfl ?_
                  refine r_iload_n (pc' := 98) d227_97 rfl rfl rfl ?_
                  refine r_iadd (pc' := 99) d227_98 rfl ?_
                  refine r_iload (pc' := 101) d227_99 rfl rfl ?_
                  refine r_iadd (pc' := 102) d227_101 rfl ?_
                  refine r_ialdN (pc' := 103) (j := (((40 * j) + p) + k)) d227_102 rfl sh57 (pl hN rfl) (by simp only [lit, nI_add, pk_mul]) (by omega) (by decide) ?_
                  rcases okIt_of (arL_at c70 k (by omega)) hc2 with e0 | ⟨b, hb, e0, -⟩
                  · rw [e0] at ih2
                    refine wp_v e0 ?_
                    refine r_istore (pc' := 105) (ls' := [(5, vI _), (0, vR (some 50)), (1, vI _), (2, vI _), (3, vI _), (4, vI _)]) d227_103 rfl (by decide) rfl ?_
                    refine r_iload (pc' := 107) d227_105 rfl rfl ?_
                    refine r_if_lt 132 (pc' := 110) d227_107 rfl rfl (fun c107 => ?_) (fun c107 => absurd (by decide) c107)
                    refine r_aload_n (pc' := 133) d227_132 rfl rfl rfl ?_
                    refine r_call (pc' := 136) [vR (some 50)] [] d227_133 rfl o227 st12_191_12 (rcv1 sh50 (pl hN rfl)) rfl (by decide) ⟨rfl, rfl⟩ (Nat.le_of_ble_eq_true rfl) rfl (s_gmF hN hM (cnt_flp (jdS_ok hc (hsk c4) c70 k (by omega)).1 none) (sk_flp (jdS_ok hc (hsk c4) c70 k (by omega)).2.1 none) (fun x2 => ?_))
                    refine r_iinc (v := _ + 1) (pc' := 139) (ls' := [(4, vI _), (5, vI _), (0, vR (some 50)), (1, vI _), (2, vI _), (3, vI _)]) d227_136 rfl rfl rfl (by decide) rfl ?_
                    refine r_goto 83 d227_139 rfl ?_
                    refine wp_pick (ls' := [(0, vR (some 50)), (1, vI _), (2, vI _), (3, vI _), (4, vI _)]) [2, 3, 4, 5, 0] rfl ?_
                    rw [nI_1]
                    exact ih2 x2 (by omega)
                  · rw [e0] at ih2
                    have e1 : jdO (nI b) = some b := by unfold jdO; rw [if_neg (nI_pos (by omega)), nI_clamp (by omega)]
                    rw [e1] at ih2
                    refine wp_v e0 ?_
                    refine r_istore (pc' := 105) (ls' := [(5, vI _), (0, vR (some 50)), (1, vI _), (2, vI _), (3, vI _), (4, vI _)]) d227_103 rfl (by decide) rfl ?_
                    refine r_iload (pc' := 107) d227_105 rfl rfl ?_
                    refine r_if_lt 132 (pc' := 110) d227_107 rfl rfl (fun c107 => absurd c107 (nI_pos (by omega))) (fun c107 => ?_)
                    refine r_aload_n (pc' := 111) d227_110 rfl rfl rfl ?_
                    refine r_getS (pc' := 114) d227_111 rfl o227 sf12_7_12 sh50 (pl hN rfl) (rfm0 hM) ?_
                    refine r_bipush (v := 69) (pc' := 116) d227_114 rfl (by decide) ?_
                    refine r_iload (pc' := 118) d227_116 rfl rfl ?_
                    refine r_iadd (pc' := 119) d227_118 rfl ?_
                    refine r_iconst (v := 1) (pc' := 120) d227_119 rfl (by decide) ?_
                    refine r_aload_n (pc' := 121) d227_120 rfl rfl rfl ?_
                    refine r_getS (pc' := 124) d227_121 rfl o227 sf12_7_12 sh50 (pl hN rfl) (rfm0 hM) ?_
                    refine r_bipush (v := 69) (pc' := 126) d227_124 rfl (by decide) ?_
                    refine r_iload (pc' := 128) d227_126 rfl rfl ?_
                    refine r_iadd (pc' := 129) d227_128 rfl ?_
                    refine r_ialdN (pc' := 130) (j := (69 + b)) d227_129 rfl sh51 (pl hN rfl) (by simp only [lit, nI_add, pk_mul]) (by omega) (by decide) ?_
                    refine r_isub (pc' := 131) d227_130 rfl ?_
                    refine r_iastN (pc' := 132) (j := (69 + b)) d227_131 rfl sh51 (pl hN rfl) (by simp only [lit, nI_add, pk_mul]) (by omega) (by decide) ?_
                    refine wp_heap (fw_s h (hold66 (hi h 51) (hi h 61)) x _ _ _) ?_
                    refine r_aload_n (pc' := 133) d227_132 rfl rfl rfl ?_
                    refine r_call (pc' := 136) [vR (some 50)] [] d227_133 rfl o227 st12_191_12 (rcv1 sh50 (pl hN rfl)) rfl (by decide) ⟨rfl, rfl⟩ (Nat.le_of_ble_eq_true rfl) rfl (s_gmF hN hM (cnt_flp (jdS_ok hc (hsk c4) c70 k (by omega)).1 (some b)) (sk_flp (jdS_ok hc (hsk c4) c70 k (by omega)).2.1 (some b)) (fun x2 => ?_))
                    refine r_iinc (v := _ + 1) (pc' := 139) (ls' := [(4, vI _), (5, vI _), (0, vR (some 50)), (1, vI _), (2, vI _), (3, vI _)]) d227_136 rfl rfl rfl (by decide) rfl ?_
                    refine r_goto 83 d227_139 rfl ?_
                    refine wp_pick (ls' := [(0, vR (some 50)), (1, vI _), (2, vI _), (3, vI _), (4, vI _)]) [2, 3, 4, 5, 0] rfl ?_
                    rw [nI_1]
                    exact ih2 x2 (by omega)
              exact loop n 0 (hi h 60) (by omega)
            · refine r_ldc (pc' := 75) d227_73 rfl o227 kc12_67 ?_
              exact r_iretI d227_75 rfl (kI c4 j (by omega) rfl n hn40 rfl c38 p (by omega) rfl c54 c70)
          · refine r_aload_n (pc' := 58) d227_57 rfl rfl rfl ?_
            refine r_iconst (v := 2) (pc' := 59) d227_58 rfl (by decide) ?_
            refine r_call (pc' := 62) [vR (some 50), vI _] [] d227_59 rfl o227 st12_68_12 (rcv1 sh50 (pl hN rfl)) rfl (by decide) ⟨rfl, rfl⟩ (Nat.le_of_ble_eq_true rfl) rfl (s_found hN ?_)
            exact r_iretI d227_62 rfl (qv (by decide) (kP c4 j (by omega) rfl n hn40 rfl c38 c54))
        · refine r_aload_n (pc' := 42) d227_41 rfl rfl rfl ?_
          refine r_iconst (v := 1) (pc' := 43) d227_42 rfl (by decide) ?_
          refine r_call (pc' := 46) [vR (some 50), vI _] [] d227_43 rfl o227 st12_68_12 (rcv1 sh50 (pl hN rfl)) rfl (by decide) ⟨rfl, rfl⟩ (Nat.le_of_ble_eq_true rfl) rfl (s_found hN ?_)
          exact r_iretI d227_46 rfl (qv (by decide) (kN c4 j (by omega) rfl n hn40 rfl c38))
      · refine r_ldc (pc' := 29) d227_27 rfl o227 kc12_67 ?_
        exact r_iretI d227_29 rfl (kB c4 (by first | exact Or.inl c14 | exact Or.inr c24))
  · refine r_ldc (pc' := 9) d227_7 rfl o227 kc12_187 ?_
    exact r_iretI d227_9 rfl (kS c4)
def rwS (f : Nat → Int32) : Nat → Int32
  | 0 => 0
  | k + 1 => rwS f k + (if f k = -1000000 then 0 else 1)
def cnQ (s : Nat → Int32) (rw ac tp : Int32) (L e : Nat) (w : Nat) : Int32 := if w = 0 then rw else if w = 1 then s 1 else if w = 2 then s 20 else if w = 3 then s 2 else if w = 4 then s 19 else if w = 5 then servS s e else if w = 6 then fireS s L else if w = 7 then ac else tp
theorem M_count {d : Nat} {h : Hp} {Q : Option AV → Hp → Prop} {m L e : Nat} {what : Int32} (hN : hn h = 65) (hM : RM h) (hc : Cnt (hi h 51) m L e) (kB : ¬ (0 ≤ what ∧ what ≤ 8) → Q (some (vI (-1000001))) h)
    (kW : ∀ w : Nat, w ≤ 8 → what = nI w → Q (some (vI (cnQ (hi h 51) (rwS (hi h 55) 8) (hi h 50 4) (hi h 50 10) L e w))) h) : Spec (d + 1) 246 [vR (some 50), vI what] h Q := by
  obtain ⟨hc1, hc2, hc3, hc4, hc5, hc6⟩ := id hc
  refine spec_intro (by decide +kernel) rfl (Nat.le_of_ble_eq_true rfl) ?_
  refine r_iconst (v := 0) (pc' := 1) d246_0 rfl (by decide) ?_
  refine r_istore_n (pc' := 2) (ls' := [(2, vI _), (0, vR (some 50)), (1, vI _)]) d246_1 rfl rfl (by decide) rfl ?_
  refine r_iconst (v := 0) (pc' := 3) d246_2 rfl (by decide) ?_
  refine r_istore_n (pc' := 4) (ls' := [(3, vI _), (2, vI _), (0, vR (some 50)), (1, vI _)]) d246_3 rfl rfl (by decide) rfl ?_
  refine wp_pick (ls' := [(0, vR (some 50)), (1, vI _), (2, vI _), (3, vI _)]) [2, 3, 1, 0] rfl ?_
  have loop : ∀ (r k : Nat), k + r = 8 → wp (d + 1) 246 Q 0 0 4 [(0, vR (some 50)), (1, vI what), (2, vI (rwS (hi h 55) k)), (3, vI (nI k))] [] h := by
    intro r
    induction r with
    | zero =>
      intro k hk
      obtain rfl : k = 8 := by omega
      refine r_iload_n (pc' := 5) d246_4 rfl rfl rfl ?_
      refine r_bipush (v := 8) (pc' := 7) d246_5 rfl (by decide) ?_
      refine r_icmp_ge 35 (pc' := 10) d246_7 rfl rfl (fun c7 => ?_) (fun c7 => absurd (by decide) c7)
      refine r_iload_n (pc' := 36) d246_35 rfl rfl rfl ?_
      by_cases hw : 0 ≤ what ∧ what ≤ 8
      · obtain ⟨w, hw8, rfl⟩ := nat2 (n := 8) hw (by decide)
        rcases (show w = 0 ∨ w = 1 ∨ w = 2 ∨ w = 3 ∨ w = 4 ∨ w = 5 ∨ w = 6 ∨ w = 7 ∨ w = 8 by omega) with rfl | rfl | rfl | rfl | rfl | rfl | rfl | rfl | rfl
        · refine r_tableIn (off := 52) 88 d246_36 (by decide) (by decide) (by decide) rfl ?_
          refine r_iload_n (pc' := 89) d246_88 rfl rfl rfl ?_
          exact r_iretI d246_89 rfl (kW 0 (by omega) rfl)
        · refine r_tableIn (off := 54) 90 d246_36 (by decide) (by decide) (by decide) rfl ?_
          refine r_aload_n (pc' := 91) d246_90 rfl rfl rfl ?_
          refine r_getS (pc' := 94) d246_91 rfl o246 sf12_7_12 sh50 (pl hN rfl) (rfm0 hM) ?_
          refine r_iconst (v := 1) (pc' := 95) d246_94 rfl (by decide) ?_
          refine r_ialdN (pc' := 96) (j := 1) d246_95 rfl sh51 (pl hN rfl) rfl (by omega) (by decide) ?_
          exact r_iretI d246_96 rfl (kW 1 (by omega) rfl)
        · refine r_tableIn (off := 61) 97 d246_36 (by decide) (by decide) (by decide) rfl ?_
          refine r_aload_n (pc' := 98) d246_97 rfl rfl rfl ?_
          refine r_getS (pc' := 101) d246_98 rfl o246 sf12_7_12 sh50 (pl hN rfl) (rfm0 hM) ?_
          refine r_bipush (v := 20) (pc' := 103) d246_101 rfl (by decide) ?_
          refine r_ialdN (pc' := 104) (j := 20) d246_103 rfl sh51 (pl hN rfl) rfl (by omega) (by decide) ?_
          exact r_iretI d246_104 rfl (kW 2 (by omega) rfl)
        · refine r_tableIn (off := 69) 105 d246_36 (by decide) (by decide) (by decide) rfl ?_
          refine r_aload_n (pc' := 106) d246_105 rfl rfl rfl ?_
          refine r_getS (pc' := 109) d246_106 rfl o246 sf12_7_12 sh50 (pl hN rfl) (rfm0 hM) ?_
          refine r_iconst (v := 2) (pc' := 110) d246_109 rfl (by decide) ?_
          refine r_ialdN (pc' := 111) (j := 2) d246_110 rfl sh51 (pl hN rfl) rfl (by omega) (by decide) ?_
          exact r_iretI d246_111 rfl (kW 3 (by omega) rfl)
        · refine r_tableIn (off := 76) 112 d246_36 (by decide) (by decide) (by decide) rfl ?_
          refine r_aload_n (pc' := 113) d246_112 rfl rfl rfl ?_
          refine r_getS (pc' := 116) d246_113 rfl o246 sf12_7_12 sh50 (pl hN rfl) (rfm0 hM) ?_
          refine r_bipush (v := 19) (pc' := 118) d246_116 rfl (by decide) ?_
          refine r_ialdN (pc' := 119) (j := 19) d246_118 rfl sh51 (pl hN rfl) rfl (by omega) (by decide) ?_
          exact r_iretI d246_119 rfl (kW 4 (by omega) rfl)
        · refine r_tableIn (off := 84) 120 d246_36 (by decide) (by decide) (by decide) rfl ?_
          refine r_aload_n (pc' := 121) d246_120 rfl rfl rfl ?_
          refine r_call (pc' := 124) [vR (some 50)] [] d246_121 rfl o246 st12_213_12 (rcv1 sh50 (pl hN rfl)) rfl (by decide) ⟨rfl, rfl⟩ (Nat.le_of_ble_eq_true rfl) rfl (s_servedNow hN hM hc ?_)
          exact r_iretI d246_124 rfl (kW 5 (by omega) rfl)
        · refine r_tableIn (off := 89) 125 d246_36 (by decide) (by decide) (by decide) rfl ?_
          refine r_aload_n (pc' := 126) d246_125 rfl rfl rfl ?_
          refine r_call (pc' := 129) [vR (some 50)] [] d246_126 rfl o246 st12_258_12 (rcv1 sh50 (pl hN rfl)) rfl (by decide) ⟨rfl, rfl⟩ (Nat.le_of_ble_eq_true rfl) rfl (s_fireNow hN hM hc ?_)
          exact r_iretI d246_129 rfl (kW 6 (by omega) rfl)
        · refine r_tableIn (off := 94) 130 d246_36 (by decide) (by decide) (by decide) rfl ?_
          refine r_aload_n (pc' := 131) d246_130 rfl rfl rfl ?_
          refine r_getI (pc' := 134) d246_131 rfl o246 sf12_147_12 sh50 (pl hN rfl) ?_
          exact r_iretI d246_134 rfl (kW 7 (by omega) rfl)
        · refine r_tableIn (off := 99) 135 d246_36 (by decide) (by decide) (by decide) rfl ?_
          refine r_aload_n (pc' := 136) d246_135 rfl rfl rfl ?_
          refine r_getI (pc' := 139) d246_136 rfl o246 sf12_78_12 sh50 (pl hN rfl) ?_
          exact r_iretI d246_139 rfl (kW 8 (by omega) rfl)
      · refine r_tableOut 140 d246_36 (by simp only [Int32.le_iff_toInt_le] at hw; rw [show (0 : Int32).toInt = 0 from rfl, show (8 : Int32).toInt = 8 from rfl] at hw; omega) rfl ?_
        refine r_ldc (pc' := 142) d246_140 rfl o246 kc12_67 ?_
        exact r_iretI d246_142 rfl (kB hw)
    | succ r ih =>
      intro k hk
      refine r_iload_n (pc' := 5) d246_4 rfl rfl rfl ?_
      refine r_bipush (v := 8) (pc' := 7) d246_5 rfl (by decide) ?_
      refine r_icmp_ge 35 (pc' := 10) d246_7 rfl rfl (fun c7 => absurd c7 (nI_ge (a := k) (b := 8) (by omega) (by decide))) (fun c7 => ?_)
      refine r_iload_n (pc' := 11) d246_10 rfl rfl rfl ?_
      refine r_aload_n (pc' := 12) d246_11 rfl rfl rfl ?_
      refine r_getS (pc' := 15) d246_12 rfl o246 sf12_23_12 sh50 (pl hN rfl) (rfm5 hM) ?_
      refine r_iload_n (pc' := 16) d246_15 rfl rfl rfl ?_
      refine r_ialdN (pc' := 17) (j := k) d246_16 rfl sh55 (pl hN rfl) rfl (by omega) (by decide) ?_
      refine r_ldc (pc' := 19) d246_17 rfl o246 kc12_53 ?_
      refine r_icmp_ne 26 (pc' := 22) d246_19 rfl rfl (fun c19 => ?_) (fun c19 => ?_)
      · refine r_iconst (v := 1) (pc' := 27) d246_26 rfl (by decide) ?_
        refine r_iadd (pc' := 28) d246_27 rfl ?_
        refine r_istore_n (pc' := 29) (ls' := [(2, vI _), (0, vR (some 50)), (1, vI _), (3, vI _)]) d246_28 rfl rfl (by decide) rfl ?_
        refine r_iinc (v := _ + 1) (pc' := 32) (ls' := [(3, vI _), (2, vI _), (0, vR (some 50)), (1, vI _)]) d246_29 rfl rfl rfl (by decide) rfl ?_
        refine r_goto 4 d246_32 rfl ?_
        refine wp_pick (ls' := [(0, vR (some 50)), (1, vI _), (2, vI _), (3, vI _)]) [2, 3, 1, 0] rfl ?_
        rw [nI_1]
        have w := ih (k + 1) (by omega)
        rw [rwS, if_neg c19] at w
        exact w
      · refine r_iconst (v := 0) (pc' := 23) d246_22 rfl (by decide) ?_
        refine r_goto 27 d246_23 rfl ?_
        refine r_iadd (pc' := 28) d246_27 rfl ?_
        refine r_istore_n (pc' := 29) (ls' := [(2, vI _), (0, vR (some 50)), (1, vI _), (3, vI _)]) d246_28 rfl rfl (by decide) rfl ?_
        refine r_iinc (v := _ + 1) (pc' := 32) (ls' := [(3, vI _), (2, vI _), (0, vR (some 50)), (1, vI _)]) d246_29 rfl rfl rfl (by decide) rfl ?_
        refine r_goto 4 d246_32 rfl ?_
        refine wp_pick (ls' := [(0, vR (some 50)), (1, vI _), (2, vI _), (3, vI _)]) [2, 3, 1, 0] rfl ?_
        rw [nI_1]
        have w := ih (k + 1) (by omega)
        rw [rwS, if_pos c19] at w
        exact w
  exact loop 8 0 rfl
