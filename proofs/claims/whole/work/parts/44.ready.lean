/-! the reference: ready, where, in time, ahead, heat (printed by wip/whole/m44.py) -/
theorem s_readyJ {d : Nat} {h : Hp} {Q : Option AV → Hp → Prop} {m L e t : Nat} {cell : Int32} {x y : Nat → Int32} (hN : hn h = 65) (hM : RM h) (hc : Cnt (hi h 51) m L e) (hsk : ¬ hi h 51 3 = 0) (ht : t < 6) (kk : ∀ x y, Q (some (vI (rdI (upd (hi h 51) (45 + t) cell) m L t))) (jk h x y)) : Spec (d + 4) 211 [vR (some 50), vI (nI t), vI cell] (jk h x y) Q :=
  s_readyIn (h := jk h x y) hN hM hc hsk ht (fun x2 y2 => qh (jk_jk h x y x2 y2).symm (kk x2 y2))
def rdC (s : Nat → Int32) (m L t k : Nat) : Int32 := if takI s m t (nI k) then -1000000 else rdI (upd s (45 + t) (nI k)) m L t
abbrev isW (n b s : Int32) : Prop := ¬ n = -1000000 ∧ (b = -1000000 ∨ n < s)
def whP (s : Nat → Int32) (m L t : Nat) : Nat → Int32 × Int32
  | 0 => (-1000000, 0)
  | k + 1 => if isW (rdC s m L t k) (whP s m L t k).1 (whP s m L t k).2 then (nI k, rdC s m L t k) else whP s m L t k
def itS (s : Nat → Int32) (m L t : Nat) (n : Int32) : Nat → Int32
  | 0 => 0
  | k + 1 => itS s m L t n k ||| (if ¬ rdC s m L t k = -1000000 ∧ rdC s m L t k ≤ n then 1 <<< (nI k &&& 31) else 0)
theorem M_ready {d : Nat} {h : Hp} {Q : Option AV → Hp → Prop} {m L e : Nat} {t : Int32} (hN : hn h = 65) (hM : RM h) (hc : Cnt (hi h 51) m L e) (hsk : ∀ j : Nat, j < m → ¬ hi h 51 3 = 0) (kB : ¬ inR t m → Q (some (vI (-1000001))) h) (kS : ∀ j : Nat, j < m → t = nI j → goneI (hi h 51) j → Q (some (vI (-1000002))) h)
    (kW : ∀ j : Nat, j < m → t = nI j → ¬ goneI (hi h 51) j → ∀ x y, Q (some (vI (rdI (hi h 51) m L j))) (jk h x y)) : Spec (d + 5) 212 [vR (some 50), vI t] h Q := by
  obtain ⟨hc1, hc2, hc3, hc4, hc5, hc6⟩ := id hc
  refine spec_intro (by decide +kernel) rfl (Nat.le_of_ble_eq_true rfl) ?_
  refine r_aload_n (pc' := 1) d212_0 rfl rfl rfl ?_
  refine r_iload_n (pc' := 2) d212_1 rfl rfl rfl ?_
  refine r_call (pc' := 5) [vR (some 50), vI _] [] d212_2 rfl o212 st12_194_12 (rcv1 sh50 (pl hN rfl)) rfl (by decide) ⟨rfl, rfl⟩ (Nat.le_of_ble_eq_true rfl) rfl (s_isThingC hN hM hc ?_)
  refine r_if_neB 11 (pc' := 8) d212_5 rfl rfl (fun c5 => ?_) (fun c5 => ?_)
  · obtain ⟨j, hj, rfl⟩ := inR_of c5 (by omega)
    refine r_aload_n (pc' := 12) d212_11 rfl rfl rfl ?_
    refine r_iload_n (pc' := 13) d212_12 rfl rfl rfl ?_
    refine r_call (pc' := 16) [vR (some 50), vI _] [] d212_13 rfl o212 st12_178_12 (rcv1 sh50 (pl hN rfl)) rfl (by decide) ⟨rfl, rfl⟩ (Nat.le_of_ble_eq_true rfl) rfl (s_isGone hN hM (by omega) ?_)
    refine r_if_eqB 24 (pc' := 19) d212_16 rfl rfl (fun c16 => ?_) (fun c16 => ?_)
    · refine r_aload_n (pc' := 25) d212_24 rfl rfl rfl ?_
      refine r_iload_n (pc' := 26) d212_25 rfl rfl rfl ?_
      refine r_aload_n (pc' := 27) d212_26 rfl rfl rfl ?_
      refine r_getS (pc' := 30) d212_27 rfl o212 sf12_7_12 sh50 (pl hN rfl) (rfm0 hM) ?_
      refine r_bipush (v := 45) (pc' := 32) d212_30 rfl (by decide) ?_
      refine r_iload_n (pc' := 33) d212_32 rfl rfl rfl ?_
      refine r_iadd (pc' := 34) d212_33 rfl ?_
      refine r_ialdN (pc' := 35) (j := (45 + j)) d212_34 rfl sh51 (pl hN rfl) (by simp only [lit, nI_add, pk_mul]) (by omega) (by decide) ?_
      refine r_call (pc' := 38) [vR (some 50), vI _, vI _] [] d212_35 rfl o212 st12_229_12 (rcv1 sh50 (pl hN rfl)) rfl (by decide) ⟨rfl, rfl⟩ (Nat.le_of_ble_eq_true rfl) rfl (s_readyIn hN hM hc (hsk j hj) (by omega) (fun x y => ?_))
      exact r_iretI d212_38 rfl (qv (by rw [upd_self rfl]) (kW j hj rfl c16 x y))
    · refine r_ldc (pc' := 21) d212_19 rfl o212 kc12_187 ?_
      refine r_goto 38 d212_21 rfl ?_
      exact r_iretI d212_38 rfl (kS j hj rfl c16)
  · refine r_ldc (pc' := 10) d212_8 rfl o212 kc12_67 ?_
    exact r_iretI d212_10 rfl (kB c5)
theorem M_where {d : Nat} {h : Hp} {Q : Option AV → Hp → Prop} {m L e : Nat} {t : Int32} (hN : hn h = 65) (hM : RM h) (hc : Cnt (hi h 51) m L e) (hsk : ∀ j : Nat, j < m → ¬ hi h 51 3 = 0) (kB : ¬ inR t m → Q (some (vI (-1000001))) h) (kS : ∀ j : Nat, j < m → t = nI j → goneI (hi h 51) j → Q (some (vI (-1000002))) h)
    (kW : ∀ j : Nat, j < m → t = nI j → ¬ goneI (hi h 51) j → ∀ x y, Q (some (vI (whP (hi h 51) m L j 12).1)) (jk h x y)) : Spec (d + 5) 213 [vR (some 50), vI t] h Q := by
  obtain ⟨hc1, hc2, hc3, hc4, hc5, hc6⟩ := id hc
  refine spec_intro (by decide +kernel) rfl (Nat.le_of_ble_eq_true rfl) ?_
  refine r_aload_n (pc' := 1) d213_0 rfl rfl rfl ?_
  refine r_iload_n (pc' := 2) d213_1 rfl rfl rfl ?_
  refine r_call (pc' := 5) [vR (some 50), vI _] [] d213_2 rfl o213 st12_194_12 (rcv1 sh50 (pl hN rfl)) rfl (by decide) ⟨rfl, rfl⟩ (Nat.le_of_ble_eq_true rfl) rfl (s_isThingC hN hM hc ?_)
  refine r_if_neB 11 (pc' := 8) d213_5 rfl rfl (fun c5 => ?_) (fun c5 => ?_)
  · obtain ⟨j, hj, rfl⟩ := inR_of c5 (by omega)
    refine r_aload_n (pc' := 12) d213_11 rfl rfl rfl ?_
    refine r_iload_n (pc' := 13) d213_12 rfl rfl rfl ?_
    refine r_call (pc' := 16) [vR (some 50), vI _] [] d213_13 rfl o213 st12_178_12 (rcv1 sh50 (pl hN rfl)) rfl (by decide) ⟨rfl, rfl⟩ (Nat.le_of_ble_eq_true rfl) rfl (s_isGone hN hM (by omega) ?_)
    refine r_if_eqB 22 (pc' := 19) d213_16 rfl rfl (fun c16 => ?_) (fun c16 => ?_)
    · refine r_ldc (pc' := 24) d213_22 rfl o213 kc12_53 ?_
      refine r_istore_n (pc' := 25) (ls' := [(2, vI _), (0, vR (some 50)), (1, vI _)]) d213_24 rfl rfl (by decide) rfl ?_
      refine r_iconst (v := 0) (pc' := 26) d213_25 rfl (by decide) ?_
      refine r_istore_n (pc' := 27) (ls' := [(3, vI _), (2, vI _), (0, vR (some 50)), (1, vI _)]) d213_26 rfl rfl (by decide) rfl ?_
      refine r_iconst (v := 0) (pc' := 28) d213_27 rfl (by decide) ?_
      refine r_istore (pc' := 30) (ls' := [(4, vI _), (3, vI _), (2, vI _), (0, vR (some 50)), (1, vI _)]) d213_28 rfl (by decide) rfl ?_
      refine wp_pick (ls' := [(0, vR (some 50)), (1, vI _), (2, vI _), (3, vI _), (4, vI _)]) [3, 4, 2, 1, 0] rfl ?_
      have loop : ∀ (r k : Nat) (x y : Nat → Int32), k + r = 12 → wp (d + 5) 213 Q 0 0 30 [(0, vR (some 50)), (1, vI (nI j)), (2, vI (whP (hi h 51) m L j k).1), (3, vI (whP (hi h 51) m L j k).2), (4, vI (nI k))] [] (jk h x y) := by
        intro r
        induction r with
        | zero =>
          intro k x y hk
          obtain rfl : k = 12 := by omega
          refine r_iload (pc' := 32) d213_30 rfl rfl ?_
          refine r_bipush (v := 12) (pc' := 34) d213_32 rfl (by decide) ?_
          refine r_icmp_ge 117 (pc' := 37) d213_34 rfl rfl (fun c34 => ?_) (fun c34 => absurd (by decide) c34)
          refine r_iload_n (pc' := 118) d213_117 rfl rfl rfl ?_
          exact r_iretI d213_118 rfl (kW j hj rfl c16 x y)
        | succ r ih =>
          intro k x y hk
          refine r_iload (pc' := 32) d213_30 rfl rfl ?_
          refine r_bipush (v := 12) (pc' := 34) d213_32 rfl (by decide) ?_
          refine r_icmp_ge 117 (pc' := 37) d213_34 rfl rfl (fun c34 => absurd c34 (nI_ge (a := k) (b := 12) (by omega) (by decide))) (fun c34 => ?_)
          refine r_aload_n (pc' := 38) d213_37 rfl rfl rfl ?_
          refine r_iload_n (pc' := 39) d213_38 rfl rfl rfl ?_
          refine r_iload (pc' := 41) d213_39 rfl rfl ?_
          refine r_call (pc' := 44) [vR (some 50), vI _, vI _] [] d213_41 rfl o213 st12_197_12 (rcv1 sh50 (pl hN rfl)) rfl (by decide) ⟨rfl, rfl⟩ (Nat.le_of_ble_eq_true rfl) rfl (s_isTaken hN hM hc (by omega) ?_)
          refine r_if_eqB 52 (pc' := 47) d213_44 rfl rfl (fun c44 => ?_) (fun c44 => ?_)
          · refine r_aload_n (pc' := 53) d213_52 rfl rfl rfl ?_
            refine r_iload_n (pc' := 54) d213_53 rfl rfl rfl ?_
            refine r_iload (pc' := 56) d213_54 rfl rfl ?_
            refine r_call (pc' := 59) [vR (some 50), vI _, vI _] [] d213_56 rfl o213 st12_229_12 (rcv1 sh50 (pl hN rfl)) rfl (by decide) ⟨rfl, rfl⟩ (Nat.le_of_ble_eq_true rfl) rfl (s_readyJ hN hM hc (hsk j hj) (by omega) (fun x y => ?_))
            refine r_istore (pc' := 61) (ls' := [(5, vI _), (0, vR (some 50)), (1, vI _), (2, vI _), (3, vI _), (4, vI _)]) d213_59 rfl (by decide) rfl ?_
            refine r_iload (pc' := 63) d213_61 rfl rfl ?_
            refine r_ldc (pc' := 65) d213_63 rfl o213 kc12_53 ?_
            refine r_icmp_eq 84 (pc' := 68) d213_65 rfl rfl (fun c65 => ?_) (fun c65 => ?_)
            · refine r_iconst (v := 0) (pc' := 85) d213_84 rfl (by decide) ?_
              refine r_istore (pc' := 87) (ls' := [(6, vI _), (5, vI _), (0, vR (some 50)), (1, vI _), (2, vI _), (3, vI _), (4, vI _)]) d213_85 rfl (by decide) rfl ?_
              refine r_iload (pc' := 89) d213_87 rfl rfl ?_
              refine r_if_eq 97 (pc' := 92) d213_89 rfl rfl (fun c89 => ?_) (fun c89 => absurd (by decide) c89)
              refine r_iload_n (pc' := 98) d213_97 rfl rfl rfl ?_
              refine r_istore_n (pc' := 99) (ls' := [(2, vI _), (6, vI _), (5, vI _), (0, vR (some 50)), (1, vI _), (3, vI _), (4, vI _)]) d213_98 rfl rfl (by decide) rfl ?_
              refine r_iload (pc' := 101) d213_99 rfl rfl ?_
              refine r_if_eq 109 (pc' := 104) d213_101 rfl rfl (fun c101 => ?_) (fun c101 => absurd (by decide) c101)
              refine r_iload_n (pc' := 110) d213_109 rfl rfl rfl ?_
              refine r_istore_n (pc' := 111) (ls' := [(3, vI _), (2, vI _), (6, vI _), (5, vI _), (0, vR (some 50)), (1, vI _), (4, vI _)]) d213_110 rfl rfl (by decide) rfl ?_
              refine r_iinc (v := _ + 1) (pc' := 114) (ls' := [(4, vI _), (3, vI _), (2, vI _), (6, vI _), (5, vI _), (0, vR (some 50)), (1, vI _)]) d213_111 rfl rfl rfl (by decide) rfl ?_
              refine r_goto 30 d213_114 rfl ?_
              refine wp_pick (ls' := [(0, vR (some 50)), (1, vI _), (2, vI _), (3, vI _), (4, vI _)]) [5, 6, 2, 1, 0] rfl ?_
              rw [nI_1]
              have w := ih (k + 1) x y (by omega)
              have e0 : rdC (hi h 51) m L j k = _ := if_neg c44
              rw [whP, if_neg (by rw [e0]; exact fun z => z.1 c65)] at w
              exact w
            · refine r_iload_n (pc' := 69) d213_68 rfl rfl rfl ?_
              refine r_ldc (pc' := 71) d213_69 rfl o213 kc12_53 ?_
              refine r_icmp_eq 80 (pc' := 74) d213_71 rfl rfl (fun c71 => ?_) (fun c71 => ?_)
              · refine r_iconst (v := 1) (pc' := 81) d213_80 rfl (by decide) ?_
                refine r_goto 85 d213_81 rfl ?_
                refine r_istore (pc' := 87) (ls' := [(6, vI _), (5, vI _), (0, vR (some 50)), (1, vI _), (2, vI _), (3, vI _), (4, vI _)]) d213_85 rfl (by decide) rfl ?_
                refine r_iload (pc' := 89) d213_87 rfl rfl ?_
                refine r_if_eq 97 (pc' := 92) d213_89 rfl rfl (fun c89 => absurd c89 (by decide)) (fun c89 => ?_)
                refine r_iload (pc' := 94) d213_92 rfl rfl ?_
                refine r_goto 98 d213_94 rfl ?_
                refine r_istore_n (pc' := 99) (ls' := [(2, vI _), (6, vI _), (5, vI _), (0, vR (some 50)), (1, vI _), (3, vI _), (4, vI _)]) d213_98 rfl rfl (by decide) rfl ?_
                refine r_iload (pc' := 101) d213_99 rfl rfl ?_
                refine r_if_eq 109 (pc' := 104) d213_101 rfl rfl (fun c101 => absurd c101 (by decide)) (fun c101 => ?_)
                refine r_iload (pc' := 106) d213_104 rfl rfl ?_
                refine r_goto 110 d213_106 rfl ?_
                refine r_istore_n (pc' := 111) (ls' := [(3, vI _), (2, vI _), (6, vI _), (5, vI _), (0, vR (some 50)), (1, vI _), (4, vI _)]) d213_110 rfl rfl (by decide) rfl ?_
                refine r_iinc (v := _ + 1) (pc' := 114) (ls' := [(4, vI _), (3, vI _), (2, vI _), (6, vI _), (5, vI _), (0, vR (some 50)), (1, vI _)]) d213_111 rfl rfl rfl (by decide) rfl ?_
                refine r_goto 30 d213_114 rfl ?_
                refine wp_pick (ls' := [(0, vR (some 50)), (1, vI _), (2, vI _), (3, vI _), (4, vI _)]) [5, 6, 2, 1, 0] rfl ?_
                rw [nI_1]
                have w := ih (k + 1) x y (by omega)
                have e0 : rdC (hi h 51) m L j k = _ := if_neg c44
                rw [whP, if_pos (by rw [e0]; exact ⟨c65, Or.inl c71⟩), e0] at w
                exact w
              · refine r_iload (pc' := 76) d213_74 rfl rfl ?_
                refine r_iload_n (pc' := 77) d213_76 rfl rfl rfl ?_
                refine r_icmp_ge 84 (pc' := 80) d213_77 rfl rfl (fun c77 => ?_) (fun c77 => ?_)
                · refine r_iconst (v := 0) (pc' := 85) d213_84 rfl (by decide) ?_
                  refine r_istore (pc' := 87) (ls' := [(6, vI _), (5, vI _), (0, vR (some 50)), (1, vI _), (2, vI _), (3, vI _), (4, vI _)]) d213_85 rfl (by decide) rfl ?_
                  refine r_iload (pc' := 89) d213_87 rfl rfl ?_
                  refine r_if_eq 97 (pc' := 92) d213_89 rfl rfl (fun c89 => ?_) (fun c89 => absurd (by decide) c89)
                  refine r_iload_n (pc' := 98) d213_97 rfl rfl rfl ?_
                  refine r_istore_n (pc' := 99) (ls' := [(2, vI _), (6, vI _), (5, vI _), (0, vR (some 50)), (1, vI _), (3, vI _), (4, vI _)]) d213_98 rfl rfl (by decide) rfl ?_
                  refine r_iload (pc' := 101) d213_99 rfl rfl ?_
                  refine r_if_eq 109 (pc' := 104) d213_101 rfl rfl (fun c101 => ?_) (fun c101 => absurd (by decide) c101)
                  refine r_iload_n (pc' := 110) d213_109 rfl rfl rfl ?_
                  refine r_istore_n (pc' := 111) (ls' := [(3, vI _), (2, vI _), (6, vI _), (5, vI _), (0, vR (some 50)), (1, vI _), (4, vI _)]) d213_110 rfl rfl (by decide) rfl ?_
                  refine r_iinc (v := _ + 1) (pc' := 114) (ls' := [(4, vI _), (3, vI _), (2, vI _), (6, vI _), (5, vI _), (0, vR (some 50)), (1, vI _)]) d213_111 rfl rfl rfl (by decide) rfl ?_
                  refine r_goto 30 d213_114 rfl ?_
                  refine wp_pick (ls' := [(0, vR (some 50)), (1, vI _), (2, vI _), (3, vI _), (4, vI _)]) [5, 6, 2, 1, 0] rfl ?_
                  rw [nI_1]
                  have w := ih (k + 1) x y (by omega)
                  have e0 : rdC (hi h 51) m L j k = _ := if_neg c44
                  rw [whP, if_neg (by rw [e0]; exact fun z => z.2.elim c71 (Int32.not_lt.mpr c77))] at w
                  exact w
                · refine r_iconst (v := 1) (pc' := 81) d213_80 rfl (by decide) ?_
                  refine r_goto 85 d213_81 rfl ?_
                  refine r_istore (pc' := 87) (ls' := [(6, vI _), (5, vI _), (0, vR (some 50)), (1, vI _), (2, vI _), (3, vI _), (4, vI _)]) d213_85 rfl (by decide) rfl ?_
                  refine r_iload (pc' := 89) d213_87 rfl rfl ?_
                  refine r_if_eq 97 (pc' := 92) d213_89 rfl rfl (fun c89 => absurd c89 (by decide)) (fun c89 => ?_)
                  refine r_iload (pc' := 94) d213_92 rfl rfl ?_
                  refine r_goto 98 d213_94 rfl ?_
                  refine r_istore_n (pc' := 99) (ls' := [(2, vI _), (6, vI _), (5, vI _), (0, vR (some 50)), (1, vI _), (3, vI _), (4, vI _)]) d213_98 rfl rfl (by decide) rfl ?_
                  refine r_iload (pc' := 101) d213_99 rfl rfl ?_
                  refine r_if_eq 109 (pc' := 104) d213_101 rfl rfl (fun c101 => absurd c101 (by decide)) (fun c101 => ?_)
                  refine r_iload (pc' := 106) d213_104 rfl rfl ?_
                  refine r_goto 110 d213_106 rfl ?_
                  refine r_istore_n (pc' := 111) (ls' := [(3, vI _), (2, vI _), (6, vI _), (5, vI _), (0, vR (some 50)), (1, vI _), (4, vI _)]) d213_110 rfl rfl (by decide) rfl ?_
                  refine r_iinc (v := _ + 1) (pc' := 114) (ls' := [(4, vI _), (3, vI _), (2, vI _), (6, vI _), (5, vI _), (0, vR (some 50)), (1, vI _)]) d213_111 rfl rfl rfl (by decide) rfl ?_
                  refine r_goto 30 d213_114 rfl ?_
                  refine wp_pick (ls' := [(0, vR (some 50)), (1, vI _), (2, vI _), (3, vI _), (4, vI _)]) [5, 6, 2, 1, 0] rfl ?_
                  rw [nI_1]
                  have w := ih (k + 1) x y (by omega)
                  have e0 : rdC (hi h 51) m L j k = _ := if_neg c44
                  rw [whP, if_pos (by rw [e0]; exact ⟨c65, Or.inr (Int32.not_le.mp c77)⟩), e0] at w
                  exact w
          · refine r_ldc (pc' := 49) d213_47 rfl o213 kc12_53 ?_
            refine r_goto 59 d213_49 rfl ?_
            refine r_istore (pc' := 61) (ls' := [(5, vI _), (0, vR (some 50)), (1, vI _), (2, vI _), (3, vI _), (4, vI _)]) d213_59 rfl (by decide) rfl ?_
            refine r_iload (pc' := 63) d213_61 rfl rfl ?_
            refine r_ldc (pc' := 65) d213_63 rfl o213 kc12_53 ?_
            refine r_icmp_eq 84 (pc' := 68) d213_65 rfl rfl (fun c65 => ?_) (fun c65 => absurd rfl c65)
            refine r_iconst (v := 0) (pc' := 85) d213_84 rfl (by decide) ?_
            refine r_istore (pc' := 87) (ls' := [(6, vI _), (5, vI _), (0, vR (some 50)), (1, vI _), (2, vI _), (3, vI _), (4, vI _)]) d213_85 rfl (by decide) rfl ?_
            refine r_iload (pc' := 89) d213_87 rfl rfl ?_
            refine r_if_eq 97 (pc' := 92) d213_89 rfl rfl (fun c89 => ?_) (fun c89 => absurd (by decide) c89)
            refine r_iload_n (pc' := 98) d213_97 rfl rfl rfl ?_
            refine r_istore_n (pc' := 99) (ls' := [(2, vI _), (6, vI _), (5, vI _), (0, vR (some 50)), (1, vI _), (3, vI _), (4, vI _)]) d213_98 rfl rfl (by decide) rfl ?_
            refine r_iload (pc' := 101) d213_99 rfl rfl ?_
            refine r_if_eq 109 (pc' := 104) d213_101 rfl rfl (fun c101 => ?_) (fun c101 => absurd (by decide) c101)
            refine r_iload_n (pc' := 110) d213_109 rfl rfl rfl ?_
            refine r_istore_n (pc' := 111) (ls' := [(3, vI _), (2, vI _), (6, vI _), (5, vI _), (0, vR (some 50)), (1, vI _), (4, vI _)]) d213_110 rfl rfl (by decide) rfl ?_
            refine r_iinc (v := _ + 1) (pc' := 114) (ls' := [(4, vI _), (3, vI _), (2, vI _), (6, vI _), (5, vI _), (0, vR (some 50)), (1, vI _)]) d213_111 rfl rfl rfl (by decide) rfl ?_
            refine r_goto 30 d213_114 rfl ?_
            refine wp_pick (ls' := [(0, vR (some 50)), (1, vI _), (2, vI _), (3, vI _), (4, vI _)]) [5, 6, 2, 1, 0] rfl ?_
            rw [nI_1]
            have w := ih (k + 1) x y (by omega)
            have e0 : rdC (hi h 51) m L j k = _ := if_pos c44
            rw [whP, if_neg (by rw [e0]; exact fun z => z.1 c65)] at w
            exact w
      refine wp_heap (jk_0 h).symm ?_
      exact loop 12 0 (hi h 60) (hi h 61) rfl
    · refine r_ldc (pc' := 21) d213_19 rfl o213 kc12_187 ?_
      exact r_iretI d213_21 rfl (kS j hj rfl c16)
  · refine r_ldc (pc' := 10) d213_8 rfl o213 kc12_67 ?_
    exact r_iretI d213_10 rfl (kB c5)
theorem M_inTime {d : Nat} {h : Hp} {Q : Option AV → Hp → Prop} {m L e : Nat} {t n : Int32} (hN : hn h = 65) (hM : RM h) (hc : Cnt (hi h 51) m L e) (hsk : ∀ j : Nat, j < m → ¬ hi h 51 3 = 0) (kB : (¬ inR t m ∨ ¬ (0 ≤ n ∧ n ≤ 60)) → Q (some (vI (-1000001))) h) (kS : ∀ j : Nat, j < m → t = nI j → (0 ≤ n ∧ n ≤ 60) → goneI (hi h 51) j → Q (some (vI (-1000002))) h)
    (kW : ∀ j : Nat, j < m → t = nI j → (0 ≤ n ∧ n ≤ 60) → ¬ goneI (hi h 51) j → ∀ x y, Q (some (vI (itS (hi h 51) m L j n 12))) (jk h x y)) : Spec (d + 5) 214 [vR (some 50), vI t, vI n] h Q := by
  obtain ⟨hc1, hc2, hc3, hc4, hc5, hc6⟩ := id hc
  refine spec_intro (by decide +kernel) rfl (Nat.le_of_ble_eq_true rfl) ?_
  refine r_aload_n (pc' := 1) d214_0 rfl rfl rfl ?_
  refine r_iload_n (pc' := 2) d214_1 rfl rfl rfl ?_
  refine r_call (pc' := 5) [vR (some 50), vI _] [] d214_2 rfl o214 st12_194_12 (rcv1 sh50 (pl hN rfl)) rfl (by decide) ⟨rfl, rfl⟩ (Nat.le_of_ble_eq_true rfl) rfl (s_isThingC hN hM hc ?_)
  refine r_if_eqB 18 (pc' := 8) d214_5 rfl rfl (fun c5 => ?_) (fun c5 => ?_)
  · refine r_ldc (pc' := 20) d214_18 rfl o214 kc12_67 ?_
    exact r_iretI d214_20 rfl (kB (by first | exact Or.inl c5 | exact Or.inr c15))
  · refine r_iload_n (pc' := 9) d214_8 rfl rfl rfl ?_
    refine r_iconst (v := 0) (pc' := 10) d214_9 rfl (by decide) ?_
    refine r_bipush (v := 60) (pc' := 12) d214_10 rfl (by decide) ?_
    refine r_call (pc' := 15) [vI _, vI _, vI _] [] d214_12 rfl o214 st12_59 rcv0 rfl (by decide) ⟨rfl, rfl⟩ (Nat.le_of_ble_eq_true rfl) rfl (s_in ?_)
    refine r_if_neB 21 (pc' := 18) d214_15 rfl rfl (fun c15 => ?_) (fun c15 => ?_)
    · obtain ⟨j, hj, rfl⟩ := inR_of c5 (by omega)
      refine r_aload_n (pc' := 22) d214_21 rfl rfl rfl ?_
      refine r_iload_n (pc' := 23) d214_22 rfl rfl rfl ?_
      refine r_call (pc' := 26) [vR (some 50), vI _] [] d214_23 rfl o214 st12_178_12 (rcv1 sh50 (pl hN rfl)) rfl (by decide) ⟨rfl, rfl⟩ (Nat.le_of_ble_eq_true rfl) rfl (s_isGone hN hM (by omega) ?_)
      refine r_if_eqB 32 (pc' := 29) d214_26 rfl rfl (fun c26 => ?_) (fun c26 => ?_)
      · refine r_iconst (v := 0) (pc' := 33) d214_32 rfl (by decide) ?_
        refine r_istore_n (pc' := 34) (ls' := [(3, vI _), (0, vR (some 50)), (1, vI _), (2, vI _)]) d214_33 rfl rfl (by decide) rfl ?_
        refine r_iconst (v := 0) (pc' := 35) d214_34 rfl (by decide) ?_
        refine r_istore (pc' := 37) (ls' := [(4, vI _), (3, vI _), (0, vR (some 50)), (1, vI _), (2, vI _)]) d214_35 rfl (by decide) rfl ?_
        refine wp_pick (ls' := [(0, vR (some 50)), (1, vI _), (2, vI _), (3, vI _), (4, vI _)]) [2, 3, 4, 1, 0] rfl ?_
        have loop : ∀ (r k : Nat) (x y : Nat → Int32), k + r = 12 → wp (d + 5) 214 Q 0 0 37 [(0, vR (some 50)), (1, vI (nI j)), (2, vI n), (3, vI (itS (hi h 51) m L j n k)), (4, vI (nI k))] [] (jk h x y) := by
          intro r
          induction r with
          | zero =>
            intro k x y hk
            obtain rfl : k = 12 := by omega
            refine r_iload (pc' := 39) d214_37 rfl rfl ?_
            refine r_bipush (v := 12) (pc' := 41) d214_39 rfl (by decide) ?_
            refine r_icmp_ge 98 (pc' := 44) d214_41 rfl rfl (fun c41 => ?_) (fun c41 => absurd (by decide) c41)
            refine r_iload_n (pc' := 99) d214_98 rfl rfl rfl ?_
            exact r_iretI d214_99 rfl (kW j hj rfl c15 c26 x y)
          | succ r ih =>
            intro k x y hk
            refine r_iload (pc' := 39) d214_37 rfl rfl ?_
            refine r_bipush (v := 12) (pc' := 41) d214_39 rfl (by decide) ?_
            refine r_icmp_ge 98 (pc' := 44) d214_41 rfl rfl (fun c41 => absurd c41 (nI_ge (a := k) (b := 12) (by omega) (by decide))) (fun c41 => ?_)
            refine r_aload_n (pc' := 45) d214_44 rfl rfl rfl ?_
            refine r_iload_n (pc' := 46) d214_45 rfl rfl rfl ?_
            refine r_iload (pc' := 48) d214_46 rfl rfl ?_
            refine r_call (pc' := 51) [vR (some 50), vI _, vI _] [] d214_48 rfl o214 st12_197_12 (rcv1 sh50 (pl hN rfl)) rfl (by decide) ⟨rfl, rfl⟩ (Nat.le_of_ble_eq_true rfl) rfl (s_isTaken hN hM hc (by omega) ?_)
            refine r_if_eqB 59 (pc' := 54) d214_51 rfl rfl (fun c51 => ?_) (fun c51 => ?_)
            · refine r_aload_n (pc' := 60) d214_59 rfl rfl rfl ?_
              refine r_iload_n (pc' := 61) d214_60 rfl rfl rfl ?_
              refine r_iload (pc' := 63) d214_61 rfl rfl ?_
              refine r_call (pc' := 66) [vR (some 50), vI _, vI _] [] d214_63 rfl o214 st12_229_12 (rcv1 sh50 (pl hN rfl)) rfl (by decide) ⟨rfl, rfl⟩ (Nat.le_of_ble_eq_true rfl) rfl (s_readyJ hN hM hc (hsk j hj) (by omega) (fun x y => ?_))
              refine r_istore (pc' := 68) (ls' := [(5, vI _), (0, vR (some 50)), (1, vI _), (2, vI _), (3, vI _), (4, vI _)]) d214_66 rfl (by decide) rfl ?_
              refine r_iload_n (pc' := 69) d214_68 rfl rfl rfl ?_
              refine r_iload (pc' := 71) d214_69 rfl rfl ?_
              refine r_ldc (pc' := 73) d214_71 rfl o214 kc12_53 ?_
              refine r_icmp_eq 89 (pc' := 76) d214_73 rfl rfl (fun c73 => ?_) (fun c73 => ?_)
              · refine r_iconst (v := 0) (pc' := 90) d214_89 rfl (by decide) ?_
                refine r_ior (pc' := 91) d214_90 rfl ?_
                refine r_istore_n (pc' := 92) (ls' := [(3, vI _), (5, vI _), (0, vR (some 50)), (1, vI _), (2, vI _), (4, vI _)]) d214_91 rfl rfl (by decide) rfl ?_
                refine r_iinc (v := _ + 1) (pc' := 95) (ls' := [(4, vI _), (3, vI _), (5, vI _), (0, vR (some 50)), (1, vI _), (2, vI _)]) d214_92 rfl rfl rfl (by decide) rfl ?_
                refine r_goto 37 d214_95 rfl ?_
                refine wp_pick (ls' := [(0, vR (some 50)), (1, vI _), (2, vI _), (3, vI _), (4, vI _)]) [3, 4, 5, 1, 0] rfl ?_
                rw [nI_1]
                have w := ih (k + 1) x y (by omega)
                have e0 : rdC (hi h 51) m L j k = _ := if_neg c51
                rw [itS, if_neg (by rw [e0]; exact fun z => z.1 c73)] at w
                exact w
              · refine r_iload (pc' := 78) d214_76 rfl rfl ?_
                refine r_iload_n (pc' := 79) d214_78 rfl rfl rfl ?_
                refine r_icmp_gt 89 (pc' := 82) d214_79 rfl rfl (fun c79 => ?_) (fun c79 => ?_)
                · refine r_iconst (v := 0) (pc' := 90) d214_89 rfl (by decide) ?_
                  refine r_ior (pc' := 91) d214_90 rfl ?_
                  refine r_istore_n (pc' := 92) (ls' := [(3, vI _), (5, vI _), (0, vR (some 50)), (1, vI _), (2, vI _), (4, vI _)]) d214_91 rfl rfl (by decide) rfl ?_
                  refine r_iinc (v := _ + 1) (pc' := 95) (ls' := [(4, vI _), (3, vI _), (5, vI _), (0, vR (some 50)), (1, vI _), (2, vI _)]) d214_92 rfl rfl rfl (by decide) rfl ?_
                  refine r_goto 37 d214_95 rfl ?_
                  refine wp_pick (ls' := [(0, vR (some 50)), (1, vI _), (2, vI _), (3, vI _), (4, vI _)]) [3, 4, 5, 1, 0] rfl ?_
                  rw [nI_1]
                  have w := ih (k + 1) x y (by omega)
                  have e0 : rdC (hi h 51) m L j k = _ := if_neg c51
                  rw [itS, if_neg (by rw [e0]; exact fun z => absurd c79 (Int32.not_lt.mpr z.2))] at w
                  exact w
                · refine r_iconst (v := 1) (pc' := 83) d214_82 rfl (by decide) ?_
                  refine r_iload (pc' := 85) d214_83 rfl rfl ?_
                  refine r_ishl (pc' := 86) d214_85 rfl ?_
                  refine r_goto 90 d214_86 rfl ?_
                  refine r_ior (pc' := 91) d214_90 rfl ?_
                  refine r_istore_n (pc' := 92) (ls' := [(3, vI _), (5, vI _), (0, vR (some 50)), (1, vI _), (2, vI _), (4, vI _)]) d214_91 rfl rfl (by decide) rfl ?_
                  refine r_iinc (v := _ + 1) (pc' := 95) (ls' := [(4, vI _), (3, vI _), (5, vI _), (0, vR (some 50)), (1, vI _), (2, vI _)]) d214_92 rfl rfl rfl (by decide) rfl ?_
                  refine r_goto 37 d214_95 rfl ?_
                  refine wp_pick (ls' := [(0, vR (some 50)), (1, vI _), (2, vI _), (3, vI _), (4, vI _)]) [3, 4, 5, 1, 0] rfl ?_
                  rw [nI_1]
                  have w := ih (k + 1) x y (by omega)
                  have e0 : rdC (hi h 51) m L j k = _ := if_neg c51
                  rw [itS, if_pos (by rw [e0]; exact ⟨c73, Int32.not_lt.mp c79⟩)] at w
                  exact w
            · refine r_ldc (pc' := 56) d214_54 rfl o214 kc12_53 ?_
              refine r_goto 66 d214_56 rfl ?_
              refine r_istore (pc' := 68) (ls' := [(5, vI _), (0, vR (some 50)), (1, vI _), (2, vI _), (3, vI _), (4, vI _)]) d214_66 rfl (by decide) rfl ?_
              refine r_iload_n (pc' := 69) d214_68 rfl rfl rfl ?_
              refine r_iload (pc' := 71) d214_69 rfl rfl ?_
              refine r_ldc (pc' := 73) d214_71 rfl o214 kc12_53 ?_
              refine r_icmp_eq 89 (pc' := 76) d214_73 rfl rfl (fun c73 => ?_) (fun c73 => absurd rfl c73)
              refine r_iconst (v := 0) (pc' := 90) d214_89 rfl (by decide) ?_
              refine r_ior (pc' := 91) d214_90 rfl ?_
              refine r_istore_n (pc' := 92) (ls' := [(3, vI _), (5, vI _), (0, vR (some 50)), (1, vI _), (2, vI _), (4, vI _)]) d214_91 rfl rfl (by decide) rfl ?_
              refine r_iinc (v := _ + 1) (pc' := 95) (ls' := [(4, vI _), (3, vI _), (5, vI _), (0, vR (some 50)), (1, vI _), (2, vI _)]) d214_92 rfl rfl rfl (by decide) rfl ?_
              refine r_goto 37 d214_95 rfl ?_
              refine wp_pick (ls' := [(0, vR (some 50)), (1, vI _), (2, vI _), (3, vI _), (4, vI _)]) [3, 4, 5, 1, 0] rfl ?_
              rw [nI_1]
              have w := ih (k + 1) x y (by omega)
              have e0 : rdC (hi h 51) m L j k = _ := if_pos c51
              rw [itS, if_neg (by rw [e0]; exact fun z => z.1 c73)] at w
              exact w
        refine wp_heap (jk_0 h).symm ?_
        exact loop 12 0 (hi h 60) (hi h 61) rfl
      · refine r_ldc (pc' := 31) d214_29 rfl o214 kc12_187 ?_
        exact r_iretI d214_31 rfl (kS j hj rfl c15 c26)
    · refine r_ldc (pc' := 20) d214_18 rfl o214 kc12_67 ?_
      exact r_iretI d214_20 rfl (kB (by first | exact Or.inl c5 | exact Or.inr c15))
theorem M_heat {d : Nat} {h : Hp} {Q : Option AV → Hp → Prop} {m L e : Nat} {cell : Int32} (hN : hn h = 65) (hM : RM h) (hc : Cnt (hi h 51) m L e) (kS : ¬ hi h 51 0 = 1 → Q (some (vI (-1000002))) h) (kB : hi h 51 0 = 1 → ¬ (0 ≤ cell ∧ cell ≤ 11) → Q (some (vI (-1000001))) h)
    (kW : hi h 51 0 = 1 → (0 ≤ cell ∧ cell ≤ 11) → Q (some (vI (heatI (hi h 51) m L cell))) h) : Spec (d + 3) 205 [vR (some 50), vI cell] h Q := by
  obtain ⟨hc1, hc2, hc3, hc4, hc5, hc6⟩ := id hc
  refine spec_intro (by decide +kernel) rfl (Nat.le_of_ble_eq_true rfl) ?_
  refine r_aload_n (pc' := 1) d205_0 rfl rfl rfl ?_
  refine r_call (pc' := 4) [vR (some 50)] [] d205_1 rfl o205 st12_184_12 (rcv1 sh50 (pl hN rfl)) rfl (by decide) ⟨rfl, rfl⟩ (Nat.le_of_ble_eq_true rfl) rfl (s_isYard hN hM ?_)
  refine r_if_neB 10 (pc' := 7) d205_4 rfl rfl (fun c4 => ?_) (fun c4 => ?_)
  · refine r_iload_n (pc' := 11) d205_10 rfl rfl rfl ?_
    refine r_iconst (v := 0) (pc' := 12) d205_11 rfl (by decide) ?_
    refine r_bipush (v := 11) (pc' := 14) d205_12 rfl (by decide) ?_
    refine r_call (pc' := 17) [vI _, vI _, vI _] [] d205_14 rfl o205 st12_59 rcv0 rfl (by decide) ⟨rfl, rfl⟩ (Nat.le_of_ble_eq_true rfl) rfl (s_in ?_)
    refine r_if_eqB 28 (pc' := 20) d205_17 rfl rfl (fun c17 => ?_) (fun c17 => ?_)
    · refine r_ldc (pc' := 30) d205_28 rfl o205 kc12_67 ?_
      exact r_iretI d205_30 rfl (kB c4 c17)
    · refine r_aload_n (pc' := 21) d205_20 rfl rfl rfl ?_
      refine r_iload_n (pc' := 22) d205_21 rfl rfl rfl ?_
      refine r_call (pc' := 25) [vR (some 50), vI _] [] d205_22 rfl o205 st12_175_12 (rcv1 sh50 (pl hN rfl)) rfl (by decide) ⟨rfl, rfl⟩ (Nat.le_of_ble_eq_true rfl) rfl (s_heatOf hN hM hc ?_)
      refine r_goto 30 d205_25 rfl ?_
      exact r_iretI d205_30 rfl (kW c4 c17)
  · refine r_ldc (pc' := 9) d205_7 rfl o205 kc12_187 ?_
    exact r_iretI d205_9 rfl (kS c4)
theorem M_heatAhead {d : Nat} {h : Hp} {Q : Option AV → Hp → Prop} {m L e : Nat} {cell n : Int32} (hN : hn h = 65) (hM : RM h) (hc : Cnt (hi h 51) m L e) (hsk : hi h 51 0 = 1 → ¬ hi h 51 3 = 0) (kS : ¬ hi h 51 0 = 1 → Q (some (vI (-1000002))) h) (kB : hi h 51 0 = 1 → (¬ (0 ≤ cell ∧ cell ≤ 11) ∨ ¬ (0 ≤ n ∧ n ≤ 60)) → Q (some (vI (-1000001))) h)
    (kW : hi h 51 0 = 1 → (0 ≤ cell ∧ cell ≤ 11) → ∀ k : Nat, k ≤ 60 → n = nI k → ∀ x y, Q (some (vI (heatI (gmN (hi h 51) m L k) m L cell))) (jk h x y)) : Spec (d + 5) 210 [vR (some 50), vI cell, vI n] h Q := by
  obtain ⟨hc1, hc2, hc3, hc4, hc5, hc6⟩ := id hc
  refine spec_intro (by decide +kernel) rfl (Nat.le_of_ble_eq_true rfl) ?_
  refine r_aload_n (pc' := 1) d210_0 rfl rfl rfl ?_
  refine r_call (pc' := 4) [vR (some 50)] [] d210_1 rfl o210 st12_184_12 (rcv1 sh50 (pl hN rfl)) rfl (by decide) ⟨rfl, rfl⟩ (Nat.le_of_ble_eq_true rfl) rfl (s_isYard hN hM ?_)
  refine r_if_neB 10 (pc' := 7) d210_4 rfl rfl (fun c4 => ?_) (fun c4 => ?_)
  · refine r_iload_n (pc' := 11) d210_10 rfl rfl rfl ?_
    refine r_iconst (v := 0) (pc' := 12) d210_11 rfl (by decide) ?_
    refine r_bipush (v := 11) (pc' := 14) d210_12 rfl (by decide) ?_
    refine r_call (pc' := 17) [vI _, vI _, vI _] [] d210_14 rfl o210 st12_59 rcv0 rfl (by decide) ⟨rfl, rfl⟩ (Nat.le_of_ble_eq_true rfl) rfl (s_in ?_)
    refine r_if_eqB 30 (pc' := 20) d210_17 rfl rfl (fun c17 => ?_) (fun c17 => ?_)
    · refine r_ldc (pc' := 32) d210_30 rfl o210 kc12_67 ?_
      exact r_iretI d210_32 rfl (kB c4 (by first | exact Or.inl c17 | exact Or.inr c27))
    · refine r_iload_n (pc' := 21) d210_20 rfl rfl rfl ?_
      refine r_iconst (v := 0) (pc' := 22) d210_21 rfl (by decide) ?_
      refine r_bipush (v := 60) (pc' := 24) d210_22 rfl (by decide) ?_
      refine r_call (pc' := 27) [vI _, vI _, vI _] [] d210_24 rfl o210 st12_59 rcv0 rfl (by decide) ⟨rfl, rfl⟩ (Nat.le_of_ble_eq_true rfl) rfl (s_in ?_)
      refine r_if_neB 33 (pc' := 30) d210_27 rfl rfl (fun c27 => ?_) (fun c27 => ?_)
      · obtain ⟨k, hk, rfl⟩ := nat2 (n := 60) c27 (by decide)
        refine r_aload_n (pc' := 34) d210_33 rfl rfl rfl ?_
        refine r_call (pc' := 37) [vR (some 50)] [] d210_34 rfl o210 st12_217_12 (rcv1 sh50 (pl hN rfl)) rfl (by decide) ⟨rfl, rfl⟩ (Nat.le_of_ble_eq_true rfl) rfl (s_holdsF hN hM ?_)
        refine r_aload_n (pc' := 38) d210_37 rfl rfl rfl ?_
        refine r_iload_n (pc' := 39) d210_38 rfl rfl rfl ?_
        refine r_call (pc' := 42) [vR (some 50), vI _] [] d210_39 rfl o210 st12_220_12 (rcv1 sh50 (pl hN rfl)) rfl (by decide) ⟨rfl, rfl⟩ (Nat.le_of_ble_eq_true rfl) rfl (s_go hN hM hc (hsk c4) (by omega) (fun x => ?_))
        refine wp_heap (h' := fw h (hold66 (hi h 51) (hi h 61)) x (gmN (hi h 51) m L k)) (fw_min _ _ _ _ _ _) ?_
        refine r_aload_n (pc' := 43) d210_42 rfl rfl rfl ?_
        refine r_iload_n (pc' := 44) d210_43 rfl rfl rfl ?_
        refine r_call (pc' := 47) [vR (some 50), vI _] [] d210_44 rfl o210 st12_175_12 (rcv1 sh50 (pl hN rfl)) rfl (by decide) ⟨rfl, rfl⟩ (Nat.le_of_ble_eq_true rfl) rfl (s_heatOf hN hM (hc.gm k) ?_)
        refine r_istore_n (pc' := 48) (ls' := [(3, vI _), (0, vR (some 50)), (1, vI _), (2, vI _)]) d210_47 rfl rfl (by decide) rfl ?_
        refine r_aload_n (pc' := 49) d210_48 rfl rfl rfl ?_
        refine r_call (pc' := 52) [vR (some 50)] [] d210_49 rfl o210 st12_226_12 (rcv1 sh50 (pl hN rfl)) rfl (by decide) ⟨rfl, rfl⟩ (Nat.le_of_ble_eq_true rfl) rfl (s_backF hN hM ((Outs.rf (hi h 51)).gm hc2 hc4 k) ?_)
        refine r_iload_n (pc' := 53) d210_52 rfl rfl rfl ?_
        exact r_iretI d210_53 rfl (kW c4 c17 k hk rfl x _)
      · refine r_ldc (pc' := 32) d210_30 rfl o210 kc12_67 ?_
        exact r_iretI d210_32 rfl (kB c4 (by first | exact Or.inl c17 | exact Or.inr c27))
  · refine r_ldc (pc' := 9) d210_7 rfl o210 kc12_187 ?_
    exact r_iretI d210_9 rfl (kS c4)
def ahQ (s : Nat → Int32) (j : Nat) (what : Int32) : Int32 := if what = 0 then s (51 + j) else if what = 1 then belowI s j else if what = 2 then aboveI s j else s (75 + j)
theorem M_ahead {d : Nat} {h : Hp} {Q : Option AV → Hp → Prop} {m L e : Nat} {t n what : Int32} (hN : hn h = 65) (hM : RM h) (hc : Cnt (hi h 51) m L e) (hsk : ∀ j : Nat, j < m → ¬ hi h 51 3 = 0) (kB : (¬ inR t m ∨ ¬ (0 ≤ n ∧ n ≤ 60) ∨ ¬ (0 ≤ what ∧ what ≤ 3)) → Q (some (vI (-1000001))) h)
    (kS : ∀ j : Nat, j < m → t = nI j → ∀ k : Nat, k ≤ 60 → n = nI k → (0 ≤ what ∧ what ≤ 3) → goneI (hi h 51) j → Q (some (vI (-1000002))) h)
    (kW : ∀ j : Nat, j < m → t = nI j → ∀ k : Nat, k ≤ 60 → n = nI k → (0 ≤ what ∧ what ≤ 3) → ¬ goneI (hi h 51) j → ∀ x y, Q (some (vI (ahQ (gmN (hi h 51) m L k) j what))) (jk h x y)) : Spec (d + 5) 209 [vR (some 50), vI t, vI n, vI what] h Q := by
  obtain ⟨hc1, hc2, hc3, hc4, hc5, hc6⟩ := id hc
  refine spec_intro (by decide +kernel) rfl (Nat.le_of_ble_eq_true rfl) ?_
  refine r_aload_n (pc' := 1) d209_0 rfl rfl rfl ?_
  refine r_iload_n (pc' := 2) d209_1 rfl rfl rfl ?_
  refine r_call (pc' := 5) [vR (some 50), vI _] [] d209_2 rfl o209 st12_194_12 (rcv1 sh50 (pl hN rfl)) rfl (by decide) ⟨rfl, rfl⟩ (Nat.le_of_ble_eq_true rfl) rfl (s_isThingC hN hM hc ?_)
  refine r_if_eqB 27 (pc' := 8) d209_5 rfl rfl (fun c5 => ?_) (fun c5 => ?_)
  · refine r_ldc (pc' := 29) d209_27 rfl o209 kc12_67 ?_
    exact r_iretI d209_29 rfl (kB (by first | exact Or.inl c5 | exact Or.inr (Or.inl c15) | exact Or.inr (Or.inr c24)))
  · refine r_iload_n (pc' := 9) d209_8 rfl rfl rfl ?_
    refine r_iconst (v := 0) (pc' := 10) d209_9 rfl (by decide) ?_
    refine r_bipush (v := 60) (pc' := 12) d209_10 rfl (by decide) ?_
    refine r_call (pc' := 15) [vI _, vI _, vI _] [] d209_12 rfl o209 st12_59 rcv0 rfl (by decide) ⟨rfl, rfl⟩ (Nat.le_of_ble_eq_true rfl) rfl (s_in ?_)
    refine r_if_eqB 27 (pc' := 18) d209_15 rfl rfl (fun c15 => ?_) (fun c15 => ?_)
    · refine r_ldc (pc' := 29) d209_27 rfl o209 kc12_67 ?_
      exact r_iretI d209_29 rfl (kB (by first | exact Or.inl c5 | exact Or.inr (Or.inl c15) | exact Or.inr (Or.inr c24)))
    · refine r_iload_n (pc' := 19) d209_18 rfl rfl rfl ?_
      refine r_iconst (v := 0) (pc' := 20) d209_19 rfl (by decide) ?_
      refine r_iconst (v := 3) (pc' := 21) d209_20 rfl (by decide) ?_
      refine r_call (pc' := 24) [vI _, vI _, vI _] [] d209_21 rfl o209 st12_59 rcv0 rfl (by decide) ⟨rfl, rfl⟩ (Nat.le_of_ble_eq_true rfl) rfl (s_in ?_)
      refine r_if_neB 30 (pc' := 27) d209_24 rfl rfl (fun c24 => ?_) (fun c24 => ?_)
      · obtain ⟨j, hj, rfl⟩ := inR_of c5 (by omega)
        obtain ⟨k, hk, rfl⟩ := nat2 (n := 60) c15 (by decide)
        refine r_aload_n (pc' := 31) d209_30 rfl rfl rfl ?_
        refine r_iload_n (pc' := 32) d209_31 rfl rfl rfl ?_
        refine r_call (pc' := 35) [vR (some 50), vI _] [] d209_32 rfl o209 st12_178_12 (rcv1 sh50 (pl hN rfl)) rfl (by decide) ⟨rfl, rfl⟩ (Nat.le_of_ble_eq_true rfl) rfl (s_isGone hN hM (by omega) ?_)
        refine r_if_eqB 41 (pc' := 38) d209_35 rfl rfl (fun c35 => ?_) (fun c35 => ?_)
        · refine r_aload_n (pc' := 42) d209_41 rfl rfl rfl ?_
          refine r_call (pc' := 45) [vR (some 50)] [] d209_42 rfl o209 st12_217_12 (rcv1 sh50 (pl hN rfl)) rfl (by decide) ⟨rfl, rfl⟩ (Nat.le_of_ble_eq_true rfl) rfl (s_holdsF hN hM ?_)
          refine r_aload_n (pc' := 46) d209_45 rfl rfl rfl ?_
          refine r_iload_n (pc' := 47) d209_46 rfl rfl rfl ?_
          refine r_call (pc' := 50) [vR (some 50), vI _] [] d209_47 rfl o209 st12_220_12 (rcv1 sh50 (pl hN rfl)) rfl (by decide) ⟨rfl, rfl⟩ (Nat.le_of_ble_eq_true rfl) rfl (s_go hN hM hc (hsk j hj) (by omega) (fun x => ?_))
          refine wp_heap (h' := fw h (hold66 (hi h 51) (hi h 61)) x (gmN (hi h 51) m L k)) (fw_min _ _ _ _ _ _) ?_
          refine r_iload_n (pc' := 51) d209_50 rfl rfl rfl ?_
          refine r_if_ne 66 (pc' := 54) d209_51 rfl rfl (fun c51 => ?_) (fun c51 => ?_)
          · refine r_iload_n (pc' := 67) d209_66 rfl rfl rfl ?_
            refine r_iconst (v := 1) (pc' := 68) d209_67 rfl (by decide) ?_
            refine r_icmp_ne 79 (pc' := 71) d209_68 rfl rfl (fun c68 => ?_) (fun c68 => ?_)
            · refine r_iload_n (pc' := 80) d209_79 rfl rfl rfl ?_
              refine r_iconst (v := 2) (pc' := 81) d209_80 rfl (by decide) ?_
              refine r_icmp_ne 92 (pc' := 84) d209_81 rfl rfl (fun c81 => ?_) (fun c81 => ?_)
              · refine r_aload_n (pc' := 93) d209_92 rfl rfl rfl ?_
                refine r_getS (pc' := 96) d209_93 rfl o209 sf12_7_12 sh50 (pl hN rfl) (rfm0 hM) ?_
                refine r_bipush (v := 75) (pc' := 98) d209_96 rfl (by decide) ?_
                refine r_iload_n (pc' := 99) d209_98 rfl rfl rfl ?_
                refine r_iadd (pc' := 100) d209_99 rfl ?_
                refine r_ialdN (pc' := 101) (j := (75 + j)) d209_100 rfl sh51 (pl hN rfl) (by simp only [lit, nI_add, pk_mul]) (by omega) (by decide) ?_
                refine r_istore (pc' := 103) (ls' := [(4, vI _), (0, vR (some 50)), (1, vI _), (2, vI _), (3, vI _)]) d209_101 rfl (by decide) rfl ?_
                refine r_aload_n (pc' := 104) d209_103 rfl rfl rfl ?_
                refine r_call (pc' := 107) [vR (some 50)] [] d209_104 rfl o209 st12_226_12 (rcv1 sh50 (pl hN rfl)) rfl (by decide) ⟨rfl, rfl⟩ (Nat.le_of_ble_eq_true rfl) rfl (s_backF hN hM ((Outs.rf (hi h 51)).gm hc2 hc4 k) ?_)
                refine r_iload (pc' := 109) d209_107 rfl rfl ?_
                exact r_iretI d209_109 rfl (qv (by rw [ahQ, if_neg c51, if_neg c68, if_neg c81]; rfl) (kW j hj rfl k hk rfl c24 c35 x _))
              · refine r_aload_n (pc' := 85) d209_84 rfl rfl rfl ?_
                refine r_iload_n (pc' := 86) d209_85 rfl rfl rfl ?_
                refine r_call (pc' := 89) [vR (some 50), vI _] [] d209_86 rfl o209 st12_223_12 (rcv1 sh50 (pl hN rfl)) rfl (by decide) ⟨rfl, rfl⟩ (Nat.le_of_ble_eq_true rfl) rfl (s_above hN hM (by omega) ?_)
                refine r_goto 101 d209_89 rfl ?_
                refine r_istore (pc' := 103) (ls' := [(4, vI _), (0, vR (some 50)), (1, vI _), (2, vI _), (3, vI _)]) d209_101 rfl (by decide) rfl ?_
                refine r_aload_n (pc' := 104) d209_103 rfl rfl rfl ?_
                refine r_call (pc' := 107) [vR (some 50)] [] d209_104 rfl o209 st12_226_12 (rcv1 sh50 (pl hN rfl)) rfl (by decide) ⟨rfl, rfl⟩ (Nat.le_of_ble_eq_true rfl) rfl (s_backF hN hM ((Outs.rf (hi h 51)).gm hc2 hc4 k) ?_)
                refine r_iload (pc' := 109) d209_107 rfl rfl ?_
                exact r_iretI d209_109 rfl (qv (by rw [ahQ, if_neg c51, if_neg c68, if_pos c81]; rfl) (kW j hj rfl k hk rfl c24 c35 x _))
            · refine r_aload_n (pc' := 72) d209_71 rfl rfl rfl ?_
              refine r_iload_n (pc' := 73) d209_72 rfl rfl rfl ?_
              refine r_call (pc' := 76) [vR (some 50), vI _] [] d209_73 rfl o209 st12_160_12 (rcv1 sh50 (pl hN rfl)) rfl (by decide) ⟨rfl, rfl⟩ (Nat.le_of_ble_eq_true rfl) rfl (s_below hN hM (by omega) ?_)
              refine r_goto 101 d209_76 rfl ?_
              refine r_istore (pc' := 103) (ls' := [(4, vI _), (0, vR (some 50)), (1, vI _), (2, vI _), (3, vI _)]) d209_101 rfl (by decide) rfl ?_
              refine r_aload_n (pc' := 104) d209_103 rfl rfl rfl ?_
              refine r_call (pc' := 107) [vR (some 50)] [] d209_104 rfl o209 st12_226_12 (rcv1 sh50 (pl hN rfl)) rfl (by decide) ⟨rfl, rfl⟩ (Nat.le_of_ble_eq_true rfl) rfl (s_backF hN hM ((Outs.rf (hi h 51)).gm hc2 hc4 k) ?_)
              refine r_iload (pc' := 109) d209_107 rfl rfl ?_
              exact r_iretI d209_109 rfl (qv (by rw [ahQ, if_neg c51, if_pos c68]; rfl) (kW j hj rfl k hk rfl c24 c35 x _))
          · refine r_aload_n (pc' := 55) d209_54 rfl rfl rfl ?_
            refine r_getS (pc' := 58) d209_55 rfl o209 sf12_7_12 sh50 (pl hN rfl) (rfm0 hM) ?_
            refine r_bipush (v := 51) (pc' := 60) d209_58 rfl (by decide) ?_
            refine r_iload_n (pc' := 61) d209_60 rfl rfl rfl ?_
            refine r_iadd (pc' := 62) d209_61 rfl ?_
            refine r_ialdN (pc' := 63) (j := (51 + j)) d209_62 rfl sh51 (pl hN rfl) (by simp only [lit, nI_add, pk_mul]) (by omega) (by decide) ?_
            refine r_goto 101 d209_63 rfl ?_
            refine r_istore (pc' := 103) (ls' := [(4, vI _), (0, vR (some 50)), (1, vI _), (2, vI _), (3, vI _)]) d209_101 rfl (by decide) rfl ?_
            refine r_aload_n (pc' := 104) d209_103 rfl rfl rfl ?_
            refine r_call (pc' := 107) [vR (some 50)] [] d209_104 rfl o209 st12_226_12 (rcv1 sh50 (pl hN rfl)) rfl (by decide) ⟨rfl, rfl⟩ (Nat.le_of_ble_eq_true rfl) rfl (s_backF hN hM ((Outs.rf (hi h 51)).gm hc2 hc4 k) ?_)
            refine r_iload (pc' := 109) d209_107 rfl rfl ?_
            exact r_iretI d209_109 rfl (qv (by rw [ahQ, if_pos c51]; rfl) (kW j hj rfl k hk rfl c24 c35 x _))
        · refine r_ldc (pc' := 40) d209_38 rfl o209 kc12_187 ?_
          exact r_iretI d209_40 rfl (kS j hj rfl k hk rfl c24 c35)
      · refine r_ldc (pc' := 29) d209_27 rfl o209 kc12_67 ?_
        exact r_iretI d209_29 rfl (kB (by first | exact Or.inl c5 | exact Or.inr (Or.inl c15) | exact Or.inr (Or.inr c24)))
