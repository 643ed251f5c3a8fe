/-! the reference: servable (printed by wip/whole/m50.py) -/
abbrev hasI (set : Int32) (k : Nat) : Prop := (set >>> (nI k &&& 31)) &&& 1 = 1
abbrev mayG (s g : Nat → Int32) (mi : Int32) (q t : Nat) : Prop := s (81 + q) = -1000000 ∧ s (15 + q) ≤ mi ∧ ¬ g t = 0 ∧ s (11 + q) = s (5 + t)
abbrev wnC (s : Nat → Int32) (mi so : Int32) (q : Nat) : Prop := s (81 + q) = -1000000 ∧ s (15 + q) ≤ mi ∧ s (11 + q) = so
abbrev thC (s g : Nat → Int32) (set so : Int32) (t : Nat) : Prop := hasI set t ∧ ¬ g t = 0 ∧ s (5 + t) = so
def wnN (s : Nat → Int32) (mi so : Int32) (f : Nat) : Nat → Int32
  | 0 => 0
  | k + 1 => wnN s mi so f k + (if wnC s mi so (f + k) then 1 else 0)
def thN (s g : Nat → Int32) (set so : Int32) : Nat → Int32
  | 0 => 0
  | k + 1 => thN s g set so k + (if thC s g set so k then 1 else 0)
def mnO (s g : Nat → Int32) (m e f : Nat) (set mi so : Int32) : Int32 := if thN s g set so m ≤ wnN s mi so f (e - f) then thN s g set so m else wnN s mi so f (e - f)
def mst (s g : Nat → Int32) (m e f : Nat) (set mi : Int32) : Nat → Int32
  | 0 => 0
  | q + 1 => mst s g m e f set mi q + mnO s g m e f set mi (nI (q + 1))
theorem s_has {d : Nat} {h : Hp} {Q : Option AV → Hp → Prop} {set : Int32} {k : Nat} (kk : Q (some (vI (bI (hasI set k)))) h) : Spec d 147 [vI set, vI (nI k)] h Q := by
  refine spec_intro (by decide +kernel) rfl (Nat.le_of_ble_eq_true rfl) ?_
  refine r_iload_n (pc' := 1) d147_0 rfl rfl rfl ?_
  refine r_iload_n (pc' := 2) d147_1 rfl rfl rfl ?_
  refine r_ishr (pc' := 3) d147_2 rfl ?_
  refine r_iconst (v := 1) (pc' := 4) d147_3 rfl (by decide) ?_
  refine r_iand (pc' := 5) d147_4 rfl ?_
  refine r_iconst (v := 1) (pc' := 6) d147_5 rfl (by decide) ?_
  refine r_icmp_ne 13 (pc' := 9) d147_6 rfl rfl (fun c6 => ?_) (fun c6 => ?_)
  · refine r_iconst (v := 0) (pc' := 14) d147_13 rfl (by decide) ?_
    exact r_iretZ0 d147_14 rfl (qv (b0 c6) kk)
  · refine r_iconst (v := 1) (pc' := 10) d147_9 rfl (by decide) ?_
    refine r_goto 14 d147_10 rfl ?_
    exact r_iretZ1 d147_14 rfl (qv (b1 c6) kk)
theorem s_mayGet {d : Nat} {h : Hp} {Q : Option AV → Hp → Prop} {q t : Nat} {mi : Int32} (hN : hn h = 65) (hM : RM h) (hq : q < 4) (ht : t < 6) (k : Q (some (vI (bI (mayG (hi h 51) (hi h 62) mi q t)))) h) : Spec d 220 [vR (some 50), vI (nI q), vI (nI t), vI mi] h Q := by
  refine spec_intro (by decide +kernel) rfl (Nat.le_of_ble_eq_true rfl) ?_
  refine r_aload_n (pc' := 1) d220_0 rfl rfl rfl ?_
  refine r_getS (pc' := 4) d220_1 rfl o220 sf12_7_12 sh50 (pl hN rfl) (rfm0 hM) ?_
  refine r_bipush (v := 81) (pc' := 6) d220_4 rfl (by decide) ?_
  refine r_iload_n (pc' := 7) d220_6 rfl rfl rfl ?_
  refine r_iadd (pc' := 8) d220_7 rfl ?_
  refine r_ialdN (pc' := 9) (j := (81 + q)) d220_8 rfl sh51 (pl hN rfl) (by simp only [lit, nI_add, pk_mul]) (by omega) (by decide) ?_
  refine r_ldc (pc' := 11) d220_9 rfl o220 kc12_53 ?_
  refine r_icmp_ne 60 (pc' := 14) d220_11 rfl rfl (fun c11 => ?_) (fun c11 => ?_)
  · refine r_iconst (v := 0) (pc' := 61) d220_60 rfl (by decide) ?_
    exact r_iretZ0 d220_61 rfl (qv (b0 (by first | exact fun z => c11 z.1 | exact fun z => absurd c24 (Int32.not_lt.mpr z.2.1) | exact fun z => z.2.2.1 c33 | exact fun z => c53 z.2.2.2)) k)
  · refine r_aload_n (pc' := 15) d220_14 rfl rfl rfl ?_
    refine r_getS (pc' := 18) d220_15 rfl o220 sf12_7_12 sh50 (pl hN rfl) (rfm0 hM) ?_
    refine r_bipush (v := 15) (pc' := 20) d220_18 rfl (by decide) ?_
    refine r_iload_n (pc' := 21) d220_20 rfl rfl rfl ?_
    refine r_iadd (pc' := 22) d220_21 rfl ?_
    refine r_ialdN (pc' := 23) (j := (15 + q)) d220_22 rfl sh51 (pl hN rfl) (by simp only [lit, nI_add, pk_mul]) (by omega) (by decide) ?_
    refine r_iload_n (pc' := 24) d220_23 rfl rfl rfl ?_
    refine r_icmp_gt 60 (pc' := 27) d220_24 rfl rfl (fun c24 => ?_) (fun c24 => ?_)
    · refine r_iconst (v := 0) (pc' := 61) d220_60 rfl (by decide) ?_
      exact r_iretZ0 d220_61 rfl (qv (b0 (by first | exact fun z => c11 z.1 | exact fun z => absurd c24 (Int32.not_lt.mpr z.2.1) | exact fun z => z.2.2.1 c33 | exact fun z => c53 z.2.2.2)) k)
    · refine r_aload_n (pc' := 28) d220_27 rfl rfl rfl ?_
      refine r_getS (pc' := 31) d220_28 rfl o220 sf12_44_12 sh50 (pl hN rfl) (rfm20 hM) ?_
      refine r_iload_n (pc' := 32) d220_31 rfl rfl rfl ?_
      refine r_baldN (pc' := 33) (j := t) d220_32 rfl sh62 (pl hN rfl) rfl (by omega) (by decide) ?_
      refine r_if_eq 60 (pc' := 36) d220_33 rfl rfl (fun c33 => ?_) (fun c33 => ?_)
      · refine r_iconst (v := 0) (pc' := 61) d220_60 rfl (by decide) ?_
        exact r_iretZ0 d220_61 rfl (qv (b0 (by first | exact fun z => c11 z.1 | exact fun z => absurd c24 (Int32.not_lt.mpr z.2.1) | exact fun z => z.2.2.1 c33 | exact fun z => c53 z.2.2.2)) k)
      · refine r_aload_n (pc' := 37) d220_36 rfl rfl rfl ?_
        refine r_getS (pc' := 40) d220_37 rfl o220 sf12_7_12 sh50 (pl hN rfl) (rfm0 hM) ?_
        refine r_bipush (v := 11) (pc' := 42) d220_40 rfl (by decide) ?_
        refine r_iload_n (pc' := 43) d220_42 rfl rfl rfl ?_
        refine r_iadd (pc' := 44) d220_43 rfl ?_
        refine r_ialdN (pc' := 45) (j := (11 + q)) d220_44 rfl sh51 (pl hN rfl) (by simp only [lit, nI_add, pk_mul]) (by omega) (by decide) ?_
        refine r_aload_n (pc' := 46) d220_45 rfl rfl rfl ?_
        refine r_getS (pc' := 49) d220_46 rfl o220 sf12_7_12 sh50 (pl hN rfl) (rfm0 hM) ?_
        refine r_iconst (v := 5) (pc' := 50) d220_49 rfl (by decide) ?_
        refine r_iload_n (pc' := 51) d220_50 rfl rfl rfl ?_
        refine r_iadd (pc' := 52) d220_51 rfl ?_
        refine r_ialdN (pc' := 53) (j := (5 + t)) d220_52 rfl sh51 (pl hN rfl) (by simp only [lit, nI_add, pk_mul]) (by omega) (by decide) ?_
        refine r_icmp_ne 60 (pc' := 56) d220_53 rfl rfl (fun c53 => ?_) (fun c53 => ?_)
        · refine r_iconst (v := 0) (pc' := 61) d220_60 rfl (by decide) ?_
          exact r_iretZ0 d220_61 rfl (qv (b0 (by first | exact fun z => c11 z.1 | exact fun z => absurd c24 (Int32.not_lt.mpr z.2.1) | exact fun z => z.2.2.1 c33 | exact fun z => c53 z.2.2.2)) k)
        · refine r_iconst (v := 1) (pc' := 57) d220_56 rfl (by decide) ?_
          refine r_goto 61 d220_57 rfl ?_
          exact r_iretZ1 d220_61 rfl (qv (b1 ⟨c11, Int32.not_lt.mp c24, c33, c53⟩) k)
theorem s_most {d : Nat} {h : Hp} {Q : Option AV → Hp → Prop} {m L e : Nat} {f : Nat} {set mi : Int32} (hN : hn h = 65) (hM : RM h) (hc : Cnt (hi h 51) m L e) (hf : f ≤ e) (kk : Q (some (vI (mst (hi h 51) (hi h 62) m e f set mi 5))) h) : Spec (d + 1) 221 [vR (some 50), vI (nI f), vI set, vI mi] h Q := by
  obtain ⟨hc1, hc2, hc3, hc4, hc5, hc6⟩ := id hc
  refine spec_intro (by decide +kernel) rfl (Nat.le_of_ble_eq_true rfl) ?_
  refine r_iconst (v := 0) (pc' := 1) d221_0 rfl (by decide) ?_
  refine r_istore (pc' := 3) (ls' := [(4, vI _), (0, vR (some 50)), (1, vI _), (2, vI _), (3, vI _)]) d221_1 rfl (by decide) rfl ?_
  refine r_iconst (v := 1) (pc' := 4) d221_3 rfl (by decide) ?_
  refine r_istore (pc' := 6) (ls' := [(5, vI _), (4, vI _), (0, vR (some 50)), (1, vI _), (2, vI _), (3, vI _)]) d221_4 rfl (by decide) rfl ?_
  refine wp_pick (ls' := [(0, vR (some 50)), (1, vI _), (2, vI _), (3, vI _), (4, vI _), (5, vI _)]) [2, 3, 4, 5, 1, 0] rfl ?_
  have loop : ∀ (r q : Nat), q + r = 5 → wp (d + 1) 221 Q 0 0 6 [(0, vR (some 50)), (1, vI (nI f)), (2, vI set), (3, vI mi), (4, vI (mst (hi h 51) (hi h 62) m e f set mi q)), (5, vI (nI (q + 1)))] [] h := by
    intro r
    induction r with
    | zero =>
      intro q hq
      obtain rfl : q = 5 := by omega
      refine r_iload (pc' := 8) d221_6 rfl rfl ?_
      refine r_iconst (v := 5) (pc' := 9) d221_8 rfl (by decide) ?_
      refine r_icmp_gt 180 (pc' := 12) d221_9 rfl rfl (fun c9 => ?_) (fun c9 => absurd (by decide) c9)
      refine r_iload (pc' := 182) d221_180 rfl rfl ?_
      exact r_iretI d221_182 rfl kk
    | succ r ih =>
      intro q hq
      have ih2 := ih (q + 1) (by omega)
      rw [mst] at ih2
      generalize mst (hi h 51) (hi h 62) m e f set mi q = A0 at ih2 ⊢
      generalize hso : nI (q + 1) = so at ih2 ⊢
      refine r_iload (pc' := 8) d221_6 rfl rfl ?_
      refine r_iconst (v := 5) (pc' := 9) d221_8 rfl (by decide) ?_
      refine r_icmp_gt 180 (pc' := 12) d221_9 rfl rfl (fun c9 => absurd c9 (by rw [← hso]; exact nI_nlt (a := 5) (b := q + 1) (by omega) (by decide))) (fun c9 => ?_)
      refine r_iconst (v := 0) (pc' := 13) d221_12 rfl (by decide) ?_
      refine r_istore (pc' := 15) (ls' := [(6, vI _), (0, vR (some 50)), (1, vI _), (2, vI _), (3, vI _), (4, vI _), (5, vI _)]) d221_13 rfl (by decide) rfl ?_
      refine r_iconst (v := 0) (pc' := 16) d221_15 rfl (by decide) ?_
      refine r_istore (pc' := 18) (ls' := [(7, vI _), (6, vI _), (0, vR (some 50)), (1, vI _), (2, vI _), (3, vI _), (4, vI _), (5, vI _)]) d221_16 rfl (by decide) rfl ?_
      refine r_iload_n (pc' := 19) d221_18 rfl rfl rfl ?_
      refine r_istore (pc' := 21) (ls' := [(8, vI _), (7, vI _), (6, vI _), (0, vR (some 50)), (1, vI _), (2, vI _), (3, vI _), (4, vI _), (5, vI _)]) d221_19 rfl (by decide) rfl ?_
      refine wp_pick (ls' := [(0, vR (some 50)), (1, vI _), (2, vI _), (3, vI _), (4, vI _), (5, vI _), (6, vI _), (7, vI _), (8, vI _)]) [3, 4, 5, 6, 7, 8, 2, 1, 0] rfl ?_
      have loop1 : ∀ (r k : Nat), k + r = e - f → wp (d + 1) 221 Q 0 0 21 [(0, vR (some 50)), (1, vI (nI f)), (2, vI set), (3, vI mi), (4, vI A0), (5, vI so), (6, vI (wnN (hi h 51) mi so f k)), (7, vI 0), (8, vI (nI (f + k)))] [] h := by
        intro r
        induction r with
        | zero =>
          intro k hk
          obtain rfl : k = e - f := by omega
          refine r_iload (pc' := 23) d221_21 rfl rfl ?_
          refine r_aload_n (pc' := 24) d221_23 rfl rfl rfl ?_
          refine r_getS (pc' := 27) d221_24 rfl o221 sf12_7_12 sh50 (pl hN rfl) (rfm0 hM) ?_
          refine r_iconst (v := 2) (pc' := 28) d221_27 rfl (by decide) ?_
          refine r_ialdN (pc' := 29) (j := 2) d221_28 rfl sh51 (pl hN rfl) rfl (by omega) (by decide) ?_
          refine r_icmp_ge 92 (pc' := 32) d221_29 rfl rfl (fun c29 => ?_) (fun c29 => absurd (by rw [show hi h 51 2 = nI e from hc5]; exact nI_le (by omega) (by omega)) c29)
          refine r_iconst (v := 0) (pc' := 93) d221_92 rfl (by decide) ?_
          refine r_istore (pc' := 95) (ls' := [(8, vI _), (0, vR (some 50)), (1, vI _), (2, vI _), (3, vI _), (4, vI _), (5, vI _), (6, vI _), (7, vI _)]) d221_93 rfl (by decide) rfl ?_
          refine wp_pick (ls' := [(0, vR (some 50)), (1, vI _), (2, vI _), (3, vI _), (4, vI _), (5, vI _), (6, vI _), (7, vI _), (8, vI _)]) [1, 2, 3, 4, 5, 6, 7, 8, 0] rfl ?_
          generalize hWn : wnN (hi h 51) mi so f (e - f) = W0
          have loop2 : ∀ (r k : Nat), k + r = m → wp (d + 1) 221 Q 0 0 95 [(0, vR (some 50)), (1, vI (nI f)), (2, vI set), (3, vI mi), (4, vI A0), (5, vI so), (6, vI W0), (7, vI (thN (hi h 51) (hi h 62) set so k)), (8, vI (nI k))] [] h := by
            intro r
            induction r with
            | zero =>
              intro k hk
              obtain rfl : k = m := by omega
              refine r_iload (pc' := 97) d221_95 rfl rfl ?_
              refine r_aload_n (pc' := 98) d221_97 rfl rfl rfl ?_
              refine r_getS (pc' := 101) d221_98 rfl o221 sf12_7_12 sh50 (pl hN rfl) (rfm0 hM) ?_
              refine r_iconst (v := 1) (pc' := 102) d221_101 rfl (by decide) ?_
              refine r_ialdN (pc' := 103) (j := 1) d221_102 rfl sh51 (pl hN rfl) rfl (by omega) (by decide) ?_
              refine r_icmp_ge 155 (pc' := 106) d221_103 rfl rfl (fun c103 => ?_) (fun c103 => absurd (by rw [show hi h 51 1 = nI k from hc1]; exact nI_le (Nat.le_refl _) (by omega)) c103)
              refine r_iload (pc' := 157) d221_155 rfl rfl ?_
              refine r_iload (pc' := 159) d221_157 rfl rfl ?_
              refine r_iload (pc' := 161) d221_159 rfl rfl ?_
              refine r_icmp_ge 169 (pc' := 164) d221_161 rfl rfl (fun c161 => ?_) (fun c161 => ?_)
              · refine r_iload (pc' := 171) d221_169 rfl rfl ?_
                refine r_iadd (pc' := 172) d221_171 rfl ?_
                refine r_istore (pc' := 174) (ls' := [(4, vI _), (0, vR (some 50)), (1, vI _), (2, vI _), (3, vI _), (5, vI _), (6, vI _), (7, vI _), (8, vI _)]) d221_172 rfl (by decide) rfl ?_
                refine r_iinc (v := _ + 1) (pc' := 177) (ls' := [(5, vI _), (4, vI _), (0, vR (some 50)), (1, vI _), (2, vI _), (3, vI _), (6, vI _), (7, vI _), (8, vI _)]) d221_174 rfl rfl rfl (by decide) rfl ?_
                refine r_goto 6 d221_177 rfl ?_
                refine wp_pick (ls' := [(0, vR (some 50)), (1, vI _), (2, vI _), (3, vI _), (4, vI _), (5, vI _)]) [2, 3, 4, 5, 1, 0] rfl ?_
                rw [mnO, hWn, if_pos c161] at ih2
                rw [show so + 1 = nI (q + 1 + 1) by rw [← hso, nI_1]]
                exact ih2
              · refine r_iload (pc' := 166) d221_164 rfl rfl ?_
                refine r_goto 171 d221_166 rfl ?_
                refine r_iadd (pc' := 172) d221_171 rfl ?_
                refine r_istore (pc' := 174) (ls' := [(4, vI _), (0, vR (some 50)), (1, vI _), (2, vI _), (3, vI _), (5, vI _), (6, vI _), (7, vI _), (8, vI _)]) d221_172 rfl (by decide) rfl ?_
                refine r_iinc (v := _ + 1) (pc' := 177) (ls' := [(5, vI _), (4, vI _), (0, vR (some 50)), (1, vI _), (2, vI _), (3, vI _), (6, vI _), (7, vI _), (8, vI _)]) d221_174 rfl rfl rfl (by decide) rfl ?_
                refine r_goto 6 d221_177 rfl ?_
                refine wp_pick (ls' := [(0, vR (some 50)), (1, vI _), (2, vI _), (3, vI _), (4, vI _), (5, vI _)]) [2, 3, 4, 5, 1, 0] rfl ?_
                rw [mnO, hWn, if_neg c161] at ih2
                rw [show so + 1 = nI (q + 1 + 1) by rw [← hso, nI_1]]
                exact ih2
            | succ r ih3 =>
              intro k hk
              refine r_iload (pc' := 97) d221_95 rfl rfl ?_
              refine r_aload_n (pc' := 98) d221_97 rfl rfl rfl ?_
              refine r_getS (pc' := 101) d221_98 rfl o221 sf12_7_12 sh50 (pl hN rfl) (rfm0 hM) ?_
              refine r_iconst (v := 1) (pc' := 102) d221_101 rfl (by decide) ?_
              refine r_ialdN (pc' := 103) (j := 1) d221_102 rfl sh51 (pl hN rfl) rfl (by omega) (by decide) ?_
              refine r_icmp_ge 155 (pc' := 106) d221_103 rfl rfl (fun c103 => absurd c103 (by rw [show hi h 51 1 = nI m from hc1]; exact nI_ge (by omega) (by omega))) (fun c103 => ?_)
              refine r_iload (pc' := 108) d221_106 rfl rfl ?_
              refine r_iload_n (pc' := 109) d221_108 rfl rfl rfl ?_
              refine r_iload (pc' := 111) d221_109 rfl rfl ?_
              refine r_call (pc' := 114) [vI _, vI _] [vI _] d221_111 rfl o221 st12_238 rcv0 rfl (by decide) ⟨rfl, rfl⟩ (Nat.le_of_ble_eq_true rfl) rfl (s_has ?_)
              refine r_if_eqB 145 (pc' := 117) d221_114 rfl rfl (fun c114 => ?_) (fun c114 => ?_)
              · refine r_iconst (v := 0) (pc' := 146) d221_145 rfl (by decide) ?_
                refine r_iadd (pc' := 147) d221_146 rfl ?_
                refine r_istore (pc' := 149) (ls' := [(7, vI _), (0, vR (some 50)), (1, vI _), (2, vI _), (3, vI _), (4, vI _), (5, vI _), (6, vI _), (8, vI _)]) d221_147 rfl (by decide) rfl ?_
                refine r_iinc (v := _ + 1) (pc' := 152) (ls' := [(8, vI _), (7, vI _), (0, vR (some 50)), (1, vI _), (2, vI _), (3, vI _), (4, vI _), (5, vI _), (6, vI _)]) d221_149 rfl rfl rfl (by decide) rfl ?_
                refine r_goto 95 d221_152 rfl ?_
                refine wp_pick (ls' := [(0, vR (some 50)), (1, vI _), (2, vI _), (3, vI _), (4, vI _), (5, vI _), (6, vI _), (7, vI _), (8, vI _)]) [2, 3, 4, 5, 6, 7, 8, 1, 0] rfl ?_
                rw [nI_1]
                have w := ih3 (k + 1) (by omega)
                rw [thN, if_neg (fun z => c114 z.1)] at w
                exact w
              · refine r_aload_n (pc' := 118) d221_117 rfl rfl rfl ?_
                refine r_getS (pc' := 121) d221_118 rfl o221 sf12_44_12 sh50 (pl hN rfl) (rfm20 hM) ?_
                refine r_iload (pc' := 123) d221_121 rfl rfl ?_
                refine r_baldN (pc' := 124) (j := k) d221_123 rfl sh62 (pl hN rfl) rfl (by omega) (by decide) ?_
                refine r_if_eq 145 (pc' := 127) d221_124 rfl rfl (fun c124 => ?_) (fun c124 => ?_)
                · refine r_iconst (v := 0) (pc' := 146) d221_145 rfl (by decide) ?_
                  refine r_iadd (pc' := 147) d221_146 rfl ?_
                  refine r_istore (pc' := 149) (ls' := [(7, vI _), (0, vR (some 50)), (1, vI _), (2, vI _), (3, vI _), (4, vI _), (5, vI _), (6, vI _), (8, vI _)]) d221_147 rfl (by decide) rfl ?_
                  refine r_iinc (v := _ + 1) (pc' := 152) (ls' := [(8, vI _), (7, vI _), (0, vR (some 50)), (1, vI _), (2, vI _), (3, vI _), (4, vI _), (5, vI _), (6, vI _)]) d221_149 rfl rfl rfl (by decide) rfl ?_
                  refine r_goto 95 d221_152 rfl ?_
                  refine wp_pick (ls' := [(0, vR (some 50)), (1, vI _), (2, vI _), (3, vI _), (4, vI _), (5, vI _), (6, vI _), (7, vI _), (8, vI _)]) [2, 3, 4, 5, 6, 7, 8, 1, 0] rfl ?_
                  rw [nI_1]
                  have w := ih3 (k + 1) (by omega)
                  rw [thN, if_neg (fun z => z.2.1 c124)] at w
                  exact w
                · refine r_aload_n (pc' := 128) d221_127 rfl rfl rfl ?_
                  refine r_getS (pc' := 131) d221_128 rfl o221 sf12_7_12 sh50 (pl hN rfl) (rfm0 hM) ?_
                  refine r_iconst (v := 5) (pc' := 132) d221_131 rfl (by decide) ?_
                  refine r_iload (pc' := 134) d221_132 rfl rfl ?_
                  refine r_iadd (pc' := 135) d221_134 rfl ?_
                  refine r_ialdN (pc' := 136) (j := (5 + k)) d221_135 rfl sh51 (pl hN rfl) (by simp only [lit, nI_add, pk_mul]) (by omega) (by decide) ?_
                  refine r_iload (pc' := 138) d221_136 rfl rfl ?_
                  refine r_icmp_ne 145 (pc' := 141) d221_138 rfl rfl (fun c138 => ?_) (fun c138 => ?_)
                  · refine r_iconst (v := 0) (pc' := 146) d221_145 rfl (by decide) ?_
                    refine r_iadd (pc' := 147) d221_146 rfl ?_
                    refine r_istore (pc' := 149) (ls' := [(7, vI _), (0, vR (some 50)), (1, vI _), (2, vI _), (3, vI _), (4, vI _), (5, vI _), (6, vI _), (8, vI _)]) d221_147 rfl (by decide) rfl ?_
                    refine r_iinc (v := _ + 1) (pc' := 152) (ls' := [(8, vI _), (7, vI _), (0, vR (some 50)), (1, vI _), (2, vI _), (3, vI _), (4, vI _), (5, vI _), (6, vI _)]) d221_149 rfl rfl rfl (by decide) rfl ?_
                    refine r_goto 95 d221_152 rfl ?_
                    refine wp_pick (ls' := [(0, vR (some 50)), (1, vI _), (2, vI _), (3, vI _), (4, vI _), (5, vI _), (6, vI _), (7, vI _), (8, vI _)]) [2, 3, 4, 5, 6, 7, 8, 1, 0] rfl ?_
                    rw [nI_1]
                    have w := ih3 (k + 1) (by omega)
                    rw [thN, if_neg (fun z => c138 z.2.2)] at w
                    exact w
                  · refine r_iconst (v := 1) (pc' := 142) d221_141 rfl (by decide) ?_
                    refine r_goto 146 d221_142 rfl ?_
                    refine r_iadd (pc' := 147) d221_146 rfl ?_
                    refine r_istore (pc' := 149) (ls' := [(7, vI _), (0, vR (some 50)), (1, vI _), (2, vI _), (3, vI _), (4, vI _), (5, vI _), (6, vI _), (8, vI _)]) d221_147 rfl (by decide) rfl ?_
                    refine r_iinc (v := _ + 1) (pc' := 152) (ls' := [(8, vI _), (7, vI _), (0, vR (some 50)), (1, vI _), (2, vI _), (3, vI _), (4, vI _), (5, vI _), (6, vI _)]) d221_149 rfl rfl rfl (by decide) rfl ?_
                    refine r_goto 95 d221_152 rfl ?_
                    refine wp_pick (ls' := [(0, vR (some 50)), (1, vI _), (2, vI _), (3, vI _), (4, vI _), (5, vI _), (6, vI _), (7, vI _), (8, vI _)]) [2, 3, 4, 5, 6, 7, 8, 1, 0] rfl ?_
                    rw [nI_1]
                    have w := ih3 (k + 1) (by omega)
                    rw [thN, if_pos ⟨c114, c124, c138⟩] at w
                    exact w
          exact loop2 m 0 (by omega)
        | succ r ih =>
          intro k hk
          refine r_iload (pc' := 23) d221_21 rfl rfl ?_
          refine r_aload_n (pc' := 24) d221_23 rfl rfl rfl ?_
          refine r_getS (pc' := 27) d221_24 rfl o221 sf12_7_12 sh50 (pl hN rfl) (rfm0 hM) ?_
          refine r_iconst (v := 2) (pc' := 28) d221_27 rfl (by decide) ?_
          refine r_ialdN (pc' := 29) (j := 2) d221_28 rfl sh51 (pl hN rfl) rfl (by omega) (by decide) ?_
          refine r_icmp_ge 92 (pc' := 32) d221_29 rfl rfl (fun c29 => absurd c29 (by rw [show hi h 51 2 = nI e from hc5]; exact nI_ge (by omega) (by omega))) (fun c29 => ?_)
          refine r_iload (pc' := 34) d221_32 rfl rfl ?_
          refine r_aload_n (pc' := 35) d221_34 rfl rfl rfl ?_
          refine r_getS (pc' := 38) d221_35 rfl o221 sf12_7_12 sh50 (pl hN rfl) (rfm0 hM) ?_
          refine r_bipush (v := 81) (pc' := 40) d221_38 rfl (by decide) ?_
          refine r_iload (pc' := 42) d221_40 rfl rfl ?_
          refine r_iadd (pc' := 43) d221_42 rfl ?_
          refine r_ialdN (pc' := 44) (j := (81 + (f + k))) d221_43 rfl sh51 (pl hN rfl) (by simp only [lit, nI_add, pk_mul]) (by omega) (by decide) ?_
          refine r_ldc (pc' := 46) d221_44 rfl o221 kc12_53 ?_
          refine r_icmp_ne 82 (pc' := 49) d221_46 rfl rfl (fun c46 => ?_) (fun c46 => ?_)
          · refine r_iconst (v := 0) (pc' := 83) d221_82 rfl (by decide) ?_
            refine r_iadd (pc' := 84) d221_83 rfl ?_
            refine r_istore (pc' := 86) (ls' := [(6, vI _), (0, vR (some 50)), (1, vI _), (2, vI _), (3, vI _), (4, vI _), (5, vI _), (7, vI _), (8, vI _)]) d221_84 rfl (by decide) rfl ?_
            refine r_iinc (v := _ + 1) (pc' := 89) (ls' := [(8, vI _), (6, vI _), (0, vR (some 50)), (1, vI _), (2, vI _), (3, vI _), (4, vI _), (5, vI _), (7, vI _)]) d221_86 rfl rfl rfl (by decide) rfl ?_
            refine r_goto 21 d221_89 rfl ?_
            refine wp_pick (ls' := [(0, vR (some 50)), (1, vI _), (2, vI _), (3, vI _), (4, vI _), (5, vI _), (6, vI _), (7, vI _), (8, vI _)]) [2, 3, 4, 5, 6, 7, 1, 8, 0] rfl ?_
            rw [nI_1]
            have w := ih (k + 1) (by omega)
            rw [wnN, if_neg (fun z => c46 z.1)] at w
            exact w
          · refine r_aload_n (pc' := 50) d221_49 rfl rfl rfl ?_
            refine r_getS (pc' := 53) d221_50 rfl o221 sf12_7_12 sh50 (pl hN rfl) (rfm0 hM) ?_
            refine r_bipush (v := 15) (pc' := 55) d221_53 rfl (by decide) ?_
            refine r_iload (pc' := 57) d221_55 rfl rfl ?_
            refine r_iadd (pc' := 58) d221_57 rfl ?_
            refine r_ialdN (pc' := 59) (j := (15 + (f + k))) d221_58 rfl sh51 (pl hN rfl) (by simp only [lit, nI_add, pk_mul]) (by omega) (by decide) ?_
            refine r_iload_n (pc' := 60) d221_59 rfl rfl rfl ?_
            refine r_icmp_gt 82 (pc' := 63) d221_60 rfl rfl (fun c60 => ?_) (fun c60 => ?_)
            · refine r_iconst (v := 0) (pc' := 83) d221_82 rfl (by decide) ?_
              refine r_iadd (pc' := 84) d221_83 rfl ?_
              refine r_istore (pc' := 86) (ls' := [(6, vI _), (0, vR (some 50)), (1, vI _), (2, vI _), (3, vI _), (4, vI _), (5, vI _), (7, vI _), (8, vI _)]) d221_84 rfl (by decide) rfl ?_
              refine r_iinc (v := _ + 1) (pc' := 89) (ls' := [(8, vI _), (6, vI _), (0, vR (some 50)), (1, vI _), (2, vI _), (3, vI _), (4, vI _), (5, vI _), (7, vI _)]) d221_86 rfl rfl rfl (by decide) rfl ?_
              refine r_goto 21 d221_89 rfl ?_
              refine wp_pick (ls' := [(0, vR (some 50)), (1, vI _), (2, vI _), (3, vI _), (4, vI _), (5, vI _), (6, vI _), (7, vI _), (8, vI _)]) [2, 3, 4, 5, 6, 7, 1, 8, 0] rfl ?_
              rw [nI_1]
              have w := ih (k + 1) (by omega)
              rw [wnN, if_neg (fun z => absurd c60 (Int32.not_lt.mpr z.2.1))] at w
              exact w
            · refine r_aload_n (pc' := 64) d221_63 rfl rfl rfl ?_
              refine r_getS (pc' := 67) d221_64 rfl o221 sf12_7_12 sh50 (pl hN rfl) (rfm0 hM) ?_
              refine r_bipush (v := 11) (pc' := 69) d221_67 rfl (by decide) ?_
              refine r_iload (pc' := 71) d221_69 rfl rfl ?_
              refine r_iadd (pc' := 72) d221_71 rfl ?_
              refine r_ialdN (pc' := 73) (j := (11 + (f + k))) d221_72 rfl sh51 (pl hN rfl) (by simp only [lit, nI_add, pk_mul]) (by omega) (by decide) ?_
              refine r_iload (pc' := 75) d221_73 rfl rfl ?_
              refine r_icmp_ne 82 (pc' := 78) d221_75 rfl rfl (fun c75 => ?_) (fun c75 => ?_)
              · refine r_iconst (v := 0) (pc' := 83) d221_82 rfl (by decide) ?_
                refine r_iadd (pc' := 84) d221_83 rfl ?_
                refine r_istore (pc' := 86) (ls' := [(6, vI _), (0, vR (some 50)), (1, vI _), (2, vI _), (3, vI _), (4, vI _), (5, vI _), (7, vI _), (8, vI _)]) d221_84 rfl (by decide) rfl ?_
                refine r_iinc (v := _ + 1) (pc' := 89) (ls' := [(8, vI _), (6, vI _), (0, vR (some 50)), (1, vI _), (2, vI _), (3, vI _), (4, vI _), (5, vI _), (7, vI _)]) d221_86 rfl rfl rfl (by decide) rfl ?_
                refine r_goto 21 d221_89 rfl ?_
                refine wp_pick (ls' := [(0, vR (some 50)), (1, vI _), (2, vI _), (3, vI _), (4, vI _), (5, vI _), (6, vI _), (7, vI _), (8, vI _)]) [2, 3, 4, 5, 6, 7, 1, 8, 0] rfl ?_
                rw [nI_1]
                have w := ih (k + 1) (by omega)
                rw [wnN, if_neg (fun z => c75 z.2.2)] at w
                exact w
              · refine r_iconst (v := 1) (pc' := 79) d221_78 rfl (by decide) ?_
                refine r_goto 83 d221_79 rfl ?_
                refine r_iadd (pc' := 84) d221_83 rfl ?_
                refine r_istore (pc' := 86) (ls' := [(6, vI _), (0, vR (some 50)), (1, vI _), (2, vI _), (3, vI _), (4, vI _), (5, vI _), (7, vI _), (8, vI _)]) d221_84 rfl (by decide) rfl ?_
                refine r_iinc (v := _ + 1) (pc' := 89) (ls' := [(8, vI _), (6, vI _), (0, vR (some 50)), (1, vI _), (2, vI _), (3, vI _), (4, vI _), (5, vI _), (7, vI _)]) d221_86 rfl rfl rfl (by decide) rfl ?_
                refine r_goto 21 d221_89 rfl ?_
                refine wp_pick (ls' := [(0, vR (some 50)), (1, vI _), (2, vI _), (3, vI _), (4, vI _), (5, vI _), (6, vI _), (7, vI _), (8, vI _)]) [2, 3, 4, 5, 6, 7, 1, 8, 0] rfl ?_
                rw [nI_1]
                have w := ih (k + 1) (by omega)
                rw [wnN, if_pos ⟨c46, Int32.not_lt.mp c60, c75⟩] at w
                exact w
      exact loop1 (e - f) 0 (by omega)
  exact loop 5 0 rfl
