/-! the reference: a minute of all (printed by wip/whole/m38.py) -/
theorem mix0_v (g f : Nat → Int32) (k : Nat) {v : Int32} (hv : v = g k) : upd (mix g f 0 k) k v = mix g f 0 (k + 1) := by
  subst hv
  have w := mix_s g f 0 k
  rw [Nat.zero_add] at w
  exact w
def htsF (s : Nat → Int32) (m L t : Nat) : Int32 := if onI s t then heatI s m L (s (45 + t)) else 0
def thL (s : Nat → Int32) (Hf : Nat → Int32) : Nat → Nat → Int32
  | 0 => s
  | k + 1 => if goneI (thL s Hf k) k then thL s Hf k else gT (thL s Hf k) (Hf k) k
def cL (s : Nat → Int32) (snk : Bool) : Nat → Nat → Int32
  | 0 => s
  | k + 1 => upd (upd (cL s snk k) (37 + k) (leastI (cL s snk k (37 + k) - 1))) (29 + k) (if snk then leastI (upd (cL s snk k) (37 + k) (leastI (cL s snk k (37 + k) - 1)) (29 + k) - 1) else upd (cL s snk k) (37 + k) (leastI (cL s snk k (37 + k) - 1)) (29 + k))
def snkI (s : Nat → Int32) : Bool := decide ((s 19 + 1) - (s 19 + 1) / s 3 * s 3 = 0)
def gm (s : Nat → Int32) (m L : Nat) : Nat → Int32 := upd (cL (thL s (htsF s m L) m) (snkI (thL s (htsF s m L) m)) L) 19 (cL (thL s (htsF s m L) m) (snkI (thL s (htsF s m L) m)) L 19 + 1)
theorem gT_lo (s : Nat → Int32) (H : Int32) (t i : Nat) (hi0 : i < 51) : gT s H t i = s i := by
  unfold gT
  rw [upd_ne _ _ _ (by omega), upd_ne _ _ _ (by omega), upd_ne _ _ _ (by omega), upd_ne _ _ _ (by omega)]
theorem thL_lo (s Hf : Nat → Int32) (k i : Nat) (hi0 : i < 51) : thL s Hf k i = s i := by
  induction k with
  | zero => rfl
  | succ k ih =>
    unfold thL
    split
    · exact ih
    · rw [gT_lo _ _ _ _ hi0]; exact ih
theorem cL_out (s : Nat → Int32) (b : Bool) (k i : Nat) (h1 : ¬ (37 ≤ i ∧ i < 37 + k)) (h2 : ¬ (29 ≤ i ∧ i < 29 + k)) : cL s b k i = s i := by
  induction k with
  | zero => rfl
  | succ k ih =>
    unfold cL
    rw [upd_ne _ _ _ (by omega), upd_ne _ _ _ (by omega)]
    exact ih (by omega) (by omega)
theorem s_goMinute {d : Nat} {h : Hp} {Q : Option AV → Hp → Prop} {m L e : Nat} (hN : hn h = 65) (hM : RM h) (hc : Cnt (hi h 51) m L e) (hsk : ¬ hi h 51 3 = 0) (kk : ∀ x, Q none (setw (setw h 60 x) 51 (gm (hi h 51) m L))) : Spec (d + 3) 188 [vR (some 50)] h Q := by
  obtain ⟨hc1, hc2, hc3, hc4, hc5, hc6⟩ := id hc
  refine spec_intro (by decide +kernel) rfl (Nat.le_of_ble_eq_true rfl) ?_
  refine r_iconst (v := 0) (pc' := 1) d188_0 rfl (by decide) ?_
  refine r_istore_n (pc' := 2) (ls' := [(1, vI _), (0, vR (some 50))]) d188_1 rfl rfl (by decide) rfl ?_
  refine wp_pick (ls' := [(0, vR (some 50)), (1, vI _)]) [1, 0] rfl ?_
  have loop : ∀ (r k : Nat), k + r = m → wp (d + 3) 188 Q 0 0 2 [(0, vR (some 50)), (1, vI (nI k))] [] (setw h 60 (mix (htsF (hi h 51) m L) (hi h 60) 0 k)) := by
    intro r
    induction r with
    | zero =>
      intro k hk
      obtain rfl : k = m := by omega
      refine r_iload_n (pc' := 3) d188_2 rfl rfl rfl ?_
      refine r_aload_n (pc' := 4) d188_3 rfl rfl rfl ?_
      refine r_getS (pc' := 7) d188_4 rfl o188 sf12_7_12 sh50 (pl hN rfl) (rfm0 hM) ?_
      refine r_iconst (v := 1) (pc' := 8) d188_7 rfl (by decide) ?_
      refine r_ialdN (pc' := 9) (j := 1) d188_8 rfl sh51 (pl hN rfl) rfl (by omega) (by decide) ?_
      refine r_icmp_ge 49 (pc' := 12) d188_9 rfl rfl (fun c9 => ?_) (fun c9 => absurd (show hi h 51 1 ≤ nI k by rw [hc.1]; exact nI_le (Nat.le_refl _) (by omega)) c9)
      refine r_iconst (v := 0) (pc' := 50) d188_49 rfl (by decide) ?_
      refine r_istore_n (pc' := 51) (ls' := [(1, vI _), (0, vR (some 50))]) d188_50 rfl rfl (by decide) rfl ?_
      refine wp_pick (ls' := [(0, vR (some 50)), (1, vI _)]) [1, 0] rfl ?_
      generalize hHT : mix (htsF (hi h 51) k L) (hi h 60) 0 k = HT
      have hHT2 : ∀ j, j < k → HT j = htsF (hi h 51) k L j := fun j hj => by rw [← hHT]; exact mix_in _ _ (by omega)
      have loop2 : ∀ (r j : Nat), j + r = k → wp (d + 3) 188 Q 0 0 51 [(0, vR (some 50)), (1, vI (nI j))] [] (setw (setw h 60 HT) 51 (thL (hi h 51) (htsF (hi h 51) k L) j)) := by
        intro r
        induction r with
        | zero =>
          intro j hj
          obtain rfl : j = k := by omega
          refine r_iload_n (pc' := 52) d188_51 rfl rfl rfl ?_
          refine r_aload_n (pc' := 53) d188_52 rfl rfl rfl ?_
          refine r_getS (pc' := 56) d188_53 rfl o188 sf12_7_12 sh50 (pl hN rfl) (rfm0 hM) ?_
          refine r_iconst (v := 1) (pc' := 57) d188_56 rfl (by decide) ?_
          refine r_ialdN (pc' := 58) (j := 1) d188_57 rfl sh51 (pl hN rfl) rfl (by omega) (by decide) ?_
          refine r_icmp_ge 80 (pc' := 61) d188_58 rfl rfl (fun c58 => ?_) (fun c58 => absurd (show  thL (hi h 51) (htsF (hi h 51) j L) j 1 ≤ nI j by rw [thL_lo _ _ _ _ (by decide), hc.1]; exact nI_le (Nat.le_refl _) (by omega)) c58)
          refine r_aload_n (pc' := 81) d188_80 rfl rfl rfl ?_
          refine r_getS (pc' := 84) d188_81 rfl o188 sf12_7_12 sh50 (pl hN rfl) (rfm0 hM) ?_
          refine r_bipush (v := 19) (pc' := 86) d188_84 rfl (by decide) ?_
          refine r_ialdN (pc' := 87) (j := 19) d188_86 rfl sh51 (pl hN rfl) rfl (by omega) (by decide) ?_
          refine r_iconst (v := 1) (pc' := 88) d188_87 rfl (by decide) ?_
          refine r_iadd (pc' := 89) d188_88 rfl ?_
          refine r_aload_n (pc' := 90) d188_89 rfl rfl rfl ?_
          refine r_getS (pc' := 93) d188_90 rfl o188 sf12_7_12 sh50 (pl hN rfl) (rfm0 hM) ?_
          refine r_iconst (v := 3) (pc' := 94) d188_93 rfl (by decide) ?_
          refine r_ialdN (pc' := 95) (j := 3) d188_94 rfl sh51 (pl hN rfl) rfl (by omega) (by decide) ?_
          refine r_irem (pc' := 96) d188_95 rfl (show ¬ thL (hi h 51) (htsF (hi h 51) j L) j 3 = 0 by rw [thL_lo _ _ _ _ (by decide)]; exact hsk) ?_
          refine r_if_ne 103 (pc' := 99) d188_96 rfl rfl (fun c96 => ?_) (fun c96 => ?_)
          · refine r_iconst (v := 0) (pc' := 104) d188_103 rfl (by decide) ?_
            refine r_istore_n (pc' := 105) (ls' := [(1, vI _), (0, vR (some 50))]) d188_104 rfl rfl (by decide) rfl ?_
            refine r_iconst (v := 0) (pc' := 106) d188_105 rfl (by decide) ?_
            refine r_istore_n (pc' := 107) (ls' := [(2, vI _), (1, vI _), (0, vR (some 50))]) d188_106 rfl rfl (by decide) rfl ?_
            refine wp_pick (ls' := [(0, vR (some 50)), (1, vI _), (2, vI _)]) [2, 1, 0] rfl ?_
            have hsn : snkI (thL (hi h 51) (htsF (hi h 51) j L) j) = false := decide_eq_false c96
            have loop3 : ∀ (r q : Nat), q + r = L → wp (d + 3) 188 Q 0 0 107 [(0, vR (some 50)), (1, vI 0), (2, vI (nI q))] [] (setw (setw h 60 HT) 51 (cL (thL (hi h 51) (htsF (hi h 51) j L) j) false q)) := by
              intro r
              induction r with
              | zero =>
                intro q hq
                obtain rfl : q = L := by omega
                refine r_iload_n (pc' := 108) d188_107 rfl rfl rfl ?_
                refine r_aload_n (pc' := 109) d188_108 rfl rfl rfl ?_
                refine r_getS (pc' := 112) d188_109 rfl o188 sf12_7_12 sh50 (pl hN rfl) (rfm0 hM) ?_
                refine r_bipush (v := 20) (pc' := 114) d188_112 rfl (by decide) ?_
                refine r_ialdN (pc' := 115) (j := 20) d188_114 rfl sh51 (pl hN rfl) rfl (by omega) (by decide) ?_
                refine r_icmp_ge 186 (pc' := 118) d188_115 rfl rfl (fun c115 => ?_) (fun c115 => absurd (show  cL (thL (hi h 51) (htsF (hi h 51) j q) j) false q 20 ≤ nI q by rw [cL_out _ _ _ _ (by omega) (by omega), thL_lo _ _ _ _ (by decide), hc.2.2.1]; exact nI_le (Nat.le_refl _) (by omega)) c115)
                refine r_aload_n (pc' := 187) d188_186 rfl rfl rfl ?_
                refine r_getS (pc' := 190) d188_187 rfl o188 sf12_7_12 sh50 (pl hN rfl) (rfm0 hM) ?_
                refine r_bipush (v := 19) (pc' := 192) d188_190 rfl (by decide) ?_
                refine r_dup2 (pc' := 193) d188_192 rfl ?_
                refine r_ialdN (pc' := 194) (j := 19) d188_193 rfl sh51 (pl hN rfl) rfl (by omega) (by decide) ?_
                refine r_iconst (v := 1) (pc' := 195) d188_194 rfl (by decide) ?_
                refine r_iadd (pc' := 196) d188_195 rfl ?_
                refine r_iastN (pc' := 197) (j := 19) d188_196 rfl sh51 (pl hN rfl) rfl (by omega) (by decide) ?_
                exact r_ret d188_197 rfl (qh (by rw [seti_setw, gm, hsn]; rfl) (kk HT))
              | succ r ih =>
                intro q hq
                refine r_iload_n (pc' := 108) d188_107 rfl rfl rfl ?_
                refine r_aload_n (pc' := 109) d188_108 rfl rfl rfl ?_
                refine r_getS (pc' := 112) d188_109 rfl o188 sf12_7_12 sh50 (pl hN rfl) (rfm0 hM) ?_
                refine r_bipush (v := 20) (pc' := 114) d188_112 rfl (by decide) ?_
                refine r_ialdN (pc' := 115) (j := 20) d188_114 rfl sh51 (pl hN rfl) rfl (by omega) (by decide) ?_
                refine r_icmp_ge 186 (pc' := 118) d188_115 rfl rfl (fun c115 => absurd c115 (show ¬ cL (thL (hi h 51) (htsF (hi h 51) j L) j) false q 20 ≤ nI q by rw [cL_out _ _ _ _ (by omega) (by omega), thL_lo _ _ _ _ (by decide), hc.2.2.1]; exact nI_ge (by omega) (by omega))) (fun c115 => ?_)
                refine r_aload_n (pc' := 119) d188_118 rfl rfl rfl ?_
                refine r_getS (pc' := 122) d188_119 rfl o188 sf12_7_12 sh50 (pl hN rfl) (rfm0 hM) ?_
                refine r_bipush (v := 37) (pc' := 124) d188_122 rfl (by decide) ?_
                refine r_iload_n (pc' := 125) d188_124 rfl rfl rfl ?_
                refine r_iadd (pc' := 126) d188_125 rfl ?_
                refine r_aload_n (pc' := 127) d188_126 rfl rfl rfl ?_
                refine r_getS (pc' := 130) d188_127 rfl o188 sf12_7_12 sh50 (pl hN rfl) (rfm0 hM) ?_
                refine r_bipush (v := 37) (pc' := 132) d188_130 rfl (by decide) ?_
                refine r_iload_n (pc' := 133) d188_132 rfl rfl rfl ?_
                refine r_iadd (pc' := 134) d188_133 rfl ?_
                refine r_ialdN (pc' := 135) (j := (37 + q)) d188_134 rfl sh51 (pl hN rfl) (by simp only [lit, nI_add, pk_mul]) (by omega) (by decide) ?_
                refine r_iconst (v := 1) (pc' := 136) d188_135 rfl (by decide) ?_
                refine r_isub (pc' := 137) d188_136 rfl ?_
                refine r_call (pc' := 140) [vI _] [vI _, vR (some 51)] d188_137 rfl o188 st12_166 rcv0 rfl (by decide) ⟨rfl, rfl⟩ (Nat.le_of_ble_eq_true rfl) rfl (s_least ?_)
                refine r_iastN (pc' := 141) (j := (37 + q)) d188_140 rfl sh51 (pl hN rfl) (by simp only [lit, nI_add, pk_mul]) (by omega) (by decide) ?_
                refine r_aload_n (pc' := 142) d188_141 rfl rfl rfl ?_
                refine r_getS (pc' := 145) d188_142 rfl o188 sf12_7_12 sh50 (pl hN rfl) (rfm0 hM) ?_
                refine r_bipush (v := 29) (pc' := 147) d188_145 rfl (by decide) ?_
                refine r_iload_n (pc' := 148) d188_147 rfl rfl rfl ?_
                refine r_iadd (pc' := 149) d188_148 rfl ?_
                refine r_iload_n (pc' := 150) d188_149 rfl rfl rfl ?_
                refine r_if_eq 170 (pc' := 153) d188_150 rfl rfl (fun c150 => ?_) (fun c150 => absurd (by decide) c150)
                refine r_aload_n (pc' := 171) d188_170 rfl rfl rfl ?_
                refine r_getS (pc' := 174) d188_171 rfl o188 sf12_7_12 sh50 (pl hN rfl) (rfm0 hM) ?_
                refine r_bipush (v := 29) (pc' := 176) d188_174 rfl (by decide) ?_
                refine r_iload_n (pc' := 177) d188_176 rfl rfl rfl ?_
                refine r_iadd (pc' := 178) d188_177 rfl ?_
                refine r_ialdN (pc' := 179) (j := (29 + q)) d188_178 rfl sh51 (pl hN rfl) (by simp only [lit, nI_add, pk_mul]) (by omega) (by decide) ?_
                refine r_iastN (pc' := 180) (j := (29 + q)) d188_179 rfl sh51 (pl hN rfl) (by simp only [lit, nI_add, pk_mul]) (by omega) (by decide) ?_
                refine r_iinc (v := _ + 1) (pc' := 183) (ls' := [(2, vI _), (0, vR (some 50)), (1, vI _)]) d188_180 rfl rfl rfl (by decide) rfl ?_
                refine r_goto 107 d188_183 rfl ?_
                refine wp_pick (ls' := [(0, vR (some 50)), (1, vI _), (2, vI _)]) [1, 2, 0] rfl ?_
                refine wp_heap (h' := (setw (setw h 60 HT) 51 (cL (thL (hi h 51) (htsF (hi h 51) j L) j) false (q + 1)))) (by rw [seti_setw, seti_setw]; rfl) ?_
                rw [nI_1]
                exact ih (q + 1) (by omega)
            exact loop3 L 0 (by omega)
          · refine r_iconst (v := 1) (pc' := 100) d188_99 rfl (by decide) ?_
            refine r_goto 104 d188_100 rfl ?_
            refine r_istore_n (pc' := 105) (ls' := [(1, vI _), (0, vR (some 50))]) d188_104 rfl rfl (by decide) rfl ?_
            refine r_iconst (v := 0) (pc' := 106) d188_105 rfl (by decide) ?_
            refine r_istore_n (pc' := 107) (ls' := [(2, vI _), (1, vI _), (0, vR (some 50))]) d188_106 rfl rfl (by decide) rfl ?_
            refine wp_pick (ls' := [(0, vR (some 50)), (1, vI _), (2, vI _)]) [2, 1, 0] rfl ?_
            have hsn : snkI (thL (hi h 51) (htsF (hi h 51) j L) j) = true := decide_eq_true c96
            have loop3 : ∀ (r q : Nat), q + r = L → wp (d + 3) 188 Q 0 0 107 [(0, vR (some 50)), (1, vI 1), (2, vI (nI q))] [] (setw (setw h 60 HT) 51 (cL (thL (hi h 51) (htsF (hi h 51) j L) j) true q)) := by
              intro r
              induction r with
              | zero =>
                intro q hq
                obtain rfl : q = L := by omega
                refine r_iload_n (pc' := 108) d188_107 rfl rfl rfl ?_
                refine r_aload_n (pc' := 109) d188_108 rfl rfl rfl ?_
                refine r_getS (pc' := 112) d188_109 rfl o188 sf12_7_12 sh50 (pl hN rfl) (rfm0 hM) ?_
                refine r_bipush (v := 20) (pc' := 114) d188_112 rfl (by decide) ?_
                refine r_ialdN (pc' := 115) (j := 20) d188_114 rfl sh51 (pl hN rfl) rfl (by omega) (by decide) ?_
                refine r_icmp_ge 186 (pc' := 118) d188_115 rfl rfl (fun c115 => ?_) (fun c115 => absurd (show  cL (thL (hi h 51) (htsF (hi h 51) j q) j) true q 20 ≤ nI q by rw [cL_out _ _ _ _ (by omega) (by omega), thL_lo _ _ _ _ (by decide), hc.2.2.1]; exact nI_le (Nat.le_refl _) (by omega)) c115)
                refine r_aload_n (pc' := 187) d188_186 rfl rfl rfl ?_
                refine r_getS (pc' := 190) d188_187 rfl o188 sf12_7_12 sh50 (pl hN rfl) (rfm0 hM) ?_
                refine r_bipush (v := 19) (pc' := 192) d188_190 rfl (by decide) ?_
                refine r_dup2 (pc' := 193) d188_192 rfl ?_
                refine r_ialdN (pc' := 194) (j := 19) d188_193 rfl sh51 (pl hN rfl) rfl (by omega) (by decide) ?_
                refine r_iconst (v := 1) (pc' := 195) d188_194 rfl (by decide) ?_
                refine r_iadd (pc' := 196) d188_195 rfl ?_
                refine r_iastN (pc' := 197) (j := 19) d188_196 rfl sh51 (pl hN rfl) rfl (by omega) (by decide) ?_
                exact r_ret d188_197 rfl (qh (by rw [seti_setw, gm, hsn]; rfl) (kk HT))
              | succ r ih =>
                intro q hq
                refine r_iload_n (pc' := 108) d188_107 rfl rfl rfl ?_
                refine r_aload_n (pc' := 109) d188_108 rfl rfl rfl ?_
                refine r_getS (pc' := 112) d188_109 rfl o188 sf12_7_12 sh50 (pl hN rfl) (rfm0 hM) ?_
                refine r_bipush (v := 20) (pc' := 114) d188_112 rfl (by decide) ?_
                refine r_ialdN (pc' := 115) (j := 20) d188_114 rfl sh51 (pl hN rfl) rfl (by omega) (by decide) ?_
                refine r_icmp_ge 186 (pc' := 118) d188_115 rfl rfl (fun c115 => absurd c115 (show ¬ cL (thL (hi h 51) (htsF (hi h 51) j L) j) true q 20 ≤ nI q by rw [cL_out _ _ _ _ (by omega) (by omega), thL_lo _ _ _ _ (by decide), hc.2.2.1]; exact nI_ge (by omega) (by omega))) (fun c115 => ?_)
                refine r_aload_n (pc' := 119) d188_118 rfl rfl rfl ?_
                refine r_getS (pc' := 122) d188_119 rfl o188 sf12_7_12 sh50 (pl hN rfl) (rfm0 hM) ?_
                refine r_bipush (v := 37) (pc' := 124) d188_122 rfl (by decide) ?_
                refine r_iload_n (pc' := 125) d188_124 rfl rfl rfl ?_
                refine r_iadd (pc' := 126) d188_125 rfl ?_
                refine r_aload_n (pc' := 127) d188_126 rfl rfl rfl ?_
                refine r_getS (pc' := 130) d188_127 rfl o188 sf12_7_12 sh50 (pl hN rfl) (rfm0 hM) ?_
                refine r_bipush (v := 37) (pc' := 132) d188_130 rfl (by decide) ?_
                refine r_iload_n (pc' := 133) d188_132 rfl rfl rfl ?_
                refine r_iadd (pc' := 134) d188_133 rfl ?_
                refine r_ialdN (pc' := 135) (j := (37 + q)) d188_134 rfl sh51 (pl hN rfl) (by simp only [lit, nI_add, pk_mul]) (by omega) (by decide) ?_
                refine r_iconst (v := 1) (pc' := 136) d188_135 rfl (by decide) ?_
                refine r_isub (pc' := 137) d188_136 rfl ?_
                refine r_call (pc' := 140) [vI _] [vI _, vR (some 51)] d188_137 rfl o188 st12_166 rcv0 rfl (by decide) ⟨rfl, rfl⟩ (Nat.le_of_ble_eq_true rfl) rfl (s_least ?_)
                refine r_iastN (pc' := 141) (j := (37 + q)) d188_140 rfl sh51 (pl hN rfl) (by simp only [lit, nI_add, pk_mul]) (by omega) (by decide) ?_
                refine r_aload_n (pc' := 142) d188_141 rfl rfl rfl ?_
                refine r_getS (pc' := 145) d188_142 rfl o188 sf12_7_12 sh50 (pl hN rfl) (rfm0 hM) ?_
                refine r_bipush (v := 29) (pc' := 147) d188_145 rfl (by decide) ?_
                refine r_iload_n (pc' := 148) d188_147 rfl rfl rfl ?_
                refine r_iadd (pc' := 149) d188_148 rfl ?_
                refine r_iload_n (pc' := 150) d188_149 rfl rfl rfl ?_
                refine r_if_eq 170 (pc' := 153) d188_150 rfl rfl (fun c150 => absurd c150 (by decide)) (fun c150 => ?_)
                refine r_aload_n (pc' := 154) d188_153 rfl rfl rfl ?_
                refine r_getS (pc' := 157) d188_154 rfl o188 sf12_7_12 sh50 (pl hN rfl) (rfm0 hM) ?_
                refine r_bipush (v := 29) (pc' := 159) d188_157 rfl (by decide) ?_
                refine r_iload_n (pc' := 160) d188_159 rfl rfl rfl ?_
                refine r_iadd (pc' := 161) d188_160 rfl ?_
                refine r_ialdN (pc' := 162) (j := (29 + q)) d188_161 rfl sh51 (pl hN rfl) (by simp only [lit, nI_add, pk_mul]) (by omega) (by decide) ?_
                refine r_iconst (v := 1) (pc' := 163) d188_162 rfl (by decide) ?_
                refine r_isub (pc' := 164) d188_163 rfl ?_
                refine r_call (pc' := 167) [vI _] [vI _, vR (some 51)] d188_164 rfl o188 st12_166 rcv0 rfl (by decide) ⟨rfl, rfl⟩ (Nat.le_of_ble_eq_true rfl) rfl (s_least ?_)
                refine r_goto 179 d188_167 rfl ?_
                refine r_iastN (pc' := 180) (j := (29 + q)) d188_179 rfl sh51 (pl hN rfl) (by simp only [lit, nI_add, pk_mul]) (by omega) (by decide) ?_
                refine r_iinc (v := _ + 1) (pc' := 183) (ls' := [(2, vI _), (0, vR (some 50)), (1, vI _)]) d188_180 rfl rfl rfl (by decide) rfl ?_
                refine r_goto 107 d188_183 rfl ?_
                refine wp_pick (ls' := [(0, vR (some 50)), (1, vI _), (2, vI _)]) [1, 2, 0] rfl ?_
                refine wp_heap (h' := (setw (setw h 60 HT) 51 (cL (thL (hi h 51) (htsF (hi h 51) j L) j) true (q + 1)))) (by rw [seti_setw, seti_setw]; rfl) ?_
                rw [nI_1]
                exact ih (q + 1) (by omega)
            exact loop3 L 0 (by omega)
        | succ r ih =>
          intro j hj
          refine r_iload_n (pc' := 52) d188_51 rfl rfl rfl ?_
          refine r_aload_n (pc' := 53) d188_52 rfl rfl rfl ?_
          refine r_getS (pc' := 56) d188_53 rfl o188 sf12_7_12 sh50 (pl hN rfl) (rfm0 hM) ?_
          refine r_iconst (v := 1) (pc' := 57) d188_56 rfl (by decide) ?_
          refine r_ialdN (pc' := 58) (j := 1) d188_57 rfl sh51 (pl hN rfl) rfl (by omega) (by decide) ?_
          refine r_icmp_ge 80 (pc' := 61) d188_58 rfl rfl (fun c58 => absurd c58 (show ¬ thL (hi h 51) (htsF (hi h 51) k L) j 1 ≤ nI j by rw [thL_lo _ _ _ _ (by decide), hc.1]; exact nI_ge (by omega) (by omega))) (fun c58 => ?_)
          refine r_aload_n (pc' := 62) d188_61 rfl rfl rfl ?_
          refine r_iload_n (pc' := 63) d188_62 rfl rfl rfl ?_
          refine r_call (pc' := 66) [vR (some 50), vI _] [] d188_63 rfl o188 st12_178_12 (rcv1 sh50 (pl hN rfl)) rfl (by decide) ⟨rfl, rfl⟩ (Nat.le_of_ble_eq_true rfl) rfl (s_isGone hN hM (by omega) ?_)
          refine r_if_neB 74 (pc' := 69) d188_66 rfl rfl (fun c66 => ?_) (fun c66 => ?_)
          · refine r_iinc (v := _ + 1) (pc' := 77) (ls' := [(1, vI _), (0, vR (some 50))]) d188_74 rfl rfl rfl (by decide) rfl ?_
            refine r_goto 51 d188_77 rfl ?_
            refine wp_pick (ls' := [(0, vR (some 50)), (1, vI _)]) [1, 0] rfl ?_
            refine wp_heap (h' := (setw (setw h 60 HT) 51 (thL (hi h 51) (htsF (hi h 51) k L) (j + 1)))) (congrArg (setw _ 51) (by rw [thL]; exact (if_pos c66).symm)) ?_
            rw [nI_1]
            exact ih (j + 1) (by omega)
          · refine r_aload_n (pc' := 70) d188_69 rfl rfl rfl ?_
            refine r_iload_n (pc' := 71) d188_70 rfl rfl rfl ?_
            refine r_call (pc' := 74) [vR (some 50), vI _] [] d188_71 rfl o188 st12_181_12 (rcv1 sh50 (pl hN rfl)) rfl (by decide) ⟨rfl, rfl⟩ (Nat.le_of_ble_eq_true rfl) rfl (s_goThing hN hM (by omega) ?_)
            refine r_iinc (v := _ + 1) (pc' := 77) (ls' := [(1, vI _), (0, vR (some 50))]) d188_74 rfl rfl rfl (by decide) rfl ?_
            refine r_goto 51 d188_77 rfl ?_
            refine wp_pick (ls' := [(0, vR (some 50)), (1, vI _)]) [1, 0] rfl ?_
            refine wp_heap (h' := (setw (setw h 60 HT) 51 (thL (hi h 51) (htsF (hi h 51) k L) (j + 1)))) ((setw_w _ _ _ _).trans (congrArg (setw _ 51) (by rw [thL, ← hHT2 j (by omega)]; exact (if_neg c66).symm))) ?_
            rw [nI_1]
            exact ih (j + 1) (by omega)
      refine wp_heap (h' := (setw (setw h 60 HT) 51 (thL (hi h 51) (htsF (hi h 51) k L) 0))) (setw_self (setw h 60 HT) 51).symm ?_
      exact loop2 k 0 (by omega)
    | succ r ih =>
      intro k hk
      refine r_iload_n (pc' := 3) d188_2 rfl rfl rfl ?_
      refine r_aload_n (pc' := 4) d188_3 rfl rfl rfl ?_
      refine r_getS (pc' := 7) d188_4 rfl o188 sf12_7_12 sh50 (pl hN rfl) (rfm0 hM) ?_
      refine r_iconst (v := 1) (pc' := 8) d188_7 rfl (by decide) ?_
      refine r_ialdN (pc' := 9) (j := 1) d188_8 rfl sh51 (pl hN rfl) rfl (by omega) (by decide) ?_
      refine r_icmp_ge 49 (pc' := 12) d188_9 rfl rfl (fun c9 => absurd c9 (show ¬ hi h 51 1 ≤ nI k by rw [hc.1]; exact nI_ge (by omega) (by omega))) (fun c9 => ?_)
      refine r_aload_n (pc' := 13) d188_12 rfl rfl rfl ?_
      refine r_getS (pc' := 16) d188_13 rfl o188 sf12_38_12 sh50 (pl hN rfl) (rfm18 hM) ?_
      refine r_iload_n (pc' := 17) d188_16 rfl rfl rfl ?_
      refine r_aload_n (pc' := 18) d188_17 rfl rfl rfl ?_
      refine r_iload_n (pc' := 19) d188_18 rfl rfl rfl ?_
      refine r_call (pc' := 22) [vR (some 50), vI _] [vI _, vR (some 60)] d188_19 rfl o188 st12_163_12 (rcv1 sh50 (pl hN rfl)) rfl (by decide) ⟨rfl, rfl⟩ (Nat.le_of_ble_eq_true rfl) rfl (s_isOn hN hM (by omega) ?_)
      refine r_if_eqB 41 (pc' := 25) d188_22 rfl rfl (fun c22 => ?_) (fun c22 => ?_)
      · refine r_iconst (v := 0) (pc' := 42) d188_41 rfl (by decide) ?_
        refine r_iastN (pc' := 43) (j := k) d188_42 rfl sh60 (pl hN rfl) rfl (by omega) (by decide) ?_
        refine r_iinc (v := _ + 1) (pc' := 46) (ls' := [(1, vI _), (0, vR (some 50))]) d188_43 rfl rfl rfl (by decide) rfl ?_
        refine r_goto 2 d188_46 rfl ?_
        refine wp_pick (ls' := [(0, vR (some 50)), (1, vI _)]) [1, 0] rfl ?_
        refine wp_heap (h' := (setw h 60 (mix (htsF (hi h 51) m L) (hi h 60) 0 (k + 1)))) ((seti_setw _ _ _ _ _).trans (congrArg (setw _ _) (mix0_v (htsF (hi h 51) m L) (hi h 60) k (if_neg c22).symm))) ?_
        rw [nI_1]
        exact ih (k + 1) (by omega)
      · refine r_aload_n (pc' := 26) d188_25 rfl rfl rfl ?_
        refine r_aload_n (pc' := 27) d188_26 rfl rfl rfl ?_
        refine r_getS (pc' := 30) d188_27 rfl o188 sf12_7_12 sh50 (pl hN rfl) (rfm0 hM) ?_
        refine r_bipush (v := 45) (pc' := 32) d188_30 rfl (by decide) ?_
        refine r_iload_n (pc' := 33) d188_32 rfl rfl rfl ?_
        refine r_iadd (pc' := 34) d188_33 rfl ?_
        refine r_ialdN (pc' := 35) (j := (45 + k)) d188_34 rfl sh51 (pl hN rfl) (by simp only [lit, nI_add, pk_mul]) (by omega) (by decide) ?_
        refine r_call (pc' := 38) [vR (some 50), vI _] [vI _, vR (some 60)] d188_35 rfl o188 st12_175_12 (rcv1 sh50 (pl hN rfl)) rfl (by decide) ⟨rfl, rfl⟩ (Nat.le_of_ble_eq_true rfl) rfl (s_heatOf hN hM hc ?_)
        refine r_goto 42 d188_38 rfl ?_
        refine r_iastN (pc' := 43) (j := k) d188_42 rfl sh60 (pl hN rfl) rfl (by omega) (by decide) ?_
        refine r_iinc (v := _ + 1) (pc' := 46) (ls' := [(1, vI _), (0, vR (some 50))]) d188_43 rfl rfl rfl (by decide) rfl ?_
        refine r_goto 2 d188_46 rfl ?_
        refine wp_pick (ls' := [(0, vR (some 50)), (1, vI _)]) [1, 0] rfl ?_
        refine wp_heap (h' := (setw h 60 (mix (htsF (hi h 51) m L) (hi h 60) 0 (k + 1)))) ((seti_setw _ _ _ _ _).trans (congrArg (setw _ _) (mix0_v (htsF (hi h 51) m L) (hi h 60) k (if_pos c22).symm))) ?_
        rw [nI_1]
        exact ih (k + 1) (by omega)
  refine wp_heap (h' := (setw h 60 (mix (htsF (hi h 51) m L) (hi h 60) 0 0))) (by rw [mix_0]; exact (setw_self _ 60).symm) ?_
  exact loop m 0 (by omega)
