/-! copy of the reference; the class's rows (printed by wip/whole/m34.py) -/
theorem sub2 {m k : Nat} (hk : k < m) : nI m - 1 - nI k = nI (m - 1 - k) := by
  rw [show (1 : Int32) = nI 1 from rfl, pk_sub (by omega), pk_sub (by omega)]
def cpD (f : Nat → Int32) (sp dp n k : Nat) : Nat → Int32 := fun x => if dp + (n - k) ≤ x ∧ x < dp + n then f (sp + (x - dp)) else f x
theorem cpU_0 (f : Nat → Int32) (sp dp : Nat) : va_cpy f f sp dp 0 = f := by
  funext x; unfold va_cpy; rw [if_neg (by omega)]
theorem cpD_0 (f : Nat → Int32) (sp dp n : Nat) : cpD f sp dp n 0 = f := by
  funext x; unfold cpD; rw [if_neg (by omega)]
theorem cpD_n (f : Nat → Int32) (sp dp n : Nat) : cpD f sp dp n n = va_cpy f f sp dp n := by
  funext x; unfold cpD va_cpy; rw [Nat.sub_self, Nat.add_zero]
theorem cpU_s (f : Nat → Int32) (sp dp k : Nat) (hd : ¬ (dp ≤ sp + k ∧ sp + k < dp + k)) : upd (va_cpy f f sp dp k) (dp + k) (va_cpy f f sp dp k (sp + k)) = va_cpy f f sp dp (k + 1) := by
  funext x
  unfold upd
  by_cases hx : x = dp + k
  · subst hx
    rw [if_pos rfl]
    unfold va_cpy
    rw [if_neg hd, if_pos (by omega), show dp + k - dp = k by omega]
  · rw [if_neg hx]
    unfold va_cpy
    by_cases h2 : dp ≤ x ∧ x < dp + k
    · rw [if_pos h2, if_pos (by omega)]
    · rw [if_neg h2, if_neg (by omega)]
theorem cpD_s (f : Nat → Int32) (sp dp n k : Nat) (hk : k < n) (hd : ¬ (dp + (n - k) ≤ sp + (n - 1 - k) ∧ sp + (n - 1 - k) < dp + n)) : upd (cpD f sp dp n k) (dp + (n - 1 - k)) (cpD f sp dp n k (sp + (n - 1 - k))) = cpD f sp dp n (k + 1) := by
  funext x
  unfold upd
  by_cases hx : x = dp + (n - 1 - k)
  · subst hx
    rw [if_pos rfl]
    unfold cpD
    rw [if_neg hd, if_pos (by omega), show dp + (n - 1 - k) - dp = n - 1 - k by omega]
  · rw [if_neg hx]
    unfold cpD
    by_cases h2 : dp + (n - k) ≤ x ∧ x < dp + n
    · rw [if_pos h2, if_pos (by omega)]
    · rw [if_neg h2, if_neg (by omega)]
theorem M_copy {d : Nat} {h : Hp} {Q : Option AV → Hp → Prop} {a i b j n : Int32} (hN : hn h = 65) (hM : RM h) (hS : ∀ j, j < 8 → ∃ z : Nat, z ≤ 40 ∧ hi h 56 j = nI z) (kB : (¬ (0 ≤ a ∧ a ≤ 7) ∨ ¬ (0 ≤ b ∧ b ≤ 7)) → Q (some (vI (-1000001))) h)
    (kN : ∀ x y : Nat, x < 8 → y < 8 → a = nI x → b = nI y →  (hi h 55 x = -1000000 ∨ hi h 55 y = -1000000) → Q (some (vI (-1000011))) (seti h 50 8 1))
    (kT : ∀ x y : Nat, x < 8 → y < 8 → a = nI x → b = nI y →  ¬ hi h 55 x = -1000000 → ¬ hi h 55 y = -1000000 → ¬ hi h 55 x = hi h 55 y → Q (some (vI (-1000015))) (seti h 50 8 5))
    (kP : ∀ x y : Nat, x < 8 → y < 8 → a = nI x → b = nI y →  ¬ hi h 55 x = -1000000 → ¬ hi h 55 y = -1000000 → hi h 55 x = hi h 55 y → (¬ (0 ≤ i ∧ 0 ≤ n ∧ i.toInt + n.toInt ≤ (hi h 56 x).toInt) ∨ ¬ (0 ≤ j ∧ 0 ≤ n ∧ j.toInt + n.toInt ≤ (hi h 56 y).toInt)) → Q (some (vI (-1000012))) (seti h 50 8 2))
    (kW : ∀ x y : Nat, x < 8 → y < 8 → a = nI x → b = nI y →  ¬ hi h 55 x = -1000000 → ¬ hi h 55 y = -1000000 → hi h 55 x = hi h 55 y → ∀ p q m : Nat, p + m ≤ 40 → q + m ≤ 40 → i = nI p → j = nI q → n = nI m → (0 ≤ i ∧ 0 ≤ n ∧ i.toInt + n.toInt ≤ (hi h 56 x).toInt) → (0 ≤ j ∧ 0 ≤ n ∧ j.toInt + n.toInt ≤ (hi h 56 y).toInt) → Q (some (vI n)) (seti (setw h 57 (va_cpy (hi h 57) (hi h 57) (40 * x + p) (40 * y + q) m)) 50 8 0)) : Spec (d + 2) 154 [vR (some 50), vI a, vI i, vI b, vI j, vI n] h Q := by
  refine spec_intro (by decide +kernel) rfl (Nat.le_of_ble_eq_true rfl) ?_
  refine r_iload_n (pc' := 1) d154_0 rfl rfl rfl ?_
  refine r_call (pc' := 4) [vI _] [] d154_1 rfl o154 st12_63 rcv0 rfl (by decide) ⟨rfl, rfl⟩ (Nat.le_of_ble_eq_true rfl) rfl (s_isRow ?_)
  refine r_if_eqB 14 (pc' := 7) d154_4 rfl rfl (fun c4 => ?_) (fun c4 => ?_)
  · refine r_ldc (pc' := 16) d154_14 rfl o154 kc12_67 ?_
    exact r_iretI d154_16 rfl (kB (by first | exact Or.inl c4 | exact Or.inr c11))
  · refine r_iload_n (pc' := 8) d154_7 rfl rfl rfl ?_
    refine r_call (pc' := 11) [vI _] [] d154_8 rfl o154 st12_63 rcv0 rfl (by decide) ⟨rfl, rfl⟩ (Nat.le_of_ble_eq_true rfl) rfl (s_isRow ?_)
    refine r_if_neB 17 (pc' := 14) d154_11 rfl rfl (fun c11 => ?_) (fun c11 => ?_)
    · obtain ⟨x, hx, rfl⟩ := nat_of (n := 7) c4.1 c4.2 (by decide)
      obtain ⟨y, hy, rfl⟩ := nat_of (n := 7) c11.1 c11.2 (by decide)
      refine r_aload_n (pc' := 18) d154_17 rfl rfl rfl ?_
      refine r_getS (pc' := 21) d154_18 rfl o154 sf12_23_12 sh50 (pl hN rfl) (rfm5 hM) ?_
      refine r_iload_n (pc' := 22) d154_21 rfl rfl rfl ?_
      refine r_ialdN (pc' := 23) (j := x) d154_22 rfl sh55 (pl hN rfl) rfl (by omega) (by decide) ?_
      refine r_ldc (pc' := 25) d154_23 rfl o154 kc12_53 ?_
      refine r_icmp_eq 39 (pc' := 28) d154_25 rfl rfl (fun c25 => ?_) (fun c25 => ?_)
      · refine r_aload_n (pc' := 40) d154_39 rfl rfl rfl ?_
        refine r_iconst (v := 1) (pc' := 41) d154_40 rfl (by decide) ?_
        refine r_call (pc' := 44) [vR (some 50), vI _] [] d154_41 rfl o154 st12_68_12 (rcv1 sh50 (pl hN rfl)) rfl (by decide) ⟨rfl, rfl⟩ (Nat.le_of_ble_eq_true rfl) rfl (s_found hN ?_)
        exact r_iretI d154_44 rfl (qv (by decide) (kN x y (by omega) (by omega) rfl rfl (by first | exact Or.inl c25 | exact Or.inr c36)))
      · refine r_aload_n (pc' := 29) d154_28 rfl rfl rfl ?_
        refine r_getS (pc' := 32) d154_29 rfl o154 sf12_23_12 sh50 (pl hN rfl) (rfm5 hM) ?_
        refine r_iload_n (pc' := 33) d154_32 rfl rfl rfl ?_
        refine r_ialdN (pc' := 34) (j := y) d154_33 rfl sh55 (pl hN rfl) rfl (by omega) (by decide) ?_
        refine r_ldc (pc' := 36) d154_34 rfl o154 kc12_53 ?_
        refine r_icmp_ne 45 (pc' := 39) d154_36 rfl rfl (fun c36 => ?_) (fun c36 => ?_)
        · refine r_aload_n (pc' := 46) d154_45 rfl rfl rfl ?_
          refine r_getS (pc' := 49) d154_46 rfl o154 sf12_23_12 sh50 (pl hN rfl) (rfm5 hM) ?_
          refine r_iload_n (pc' := 50) d154_49 rfl rfl rfl ?_
          refine r_ialdN (pc' := 51) (j := x) d154_50 rfl sh55 (pl hN rfl) rfl (by omega) (by decide) ?_
          refine r_aload_n (pc' := 52) d154_51 rfl rfl rfl ?_
          refine r_getS (pc' := 55) d154_52 rfl o154 sf12_23_12 sh50 (pl hN rfl) (rfm5 hM) ?_
          refine r_iload_n (pc' := 56) d154_55 rfl rfl rfl ?_
          refine r_ialdN (pc' := 57) (j := y) d154_56 rfl sh55 (pl hN rfl) rfl (by omega) (by decide) ?_
          refine r_icmp_eq 66 (pc' := 60) d154_57 rfl rfl (fun c57 => ?_) (fun c57 => ?_)
          · refine r_aload_n (pc' := 67) d154_66 rfl rfl rfl ?_
            refine r_iload_n (pc' := 68) d154_67 rfl rfl rfl ?_
            refine r_iload_n (pc' := 69) d154_68 rfl rfl rfl ?_
            refine r_iload (pc' := 71) d154_69 rfl rfl ?_
            refine r_call (pc' := 74) [vR (some 50), vI _, vI _, vI _] [] d154_71 rfl o154 st12_75_12 (rcv1 sh50 (pl hN rfl)) rfl (by decide) ⟨rfl, rfl⟩ (Nat.le_of_ble_eq_true rfl) rfl (s_isSpan hN hM (by omega) ?_)
            refine r_if_eqB 89 (pc' := 77) d154_74 rfl rfl (fun c74 => ?_) (fun c74 => ?_)
            · refine r_aload_n (pc' := 90) d154_89 rfl rfl rfl ?_
              refine r_iconst (v := 2) (pc' := 91) d154_90 rfl (by decide) ?_
              refine r_call (pc' := 94) [vR (some 50), vI _] [] d154_91 rfl o154 st12_68_12 (rcv1 sh50 (pl hN rfl)) rfl (by decide) ⟨rfl, rfl⟩ (Nat.le_of_ble_eq_true rfl) rfl (s_found hN ?_)
              exact r_iretI d154_94 rfl (qv (by decide) (kP x y (by omega) (by omega) rfl rfl c25 c36 c57 (by first | exact Or.inl c74 | exact Or.inr c86)))
            · refine r_aload_n (pc' := 78) d154_77 rfl rfl rfl ?_
              refine r_iload_n (pc' := 79) d154_78 rfl rfl rfl ?_
              refine r_iload (pc' := 81) d154_79 rfl rfl ?_
              refine r_iload (pc' := 83) d154_81 rfl rfl ?_
              refine r_call (pc' := 86) [vR (some 50), vI _, vI _, vI _] [] d154_83 rfl o154 st12_75_12 (rcv1 sh50 (pl hN rfl)) rfl (by decide) ⟨rfl, rfl⟩ (Nat.le_of_ble_eq_true rfl) rfl (s_isSpan hN hM (by omega) ?_)
              refine r_if_neB 95 (pc' := 89) d154_86 rfl rfl (fun c86 => ?_) (fun c86 => ?_)
              · obtain ⟨z, hz, ez⟩ := hS x (by omega)
                obtain ⟨z2, hz2, ez2⟩ := hS y (by omega)
                obtain ⟨p, hp31, rfl⟩ := nI_of (Int32.not_lt.mpr c74.1)
                obtain ⟨m, hm31, rfl⟩ := nI_of (Int32.not_lt.mpr c74.2.1)
                obtain ⟨q, hq31, rfl⟩ := nI_of (Int32.not_lt.mpr c86.1)
                have hpm : p + m ≤ z := by have := c74.2.2; rw [ez, nI_toInt hp31, nI_toInt hm31, nI_toInt (by omega)] at this; omega
                have hqm : q + m ≤ z2 := by have := c86.2.2; rw [ez2, nI_toInt hq31, nI_toInt hm31, nI_toInt (by omega)] at this; omega
                refine r_iconst (v := 0) (pc' := 96) d154_95 rfl (by decide) ?_
                refine r_istore (pc' := 98) (ls' := [(6, vI _), (0, vR (some 50)), (1, vI _), (2, vI _), (3, vI _), (4, vI _), (5, vI _)]) d154_96 rfl (by decide) rfl ?_
                refine wp_pick (ls' := [(0, vR (some 50)), (1, vI _), (2, vI _), (3, vI _), (4, vI _), (5, vI _), (6, vI _)]) [1, 2, 3, 4, 5, 6, 0] rfl ?_
                by_cases hpq : q < p
                · have loopU : ∀ (r k : Nat), k + r = m → wp (d + 2) 154 Q 0 0 98 [(0, vR (some 50)), (1, vI (nI x)), (2, vI (nI p)), (3, vI (nI y)), (4, vI (nI q)), (5, vI (nI m)), (6, vI (nI k))] [] (setw h 57 (va_cpy (hi h 57) (hi h 57) (40 * x + p) (40 * y + q) (k))) := by
                    intro r
                    induction r with
                    | zero =>
                      intro k hk
                      obtain rfl : k = m := by omega
                      refine r_iload (pc' := 100) d154_98 rfl rfl ?_
                      refine r_iload (pc' := 102) d154_100 rfl rfl ?_
                      refine r_icmp_ge 160 (pc' := 105) d154_102 rfl rfl (fun c102 => ?_) (fun c102 => absurd (nI_le (Nat.le_refl _) (by omega)) c102)
                      refine r_aload_n (pc' := 161) d154_160 rfl rfl rfl ?_
                      refine r_iload (pc' := 163) d154_161 rfl rfl ?_
                      refine r_call (pc' := 166) [vR (some 50), vI _] [] d154_163 rfl o154 st12_72_12 (rcv1 sh50 (pl hN rfl)) rfl (by decide) ⟨rfl, rfl⟩ (Nat.le_of_ble_eq_true rfl) rfl (s_well hN ?_)
                      exact r_iretI d154_166 rfl (kW x y (by omega) (by omega) rfl rfl c25 c36 c57 p q _ (by omega) (by omega) rfl rfl rfl c74 c86)
                    | succ r ih =>
                      intro k hk
                      refine r_iload (pc' := 100) d154_98 rfl rfl ?_
                      refine r_iload (pc' := 102) d154_100 rfl rfl ?_
                      refine r_icmp_ge 160 (pc' := 105) d154_102 rfl rfl (fun c102 => absurd c102 (nI_ge (by omega) (by omega))) (fun c102 => ?_)
                      refine r_iload_n (pc' := 106) d154_105 rfl rfl rfl ?_
                      refine r_iload (pc' := 108) d154_106 rfl rfl ?_
                      refine r_icmp_le 116 (pc' := 111) d154_108 rfl rfl (fun c108 => absurd c108 (nI_ge hpq (by omega))) (fun c108 => ?_)
                      refine r_iload (pc' := 113) d154_111 rfl rfl ?_
                      refine r_goto 123 d154_113 rfl ?_
                      refine r_istore (pc' := 125) (ls' := [(7, vI _), (0, vR (some 50)), (1, vI _), (2, vI _), (3, vI _), (4, vI _), (5, vI _), (6, vI _)]) d154_123 rfl (by decide) rfl ?_
                      refine r_aload_n (pc' := 126) d154_125 rfl rfl rfl ?_
                      refine r_getS (pc' := 129) d154_126 rfl o154 sf12_29_12 sh50 (pl hN rfl) (rfm7 hM) ?_
                      refine r_bipush (v := 40) (pc' := 131) d154_129 rfl (by decide) ?_
                      refine r_iload_n (pc' := 132) d154_131 rfl rfl rfl ?_
                      refine r_imul (pc' := 133) d154_132 rfl ?_
                      refine r_iload (pc' := 135) d154_133 rfl rfl ?_
                      refine r_iadd (pc' := 136) d154_135 rfl ?_
                      refine r_iload (pc' := 138) d154_136 rfl rfl ?_
                      refine r_iadd (pc' := 139) d154_138 rfl ?_
                      refine r_aload_n (pc' := 140) d154_139 rfl rfl rfl ?_
                      refine r_getS (pc' := 143) d154_140 rfl o154 sf12_29_12 sh50 (pl hN rfl) (rfm7 hM) ?_
                      refine r_bipush (v := 40) (pc' := 145) d154_143 rfl (by decide) ?_
                      refine r_iload_n (pc' := 146) d154_145 rfl rfl rfl ?_
                      refine r_imul (pc' := 147) d154_146 rfl ?_
                      refine r_iload_n (pc' := 148) d154_147 rfl rfl rfl ?_
                      refine r_iadd (pc' := 149) d154_148 rfl ?_
                      refine r_iload (pc' := 151) d154_149 rfl rfl ?_
                      refine r_iadd (pc' := 152) d154_151 rfl ?_
                      refine r_ialdN (pc' := 153) (j := (((40 * x) + p) + k)) d154_152 rfl sh57 (pl hN rfl) (by simp only [lit, nI_add, pk_mul]) (by omega) (by decide) ?_
                      refine r_iastN (pc' := 154) (j := (((40 * y) + q) + k)) d154_153 rfl sh57 (pl hN rfl) (by simp only [lit, nI_add, pk_mul]) (by omega) (by decide) ?_
                      refine r_iinc (v := _ + 1) (pc' := 157) (ls' := [(6, vI _), (7, vI _), (0, vR (some 50)), (1, vI _), (2, vI _), (3, vI _), (4, vI _), (5, vI _)]) d154_154 rfl rfl rfl (by decide) rfl ?_
                      refine r_goto 98 d154_157 rfl ?_
                      refine wp_pick (ls' := [(0, vR (some 50)), (1, vI _), (2, vI _), (3, vI _), (4, vI _), (5, vI _), (6, vI _)]) [2, 3, 4, 5, 6, 7, 0] rfl ?_
                      refine wp_heap (h' := setw h 57 (va_cpy (hi h 57) (hi h 57) (40 * x + p) (40 * y + q) (k + 1))) ((seti_setw _ _ _ _ _).trans (congrArg (setw _ _) (cpU_s (hi h 57) (40 * x + p) (40 * y + q) k (by omega)))) ?_
                      rw [nI_1]
                      exact ih (k + 1) (by omega)
                  refine wp_heap (h' := setw h 57 (va_cpy (hi h 57) (hi h 57) (40 * x + p) (40 * y + q) (0))) (by rw [cpU_0]; exact (setw_self _ 57).symm) ?_
                  exact loopU m 0 (by omega)
                · have loopD : ∀ (r k : Nat), k + r = m → wp (d + 2) 154 Q 0 0 98 [(0, vR (some 50)), (1, vI (nI x)), (2, vI (nI p)), (3, vI (nI y)), (4, vI (nI q)), (5, vI (nI m)), (6, vI (nI k))] [] (setw h 57 (cpD (hi h 57) (40 * x + p) (40 * y + q) m (k))) := by
                    intro r
                    induction r with
                    | zero =>
                      intro k hk
                      obtain rfl : k = m := by omega
                      rw [cpD_n]
                      refine r_iload (pc' := 100) d154_98 rfl rfl ?_
                      refine r_iload (pc' := 102) d154_100 rfl rfl ?_
                      refine r_icmp_ge 160 (pc' := 105) d154_102 rfl rfl (fun c102 => ?_) (fun c102 => absurd (nI_le (Nat.le_refl _) (by omega)) c102)
                      refine r_aload_n (pc' := 161) d154_160 rfl rfl rfl ?_
                      refine r_iload (pc' := 163) d154_161 rfl rfl ?_
                      refine r_call (pc' := 166) [vR (some 50), vI _] [] d154_163 rfl o154 st12_72_12 (rcv1 sh50 (pl hN rfl)) rfl (by decide) ⟨rfl, rfl⟩ (Nat.le_of_ble_eq_true rfl) rfl (s_well hN ?_)
                      exact r_iretI d154_166 rfl (kW x y (by omega) (by omega) rfl rfl c25 c36 c57 p q _ (by omega) (by omega) rfl rfl rfl c74 c86)
                    | succ r ih =>
                      intro k hk
                      refine r_iload (pc' := 100) d154_98 rfl rfl ?_
                      refine r_iload (pc' := 102) d154_100 rfl rfl ?_
                      refine r_icmp_ge 160 (pc' := 105) d154_102 rfl rfl (fun c102 => absurd c102 (nI_ge (by omega) (by omega))) (fun c102 => ?_)
                      refine r_iload_n (pc' := 106) d154_105 rfl rfl rfl ?_
                      refine r_iload (pc' := 108) d154_106 rfl rfl ?_
                      refine r_icmp_le 116 (pc' := 111) d154_108 rfl rfl (fun c108 => ?_) (fun c108 => absurd (nI_le (by omega) (by omega)) c108)
                      refine r_iload (pc' := 118) d154_116 rfl rfl ?_
                      refine r_iconst (v := 1) (pc' := 119) d154_118 rfl (by decide) ?_
                      refine r_isub (pc' := 120) d154_119 rfl ?_
                      refine r_iload (pc' := 122) d154_120 rfl rfl ?_
                      refine r_isub (pc' := 123) d154_122 rfl ?_
                      rw [sub2 (show k < m by omega)]
                      refine r_istore (pc' := 125) (ls' := [(7, vI _), (0, vR (some 50)), (1, vI _), (2, vI _), (3, vI _), (4, vI _), (5, vI _), (6, vI _)]) d154_123 rfl (by decide) rfl ?_
                      refine r_aload_n (pc' := 126) d154_125 rfl rfl rfl ?_
                      refine r_getS (pc' := 129) d154_126 rfl o154 sf12_29_12 sh50 (pl hN rfl) (rfm7 hM) ?_
                      refine r_bipush (v := 40) (pc' := 131) d154_129 rfl (by decide) ?_
                      refine r_iload_n (pc' := 132) d154_131 rfl rfl rfl ?_
                      refine r_imul (pc' := 133) d154_132 rfl ?_
                      refine r_iload (pc' := 135) d154_133 rfl rfl ?_
                      refine r_iadd (pc' := 136) d154_135 rfl ?_
                      refine r_iload (pc' := 138) d154_136 rfl rfl ?_
                      refine r_iadd (pc' := 139) d154_138 rfl ?_
                      refine r_aload_n (pc' := 140) d154_139 rfl rfl rfl ?_
                      refine r_getS (pc' := 143) d154_140 rfl o154 sf12_29_12 sh50 (pl hN rfl) (rfm7 hM) ?_
                      refine r_bipush (v := 40) (pc' := 145) d154_143 rfl (by decide) ?_
                      refine r_iload_n (pc' := 146) d154_145 rfl rfl rfl ?_
                      refine r_imul (pc' := 147) d154_146 rfl ?_
                      refine r_iload_n (pc' := 148) d154_147 rfl rfl rfl ?_
                      refine r_iadd (pc' := 149) d154_148 rfl ?_
                      refine r_iload (pc' := 151) d154_149 rfl rfl ?_
                      refine r_iadd (pc' := 152) d154_151 rfl ?_
                      refine r_ialdN (pc' := 153) (j := (((40 * x) + p) + (m - 1 - k))) d154_152 rfl sh57 (pl hN rfl) (by simp only [lit, nI_add, pk_mul]) (by omega) (by decide) ?_
                      refine r_iastN (pc' := 154) (j := (((40 * y) + q) + (m - 1 - k))) d154_153 rfl sh57 (pl hN rfl) (by simp only [lit, nI_add, pk_mul]) (by omega) (by decide) ?_
                      refine r_iinc (v := _ + 1) (pc' := 157) (ls' := [(6, vI _), (7, vI _), (0, vR (some 50)), (1, vI _), (2, vI _), (3, vI _), (4, vI _), (5, vI _)]) d154_154 rfl rfl rfl (by decide) rfl ?_
                      refine r_goto 98 d154_157 rfl ?_
                      refine wp_pick (ls' := [(0, vR (some 50)), (1, vI _), (2, vI _), (3, vI _), (4, vI _), (5, vI _), (6, vI _)]) [2, 3, 4, 5, 6, 7, 0] rfl ?_
                      refine wp_heap (h' := setw h 57 (cpD (hi h 57) (40 * x + p) (40 * y + q) m (k + 1))) ((seti_setw _ _ _ _ _).trans (congrArg (setw _ _) (cpD_s (hi h 57) (40 * x + p) (40 * y + q) m k (by omega) (by omega)))) ?_
                      rw [nI_1]
                      exact ih (k + 1) (by omega)
                  refine wp_heap (h' := setw h 57 (cpD (hi h 57) (40 * x + p) (40 * y + q) m (0))) (by rw [cpD_0]; exact (setw_self _ 57).symm) ?_
                  exact loopD m 0 (by omega)
              · refine r_aload_n (pc' := 90) d154_89 rfl rfl rfl ?_
                refine r_iconst (v := 2) (pc' := 91) d154_90 rfl (by decide) ?_
                refine r_call (pc' := 94) [vR (some 50), vI _] [] d154_91 rfl o154 st12_68_12 (rcv1 sh50 (pl hN rfl)) rfl (by decide) ⟨rfl, rfl⟩ (Nat.le_of_ble_eq_true rfl) rfl (s_found hN ?_)
                exact r_iretI d154_94 rfl (qv (by decide) (kP x y (by omega) (by omega) rfl rfl c25 c36 c57 (by first | exact Or.inl c74 | exact Or.inr c86)))
          · refine r_aload_n (pc' := 61) d154_60 rfl rfl rfl ?_
            refine r_iconst (v := 5) (pc' := 62) d154_61 rfl (by decide) ?_
            refine r_call (pc' := 65) [vR (some 50), vI _] [] d154_62 rfl o154 st12_68_12 (rcv1 sh50 (pl hN rfl)) rfl (by decide) ⟨rfl, rfl⟩ (Nat.le_of_ble_eq_true rfl) rfl (s_found hN ?_)
            exact r_iretI d154_65 rfl (qv (by decide) (kT x y (by omega) (by omega) rfl rfl c25 c36 c57))
        · refine r_aload_n (pc' := 40) d154_39 rfl rfl rfl ?_
          refine r_iconst (v := 1) (pc' := 41) d154_40 rfl (by decide) ?_
          refine r_call (pc' := 44) [vR (some 50), vI _] [] d154_41 rfl o154 st12_68_12 (rcv1 sh50 (pl hN rfl)) rfl (by decide) ⟨rfl, rfl⟩ (Nat.le_of_ble_eq_true rfl) rfl (s_found hN ?_)
          exact r_iretI d154_44 rfl (qv (by decide) (kN x y (by omega) (by omega) rfl rfl (by first | exact Or.inl c25 | exact Or.inr c36)))
    · refine r_ldc (pc' := 16) d154_14 rfl o154 kc12_67 ?_
      exact r_iretI d154_16 rfl (kB (by first | exact Or.inl c4 | exact Or.inr c11))
