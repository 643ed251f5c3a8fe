/-! the reference: servable (printed by wip/whole/m51.py) -/
def cbF (s : Nat → Int32) (t : Nat) : Int32 := if ¬ goneI s t ∧ wellI s t then 1 else 0
def tkO (left : Int32) (t : Int32) : Int32 := left &&& (((1 : Int32) <<< (t &&& 31)) ^^^ (-1 : Int32))
abbrev svIs (s g : Nat → Int32) (m e : Nat) (mi left yet : Int32) (q t : Nat) : Prop := hasI left t ∧ mayG s g mi q t ∧ (1 : Int32) + mst s g m e (q + 1) (left &&& (((1 : Int32) <<< (nI t &&& 31)) ^^^ (-1 : Int32))) mi 5 = yet
def svF (s g : Nat → Int32) (m e : Nat) (mi left yet : Int32) (q : Nat) : Nat → Nat → Int32
  | 0, _ => -1000000
  | r + 1, t => if svIs s g m e mi left yet q t then nI t else svF s g m e mi left yet q r (t + 1)
def svP (s g : Nat → Int32) (m e : Nat) (mi : Int32) : Nat → Int32 × Int32
  | 0 => (63, mst s g m e 0 63 mi 5)
  | k + 1 => ((svP s g m e mi k).1 &&& (if svF s g m e mi (svP s g m e mi k).1 (svP s g m e mi k).2 k m 0 = -1000000 then (-1 : Int32) else ((1 : Int32) <<< (svF s g m e mi (svP s g m e mi k).1 (svP s g m e mi k).2 k m 0 &&& 31)) ^^^ (-1 : Int32)), (svP s g m e mi k).2 - (if svF s g m e mi (svP s g m e mi k).1 (svP s g m e mi k).2 k m 0 = -1000000 then 0 else 1))
def svG (s g : Nat → Int32) (m e : Nat) (mi : Int32) (k : Nat) : Int32 := svF s g m e mi (svP s g m e mi k).1 (svP s g m e mi k).2 k m 0
theorem fw_62 (h : Hp) (y x s c : Nat → Int32) : setw (fw h y x s) 62 c = fw (setw h 62 c) y x s := by
  show setw (setw (setw (setw h 61 y) 60 x) 51 s) 62 c = setw (setw (setw (setw h 62 c) 61 y) 60 x) 51 s
  rw [setw_comm _ 51 62 _ _ (by decide), setw_comm _ 60 62 _ _ (by decide), setw_comm _ 61 62 _ _ (by decide)]
abbrev jv (h : Hp) (x y c g : Nat → Int32) : Hp := setw (jk (setw h 62 c) x y) 63 g
theorem M_servable {d : Nat} {h : Hp} {Q : Option AV → Hp → Prop} {m L e : Nat} {u ea : Int32} (hN : hn h = 65) (hM : RM h) (hc : Cnt (hi h 51) m L e) (hsk : hi h 51 0 = 1 → ¬ hi h 51 3 = 0) (kS : ¬ hi h 51 0 = 1 → Q (some (vI (-1000002))) h) (kB : hi h 51 0 = 1 → (¬ (0 ≤ u ∧ u ≤ 60) ∨ ¬ (-1 ≤ ea ∧ ea ≤ nI e - 1)) → Q (some (vI (-1000001))) h)
    (kM : hi h 51 0 = 1 → ∀ n : Nat, n ≤ 60 → u = nI n → ea < 0 → (-1 ≤ ea ∧ ea ≤ nI e - 1) → ∀ CB : Nat → Int32, (∀ t, t < m → CB t = cbF (gmN (hi h 51) m L n) t) → ∀ x y g, Q (some (vI (mst (hi h 51) CB m e 0 63 (hi h 51 19 + nI n) 5))) (jv h x y CB g))
    (kE : hi h 51 0 = 1 → ∀ n : Nat, n ≤ 60 → u = nI n → ∀ z : Nat, z < e → ea = nI z → ∀ CB : Nat → Int32, (∀ t, t < m → CB t = cbF (gmN (hi h 51) m L n) t) → ∀ x y g, Q (some (vI (svG (hi h 51) CB m e (hi h 51 19 + nI n) z))) (jv h x y CB g)) : Spec (d + 5) 222 [vR (some 50), vI u, vI ea] h Q := by
  obtain ⟨hc1, hc2, hc3, hc4, hc5, hc6⟩ := id hc
  refine spec_intro (by decide +kernel) rfl (Nat.le_of_ble_eq_true rfl) ?_
  refine r_aload_n (pc' := 1) d222_0 rfl rfl rfl ?_
  refine r_call (pc' := 4) [vR (some 50)] [] d222_1 rfl o222 st12_184_12 (rcv1 sh50 (pl hN rfl)) rfl (by decide) ⟨rfl, rfl⟩ (Nat.le_of_ble_eq_true rfl) rfl (s_isYard hN hM ?_)
  refine r_if_neB 10 (pc' := 7) d222_4 rfl rfl (fun c4 => ?_) (fun c4 => ?_)
  · refine r_iload_n (pc' := 11) d222_10 rfl rfl rfl ?_
    refine r_iconst (v := 0) (pc' := 12) d222_11 rfl (by decide) ?_
    refine r_bipush (v := 60) (pc' := 14) d222_12 rfl (by decide) ?_
    refine r_call (pc' := 17) [vI _, vI _, vI _] [] d222_14 rfl o222 st12_59 rcv0 rfl (by decide) ⟨rfl, rfl⟩ (Nat.le_of_ble_eq_true rfl) rfl (s_in ?_)
    refine r_if_eqB 36 (pc' := 20) d222_17 rfl rfl (fun c17 => ?_) (fun c17 => ?_)
    · refine r_ldc (pc' := 38) d222_36 rfl o222 kc12_67 ?_
      exact r_iretI d222_38 rfl (kB c4 (by first | exact Or.inl c17 | exact Or.inr (by rw [show hi h 51 2 = nI e from hc5] at c33; exact c33)))
    · refine r_iload_n (pc' := 21) d222_20 rfl rfl rfl ?_
      refine r_iconst (v := (-1)) (pc' := 22) d222_21 rfl (by decide) ?_
      refine r_aload_n (pc' := 23) d222_22 rfl rfl rfl ?_
      refine r_getS (pc' := 26) d222_23 rfl o222 sf12_7_12 sh50 (pl hN rfl) (rfm0 hM) ?_
      refine r_iconst (v := 2) (pc' := 27) d222_26 rfl (by decide) ?_
      refine r_ialdN (pc' := 28) (j := 2) d222_27 rfl sh51 (pl hN rfl) rfl (by omega) (by decide) ?_
      refine r_iconst (v := 1) (pc' := 29) d222_28 rfl (by decide) ?_
      refine r_isub (pc' := 30) d222_29 rfl ?_
      refine r_call (pc' := 33) [vI _, vI _, vI _] [] d222_30 rfl o222 st12_59 rcv0 rfl (by decide) ⟨rfl, rfl⟩ (Nat.le_of_ble_eq_true rfl) rfl (s_in ?_)
      refine r_if_neB 39 (pc' := 36) d222_33 rfl rfl (fun c33 => ?_) (fun c33 => ?_)
      · obtain ⟨n, hn60, rfl⟩ := nat2 (n := 60) c17 (by decide)
        refine r_aload_n (pc' := 40) d222_39 rfl rfl rfl ?_
        refine r_getS (pc' := 43) d222_40 rfl o222 sf12_7_12 sh50 (pl hN rfl) (rfm0 hM) ?_
        refine r_bipush (v := 19) (pc' := 45) d222_43 rfl (by decide) ?_
        refine r_ialdN (pc' := 46) (j := 19) d222_45 rfl sh51 (pl hN rfl) rfl (by omega) (by decide) ?_
        refine r_iload_n (pc' := 47) d222_46 rfl rfl rfl ?_
        refine r_iadd (pc' := 48) d222_47 rfl ?_
        refine r_istore_n (pc' := 49) (ls' := [(3, vI _), (0, vR (some 50)), (1, vI _), (2, vI _)]) d222_48 rfl rfl (by decide) rfl ?_
        refine r_aload_n (pc' := 50) d222_49 rfl rfl rfl ?_
        refine r_call (pc' := 53) [vR (some 50)] [] d222_50 rfl o222 st12_217_12 (rcv1 sh50 (pl hN rfl)) rfl (by decide) ⟨rfl, rfl⟩ (Nat.le_of_ble_eq_true rfl) rfl (s_holdsF hN hM ?_)
        refine r_aload_n (pc' := 54) d222_53 rfl rfl rfl ?_
        refine r_iload_n (pc' := 55) d222_54 rfl rfl rfl ?_
        refine r_call (pc' := 58) [vR (some 50), vI _] [] d222_55 rfl o222 st12_220_12 (rcv1 sh50 (pl hN rfl)) rfl (by decide) ⟨rfl, rfl⟩ (Nat.le_of_ble_eq_true rfl) rfl (s_goF hN hM hc (hsk c4) (by omega) (fun x => ?_))
        refine r_iconst (v := 0) (pc' := 59) d222_58 rfl (by decide) ?_
        refine r_istore (pc' := 61) (ls' := [(4, vI _), (3, vI _), (0, vR (some 50)), (1, vI _), (2, vI _)]) d222_59 rfl (by decide) rfl ?_
        refine wp_pick (ls' := [(0, vR (some 50)), (1, vI _), (2, vI _), (3, vI _), (4, vI _)]) [2, 3, 4, 1, 0] rfl ?_
        have loop : ∀ (r k : Nat), k + r = m → wp (d + 5) 222 Q 0 0 61 [(0, vR (some 50)), (1, vI (nI n)), (2, vI ea), (3, vI (hi h 51 19 + nI n)), (4, vI (nI k))] [] (setw (fw h (hold66 (hi h 51) (hi h 61)) x (gmN (hi h 51) m L n)) 62 (mix (cbF (gmN (hi h 51) m L n)) (hi h 62) 0 k)) := by
          intro r
          induction r with
          | zero =>
            intro k hk
            obtain rfl : k = m := by omega
            refine r_iload (pc' := 63) d222_61 rfl rfl ?_
            refine r_aload_n (pc' := 64) d222_63 rfl rfl rfl ?_
            refine r_getS (pc' := 67) d222_64 rfl o222 sf12_7_12 sh50 (pl hN rfl) (rfm0 hM) ?_
            refine r_iconst (v := 1) (pc' := 68) d222_67 rfl (by decide) ?_
            refine r_ialdN (pc' := 69) (j := 1) d222_68 rfl sh51 (pl hN rfl) rfl (by omega) (by decide) ?_
            refine r_icmp_ge 108 (pc' := 72) d222_69 rfl rfl (fun c69 => ?_) (fun c69 => absurd (show  gmN (hi h 51) k L n 1 ≤ nI k by rw [gmN_lo _ _ _ _ _ (by decide) (by decide) (by decide) hc4, hc1]; exact nI_le (Nat.le_refl _) (by omega)) c69)
            refine wp_heap (fw_62 h (hold66 (hi h 51) (hi h 61)) x _ _) ?_
            generalize hCB : mix (cbF (gmN (hi h 51) k L n)) (hi h 62) 0 k = CB
            have hCB2 : ∀ t, t < k → CB t = cbF (gmN (hi h 51) k L n) t := fun t ht => by rw [← hCB]; exact mix_in _ _ (by omega)
            refine r_aload_n (pc' := 109) d222_108 rfl rfl rfl ?_
            refine r_call (pc' := 112) [vR (some 50)] [] d222_109 rfl o222 st12_226_12 (rcv1 sh50 (pl hN rfl)) rfl (by decide) ⟨rfl, rfl⟩ (Nat.le_of_ble_eq_true rfl) rfl (s_backF (h := setw h 62 CB) hN hM ((Outs.rf (hi h 51)).gm hc2 hc4 n) ?_)
            refine r_bipush (v := 63) (pc' := 114) d222_112 rfl (by decide) ?_
            refine r_istore (pc' := 116) (ls' := [(4, vI _), (0, vR (some 50)), (1, vI _), (2, vI _), (3, vI _)]) d222_114 rfl (by decide) rfl ?_
            refine r_aload_n (pc' := 117) d222_116 rfl rfl rfl ?_
            refine r_iconst (v := 0) (pc' := 118) d222_117 rfl (by decide) ?_
            refine r_iload (pc' := 120) d222_118 rfl rfl ?_
            refine r_iload_n (pc' := 121) d222_120 rfl rfl rfl ?_
            refine r_call (pc' := 124) [vR (some 50), vI _, vI _, vI _] [] d222_121 rfl o222 st12_241_12 (rcv1 sh50 (pl hN rfl)) rfl (by decide) ⟨rfl, rfl⟩ (Nat.le_of_ble_eq_true rfl) rfl (s_most (f := 0) hN hM hc (by omega) ?_)
            refine r_istore (pc' := 126) (ls' := [(5, vI _), (4, vI _), (0, vR (some 50)), (1, vI _), (2, vI _), (3, vI _)]) d222_124 rfl (by decide) rfl ?_
            refine r_iload (pc' := 128) d222_126 rfl rfl ?_
            refine r_istore (pc' := 130) (ls' := [(6, vI _), (5, vI _), (4, vI _), (0, vR (some 50)), (1, vI _), (2, vI _), (3, vI _)]) d222_128 rfl (by decide) rfl ?_
            refine r_iconst (v := 0) (pc' := 131) d222_130 rfl (by decide) ?_
            refine r_istore (pc' := 133) (ls' := [(7, vI _), (6, vI _), (5, vI _), (4, vI _), (0, vR (some 50)), (1, vI _), (2, vI _), (3, vI _)]) d222_131 rfl (by decide) rfl ?_
            refine wp_pick (ls' := [(0, vR (some 50)), (1, vI _), (2, vI _), (3, vI _), (4, vI _), (5, vI _), (6, vI _), (7, vI _)]) [4, 5, 6, 7, 3, 2, 1, 0] rfl ?_
            have loop2 : ∀ (r q : Nat), q + r = e → wp (d + 5) 222 Q 0 0 133 [(0, vR (some 50)), (1, vI (nI n)), (2, vI ea), (3, vI (hi h 51 19 + nI n)), (4, vI (svP (hi h 51) CB k e (hi h 51 19 + nI n) q).1), (5, vI (mst (hi h 51) CB k e 0 63 (hi h 51 19 + nI n) 5)), (6, vI (svP (hi h 51) CB k e (hi h 51 19 + nI n) q).2), (7, vI (nI q))] [] (setw (jk (setw h 62 CB) x (hold66 (hi h 51) (hi h 61))) 63 (mix (svG (hi h 51) CB k e (hi h 51 19 + nI n)) (hi h 63) 0 q)) := by
              intro r
              induction r with
              | zero =>
                intro q hq
                obtain rfl : q = e := by omega
                refine r_iload (pc' := 135) d222_133 rfl rfl ?_
                refine r_aload_n (pc' := 136) d222_135 rfl rfl rfl ?_
                refine r_getS (pc' := 139) d222_136 rfl o222 sf12_7_12 sh50 (pl hN rfl) (rfm0 hM) ?_
                refine r_iconst (v := 2) (pc' := 140) d222_139 rfl (by decide) ?_
                refine r_ialdN (pc' := 141) (j := 2) d222_140 rfl sh51 (pl hN rfl) rfl (by omega) (by decide) ?_
                refine r_icmp_ge 318 (pc' := 144) d222_141 rfl rfl (fun c141 => ?_) (fun c141 => absurd (show hi h 51 2 ≤ nI q by rw [hc5]; exact nI_le (Nat.le_refl _) (by omega)) c141)
                refine r_iload_n (pc' := 319) d222_318 rfl rfl rfl ?_
                refine r_if_ge 327 (pc' := 322) d222_319 rfl rfl (fun c319 => ?_) (fun c319 => ?_)
                · obtain ⟨z, hz, rfl⟩ : ∃ z : Nat, z < q ∧ ea = nI z := by
                    obtain ⟨z, hz, rfl⟩ := nI_of (Int32.not_lt.mpr c319)
                    have h9 := c33.2
                    rw [show hi h 51 2 = nI q from hc5] at h9
                    obtain ⟨z2, hz2, e2⟩ := ix_lt (nI_pos' hz) h9 (by omega)
                    exact ⟨z2, hz2, e2⟩
                  refine r_aload_n (pc' := 328) d222_327 rfl rfl rfl ?_
                  refine r_getS (pc' := 331) d222_328 rfl o222 sf12_47_12 sh50 (pl hN rfl) (rfm21 hM) ?_
                  refine r_iload_n (pc' := 332) d222_331 rfl rfl rfl ?_
                  refine r_ialdN (pc' := 333) (j := z) d222_332 rfl sh63 (pl hN rfl) rfl (by omega) (by decide) ?_
                  exact r_iretI d222_333 rfl (qv (mix_in _ _ (by omega)).symm (kE c4 n hn60 rfl z hz rfl CB hCB2 x _ _))
                · refine r_iload (pc' := 324) d222_322 rfl rfl ?_
                  refine r_goto 333 d222_324 rfl ?_
                  exact r_iretI d222_333 rfl (kM c4 n hn60 rfl (Int32.not_le.mp c319) (by rw [show hi h 51 2 = nI q from hc5] at c33; exact c33) CB hCB2 x _ _)
              | succ r ih =>
                intro q hq
                have ih2 := ih (q + 1) (by omega)
                rw [svP] at ih2
                generalize hLe : (svP (hi h 51) CB k e (hi h 51 19 + nI n) q).1 = le0 at ih2 ⊢
                generalize hYe : (svP (hi h 51) CB k e (hi h 51 19 + nI n) q).2 = ye0 at ih2 ⊢
                have hG0 : svG (hi h 51) CB k e (hi h 51 19 + nI n) q = svF (hi h 51) CB k e (hi h 51 19 + nI n) le0 ye0 q k 0 := by rw [svG, hLe, hYe]
                refine r_iload (pc' := 135) d222_133 rfl rfl ?_
                refine r_aload_n (pc' := 136) d222_135 rfl rfl rfl ?_
                refine r_getS (pc' := 139) d222_136 rfl o222 sf12_7_12 sh50 (pl hN rfl) (rfm0 hM) ?_
                refine r_iconst (v := 2) (pc' := 140) d222_139 rfl (by decide) ?_
                refine r_ialdN (pc' := 141) (j := 2) d222_140 rfl sh51 (pl hN rfl) rfl (by omega) (by decide) ?_
                refine r_icmp_ge 318 (pc' := 144) d222_141 rfl rfl (fun c141 => absurd c141 (show ¬ hi h 51 2 ≤ nI q by rw [hc5]; exact nI_ge (by omega) (by omega))) (fun c141 => ?_)
                refine r_aload_n (pc' := 145) d222_144 rfl rfl rfl ?_
                refine r_getS (pc' := 148) d222_145 rfl o222 sf12_47_12 sh50 (pl hN rfl) (rfm21 hM) ?_
                refine r_iload (pc' := 150) d222_148 rfl rfl ?_
                refine r_ldc (pc' := 152) d222_150 rfl o222 kc12_53 ?_
                refine r_iastN (pc' := 153) (j := q) d222_152 rfl sh63 (pl hN rfl) rfl (by omega) (by decide) ?_
                refine r_iconst (v := 0) (pc' := 154) d222_153 rfl (by decide) ?_
                refine r_istore (pc' := 156) (ls' := [(8, vI _), (0, vR (some 50)), (1, vI _), (2, vI _), (3, vI _), (4, vI _), (5, vI _), (6, vI _), (7, vI _)]) d222_154 rfl (by decide) rfl ?_
                refine wp_pick (ls' := [(0, vR (some 50)), (1, vI _), (2, vI _), (3, vI _), (4, vI _), (5, vI _), (6, vI _), (7, vI _), (8, vI _)]) [1, 2, 3, 4, 5, 6, 7, 8, 0] rfl ?_
                refine wp_heap (h' := (setw (jk (setw h 62 CB) x (hold66 (hi h 51) (hi h 61))) 63 (upd (mix (svG (hi h 51) CB k e (hi h 51 19 + nI n)) (hi h 63) 0 q) q (-1000000)))) (seti_setw _ _ _ _ _) ?_
                have loop3 : ∀ (r t : Nat), t + r = k → (svF (hi h 51) CB k e (hi h 51 19 + nI n) le0 ye0 q k 0) = (svF (hi h 51) CB k e (hi h 51 19 + nI n) le0 ye0 q r t) → wp (d + 5) 222 Q 0 0 156 [(0, vR (some 50)), (1, vI (nI n)), (2, vI ea), (3, vI (hi h 51 19 + nI n)), (4, vI le0), (5, vI (mst (hi h 51) CB k e 0 63 (hi h 51 19 + nI n) 5)), (6, vI ye0), (7, vI (nI q)), (8, vI (nI t))] [] (setw (jk (setw h 62 CB) x (hold66 (hi h 51) (hi h 61))) 63 (upd (mix (svG (hi h 51) CB k e (hi h 51 19 + nI n)) (hi h 63) 0 q) q (-1000000))) := by
                  intro r
                  induction r with
                  | zero =>
                    intro t ht hv
                    obtain rfl : t = k := by omega
                    refine r_iload (pc' := 158) d222_156 rfl rfl ?_
                    refine r_aload_n (pc' := 159) d222_158 rfl rfl rfl ?_
                    refine r_getS (pc' := 162) d222_159 rfl o222 sf12_7_12 sh50 (pl hN rfl) (rfm0 hM) ?_
                    refine r_iconst (v := 1) (pc' := 163) d222_162 rfl (by decide) ?_
                    refine r_ialdN (pc' := 164) (j := 1) d222_163 rfl sh51 (pl hN rfl) rfl (by omega) (by decide) ?_
                    refine r_icmp_ge 258 (pc' := 167) d222_164 rfl rfl (fun c164 => ?_) (fun c164 => absurd (show hi h 51 1 ≤ nI t by rw [hc1]; exact nI_le (Nat.le_refl _) (by omega)) c164)
                    refine r_iload (pc' := 260) d222_258 rfl rfl ?_
                    refine r_aload_n (pc' := 261) d222_260 rfl rfl rfl ?_
                    refine r_getS (pc' := 264) d222_261 rfl o222 sf12_47_12 sh50 (pl hN rfl) (rfm21 hM) ?_
                    refine r_iload (pc' := 266) d222_264 rfl rfl ?_
                    refine r_ialdN (pc' := 267) (j := q) d222_266 rfl sh63 (pl hN rfl) rfl (by omega) (by decide) ?_
                    refine wp_v (show _ = -1000000 from upd_at _ _ _) ?_
                    refine r_ldc (pc' := 269) d222_267 rfl o222 kc12_53 ?_
                    refine r_icmp_ne 276 (pc' := 272) d222_269 rfl rfl (fun c269 => absurd rfl c269) (fun c269 => ?_)
                    refine r_iconst (v := (-1)) (pc' := 273) d222_272 rfl (by decide) ?_
                    refine r_goto 287 d222_273 rfl ?_
                    refine r_iand (pc' := 288) d222_287 rfl ?_
                    refine r_istore (pc' := 290) (ls' := [(4, vI _), (0, vR (some 50)), (1, vI _), (2, vI _), (3, vI _), (5, vI _), (6, vI _), (7, vI _), (8, vI _)]) d222_288 rfl (by decide) rfl ?_
                    refine r_iload (pc' := 292) d222_290 rfl rfl ?_
                    refine r_aload_n (pc' := 293) d222_292 rfl rfl rfl ?_
                    refine r_getS (pc' := 296) d222_293 rfl o222 sf12_47_12 sh50 (pl hN rfl) (rfm21 hM) ?_
                    refine r_iload (pc' := 298) d222_296 rfl rfl ?_
                    refine r_ialdN (pc' := 299) (j := q) d222_298 rfl sh63 (pl hN rfl) rfl (by omega) (by decide) ?_
                    refine wp_v (show _ = -1000000 from upd_at _ _ _) ?_
                    refine r_ldc (pc' := 301) d222_299 rfl o222 kc12_53 ?_
                    refine r_icmp_ne 308 (pc' := 304) d222_301 rfl rfl (fun c301 => absurd rfl c301) (fun c301 => ?_)
                    refine r_iconst (v := 0) (pc' := 305) d222_304 rfl (by decide) ?_
                    refine r_goto 309 d222_305 rfl ?_
                    refine r_isub (pc' := 310) d222_309 rfl ?_
                    refine r_istore (pc' := 312) (ls' := [(6, vI _), (4, vI _), (0, vR (some 50)), (1, vI _), (2, vI _), (3, vI _), (5, vI _), (7, vI _), (8, vI _)]) d222_310 rfl (by decide) rfl ?_
                    refine r_iinc (v := _ + 1) (pc' := 315) (ls' := [(7, vI _), (6, vI _), (4, vI _), (0, vR (some 50)), (1, vI _), (2, vI _), (3, vI _), (5, vI _), (8, vI _)]) d222_312 rfl rfl rfl (by decide) rfl ?_
                    refine r_goto 133 d222_315 rfl ?_
                    refine wp_pick (ls' := [(0, vR (some 50)), (1, vI _), (2, vI _), (3, vI _), (4, vI _), (5, vI _), (6, vI _), (7, vI _)]) [3, 4, 5, 6, 2, 7, 1, 0] rfl ?_
                    have hv3 : svF (hi h 51) CB t e (hi h 51 19 + nI n) le0 ye0 q t 0 = -1000000 := hv
                    rw [hv3] at ih2 hG0
                    rw [if_pos rfl, if_pos rfl] at ih2
                    refine wp_heap (h' := setw (jk (setw h 62 CB) x (hold66 (hi h 51) (hi h 61))) 63 (mix (svG (hi h 51) CB t e (hi h 51 19 + nI n)) (hi h 63) 0 (q + 1))) (congrArg (setw _ 63) (mix0_v _ _ q hG0.symm)) ?_
                    rw [nI_1]
                    exact ih2
                  | succ r ih3 =>
                    intro t ht hv
                    refine r_iload (pc' := 158) d222_156 rfl rfl ?_
                    refine r_aload_n (pc' := 159) d222_158 rfl rfl rfl ?_
                    refine r_getS (pc' := 162) d222_159 rfl o222 sf12_7_12 sh50 (pl hN rfl) (rfm0 hM) ?_
                    refine r_iconst (v := 1) (pc' := 163) d222_162 rfl (by decide) ?_
                    refine r_ialdN (pc' := 164) (j := 1) d222_163 rfl sh51 (pl hN rfl) rfl (by omega) (by decide) ?_
                    refine r_icmp_ge 258 (pc' := 167) d222_164 rfl rfl (fun c164 => absurd c164 (show ¬ hi h 51 1 ≤ nI t by rw [hc1]; exact nI_ge (by omega) (by omega))) (fun c164 => ?_)
                    refine r_aload_n (pc' := 168) d222_167 rfl rfl rfl ?_
                    refine r_getS (pc' := 171) d222_168 rfl o222 sf12_47_12 sh50 (pl hN rfl) (rfm21 hM) ?_
                    refine r_iload (pc' := 173) d222_171 rfl rfl ?_
                    refine r_ialdN (pc' := 174) (j := q) d222_173 rfl sh63 (pl hN rfl) rfl (by omega) (by decide) ?_
                    refine wp_v (show _ = -1000000 from upd_at _ _ _) ?_
                    refine r_ldc (pc' := 176) d222_174 rfl o222 kc12_53 ?_
                    refine r_icmp_ne 258 (pc' := 179) d222_176 rfl rfl (fun c176 => absurd rfl c176) (fun c176 => ?_)
                    refine r_iload (pc' := 181) d222_179 rfl rfl ?_
                    refine r_iload (pc' := 183) d222_181 rfl rfl ?_
                    refine r_call (pc' := 186) [vI _, vI _] [] d222_183 rfl o222 st12_238 rcv0 rfl (by decide) ⟨rfl, rfl⟩ (Nat.le_of_ble_eq_true rfl) rfl (s_has ?_)
                    refine r_if_eqB 230 (pc' := 189) d222_186 rfl rfl (fun c186 => ?_) (fun c186 => ?_)
                    · refine r_iconst (v := 0) (pc' := 231) d222_230 rfl (by decide) ?_
                      refine r_istore (pc' := 233) (ls' := [(9, vI _), (0, vR (some 50)), (1, vI _), (2, vI _), (3, vI _), (4, vI _), (5, vI _), (6, vI _), (7, vI _), (8, vI _)]) d222_231 rfl (by decide) rfl ?_
                      refine r_aload_n (pc' := 234) d222_233 rfl rfl rfl ?_
                      refine r_getS (pc' := 237) d222_234 rfl o222 sf12_47_12 sh50 (pl hN rfl) (rfm21 hM) ?_
                      refine r_iload (pc' := 239) d222_237 rfl rfl ?_
                      refine r_iload (pc' := 241) d222_239 rfl rfl ?_
                      refine r_if_eq 249 (pc' := 244) d222_241 rfl rfl (fun c241 => ?_) (fun c241 => absurd (by decide) c241)
                      refine r_ldc (pc' := 251) d222_249 rfl o222 kc12_53 ?_
                      refine r_iastN (pc' := 252) (j := q) d222_251 rfl sh63 (pl hN rfl) rfl (by omega) (by decide) ?_
                      refine r_iinc (v := _ + 1) (pc' := 255) (ls' := [(8, vI _), (9, vI _), (0, vR (some 50)), (1, vI _), (2, vI _), (3, vI _), (4, vI _), (5, vI _), (6, vI _), (7, vI _)]) d222_252 rfl rfl rfl (by decide) rfl ?_
                      refine r_goto 156 d222_255 rfl ?_
                      refine wp_pick (ls' := [(0, vR (some 50)), (1, vI _), (2, vI _), (3, vI _), (4, vI _), (5, vI _), (6, vI _), (7, vI _), (8, vI _)]) [2, 3, 4, 5, 6, 7, 8, 9, 0] rfl ?_
                      rw [nI_1]
                      refine wp_heap (h' := (setw (jk (setw h 62 CB) x (hold66 (hi h 51) (hi h 61))) 63 (upd (mix (svG (hi h 51) CB k e (hi h 51 19 + nI n)) (hi h 63) 0 q) q (-1000000)))) (by rw [seti_setw]; refine congrArg (setw _ 63) (funext (fun i => ?_)); unfold upd; by_cases hi1 : i = q <;> simp [hi1]) ?_
                      exact ih3 (t + 1) (by omega) (by rw [hv, svF]; exact if_neg (fun z => c186 z.1))
                    · refine r_aload_n (pc' := 190) d222_189 rfl rfl rfl ?_
                      refine r_iload (pc' := 192) d222_190 rfl rfl ?_
                      refine r_iload (pc' := 194) d222_192 rfl rfl ?_
                      refine r_iload_n (pc' := 195) d222_194 rfl rfl rfl ?_
                      refine r_call (pc' := 198) [vR (some 50), vI _, vI _, vI _] [] d222_195 rfl o222 st12_245_12 (rcv1 sh50 (pl hN rfl)) rfl (by decide) ⟨rfl, rfl⟩ (Nat.le_of_ble_eq_true rfl) rfl (s_mayGet hN hM (by omega) (by omega) ?_)
                      refine r_if_eqB 230 (pc' := 201) d222_198 rfl rfl (fun c198 => ?_) (fun c198 => ?_)
                      · refine r_iconst (v := 0) (pc' := 231) d222_230 rfl (by decide) ?_
                        refine r_istore (pc' := 233) (ls' := [(9, vI _), (0, vR (some 50)), (1, vI _), (2, vI _), (3, vI _), (4, vI _), (5, vI _), (6, vI _), (7, vI _), (8, vI _)]) d222_231 rfl (by decide) rfl ?_
                        refine r_aload_n (pc' := 234) d222_233 rfl rfl rfl ?_
                        refine r_getS (pc' := 237) d222_234 rfl o222 sf12_47_12 sh50 (pl hN rfl) (rfm21 hM) ?_
                        refine r_iload (pc' := 239) d222_237 rfl rfl ?_
                        refine r_iload (pc' := 241) d222_239 rfl rfl ?_
                        refine r_if_eq 249 (pc' := 244) d222_241 rfl rfl (fun c241 => ?_) (fun c241 => absurd (by decide) c241)
                        refine r_ldc (pc' := 251) d222_249 rfl o222 kc12_53 ?_
                        refine r_iastN (pc' := 252) (j := q) d222_251 rfl sh63 (pl hN rfl) rfl (by omega) (by decide) ?_
                        refine r_iinc (v := _ + 1) (pc' := 255) (ls' := [(8, vI _), (9, vI _), (0, vR (some 50)), (1, vI _), (2, vI _), (3, vI _), (4, vI _), (5, vI _), (6, vI _), (7, vI _)]) d222_252 rfl rfl rfl (by decide) rfl ?_
                        refine r_goto 156 d222_255 rfl ?_
                        refine wp_pick (ls' := [(0, vR (some 50)), (1, vI _), (2, vI _), (3, vI _), (4, vI _), (5, vI _), (6, vI _), (7, vI _), (8, vI _)]) [2, 3, 4, 5, 6, 7, 8, 9, 0] rfl ?_
                        rw [nI_1]
                        refine wp_heap (h' := (setw (jk (setw h 62 CB) x (hold66 (hi h 51) (hi h 61))) 63 (upd (mix (svG (hi h 51) CB k e (hi h 51 19 + nI n)) (hi h 63) 0 q) q (-1000000)))) (by rw [seti_setw]; refine congrArg (setw _ 63) (funext (fun i => ?_)); unfold upd; by_cases hi1 : i = q <;> simp [hi1]) ?_
                        exact ih3 (t + 1) (by omega) (by rw [hv, svF]; exact if_neg (fun z => c198 z.2.1))
                      · refine r_iconst (v := 1) (pc' := 202) d222_201 rfl (by decide) ?_
                        refine r_aload_n (pc' := 203) d222_202 rfl rfl rfl ?_
                        refine r_iload (pc' := 205) d222_203 rfl rfl ?_
                        refine r_iconst (v := 1) (pc' := 206) d222_205 rfl (by decide) ?_
                        refine r_iadd (pc' := 207) d222_206 rfl ?_
                        rw [nI_1 q]
                        refine r_iload (pc' := 209) d222_207 rfl rfl ?_
                        refine r_iconst (v := 1) (pc' := 210) d222_209 rfl (by decide) ?_
                        refine r_iload (pc' := 212) d222_210 rfl rfl ?_
                        refine r_ishl (pc' := 213) d222_212 rfl ?_
                        refine r_iconst (v := (-1)) (pc' := 214) d222_213 rfl (by decide) ?_
                        refine r_ixor (pc' := 215) d222_214 rfl ?_
                        refine r_iand (pc' := 216) d222_215 rfl ?_
                        refine r_iload_n (pc' := 217) d222_216 rfl rfl rfl ?_
                        refine r_call (pc' := 220) [vR (some 50), vI _, vI _, vI _] [vI _] d222_217 rfl o222 st12_241_12 (rcv1 sh50 (pl hN rfl)) rfl (by decide) ⟨rfl, rfl⟩ (Nat.le_of_ble_eq_true rfl) rfl (s_most (f := q + 1) hN hM hc (by omega) ?_)
                        refine r_iadd (pc' := 221) d222_220 rfl ?_
                        refine r_iload (pc' := 223) d222_221 rfl rfl ?_
                        refine r_icmp_ne 230 (pc' := 226) d222_223 rfl rfl (fun c223 => ?_) (fun c223 => ?_)
                        · refine r_iconst (v := 0) (pc' := 231) d222_230 rfl (by decide) ?_
                          refine r_istore (pc' := 233) (ls' := [(9, vI _), (0, vR (some 50)), (1, vI _), (2, vI _), (3, vI _), (4, vI _), (5, vI _), (6, vI _), (7, vI _), (8, vI _)]) d222_231 rfl (by decide) rfl ?_
                          refine r_aload_n (pc' := 234) d222_233 rfl rfl rfl ?_
                          refine r_getS (pc' := 237) d222_234 rfl o222 sf12_47_12 sh50 (pl hN rfl) (rfm21 hM) ?_
                          refine r_iload (pc' := 239) d222_237 rfl rfl ?_
                          refine r_iload (pc' := 241) d222_239 rfl rfl ?_
                          refine r_if_eq 249 (pc' := 244) d222_241 rfl rfl (fun c241 => ?_) (fun c241 => absurd (by decide) c241)
                          refine r_ldc (pc' := 251) d222_249 rfl o222 kc12_53 ?_
                          refine r_iastN (pc' := 252) (j := q) d222_251 rfl sh63 (pl hN rfl) rfl (by omega) (by decide) ?_
                          refine r_iinc (v := _ + 1) (pc' := 255) (ls' := [(8, vI _), (9, vI _), (0, vR (some 50)), (1, vI _), (2, vI _), (3, vI _), (4, vI _), (5, vI _), (6, vI _), (7, vI _)]) d222_252 rfl rfl rfl (by decide) rfl ?_
                          refine r_goto 156 d222_255 rfl ?_
                          refine wp_pick (ls' := [(0, vR (some 50)), (1, vI _), (2, vI _), (3, vI _), (4, vI _), (5, vI _), (6, vI _), (7, vI _), (8, vI _)]) [2, 3, 4, 5, 6, 7, 8, 9, 0] rfl ?_
                          rw [nI_1]
                          refine wp_heap (h' := (setw (jk (setw h 62 CB) x (hold66 (hi h 51) (hi h 61))) 63 (upd (mix (svG (hi h 51) CB k e (hi h 51 19 + nI n)) (hi h 63) 0 q) q (-1000000)))) (by rw [seti_setw]; refine congrArg (setw _ 63) (funext (fun i => ?_)); unfold upd; by_cases hi1 : i = q <;> simp [hi1]) ?_
                          exact ih3 (t + 1) (by omega) (by rw [hv, svF]; exact if_neg (fun z => c223 z.2.2))
                        · refine r_iconst (v := 1) (pc' := 227) d222_226 rfl (by decide) ?_
                          refine r_goto 231 d222_227 rfl ?_
                          refine r_istore (pc' := 233) (ls' := [(9, vI _), (0, vR (some 50)), (1, vI _), (2, vI _), (3, vI _), (4, vI _), (5, vI _), (6, vI _), (7, vI _), (8, vI _)]) d222_231 rfl (by decide) rfl ?_
                          refine r_aload_n (pc' := 234) d222_233 rfl rfl rfl ?_
                          refine r_getS (pc' := 237) d222_234 rfl o222 sf12_47_12 sh50 (pl hN rfl) (rfm21 hM) ?_
                          refine r_iload (pc' := 239) d222_237 rfl rfl ?_
                          refine r_iload (pc' := 241) d222_239 rfl rfl ?_
                          refine r_if_eq 249 (pc' := 244) d222_241 rfl rfl (fun c241 => absurd c241 (by decide)) (fun c241 => ?_)
                          refine r_iload (pc' := 246) d222_244 rfl rfl ?_
                          refine r_goto 251 d222_246 rfl ?_
                          refine r_iastN (pc' := 252) (j := q) d222_251 rfl sh63 (pl hN rfl) rfl (by omega) (by decide) ?_
                          refine r_iinc (v := _ + 1) (pc' := 255) (ls' := [(8, vI _), (9, vI _), (0, vR (some 50)), (1, vI _), (2, vI _), (3, vI _), (4, vI _), (5, vI _), (6, vI _), (7, vI _)]) d222_252 rfl rfl rfl (by decide) rfl ?_
                          refine r_goto 156 d222_255 rfl ?_
                          refine wp_pick (ls' := [(0, vR (some 50)), (1, vI _), (2, vI _), (3, vI _), (4, vI _), (5, vI _), (6, vI _), (7, vI _), (8, vI _)]) [2, 3, 4, 5, 6, 7, 8, 9, 0] rfl ?_
                          rw [nI_1]
                          refine wp_heap (h' := (setw (jk (setw h 62 CB) x (hold66 (hi h 51) (hi h 61))) 63 (upd (mix (svG (hi h 51) CB k e (hi h 51 19 + nI n)) (hi h 63) 0 q) q (nI t)))) (by rw [seti_setw]; refine congrArg (setw _ 63) (funext (fun i => ?_)); unfold upd; by_cases hi1 : i = q <;> simp [hi1]) ?_
                          have hv2 : (svF (hi h 51) CB k e (hi h 51 19 + nI n) le0 ye0 q k 0) = nI t := by rw [hv, svF]; exact if_pos ⟨c186, c198, c223⟩
                          refine r_iload (pc' := 158) d222_156 rfl rfl ?_
                          refine r_aload_n (pc' := 159) d222_158 rfl rfl rfl ?_
                          refine r_getS (pc' := 162) d222_159 rfl o222 sf12_7_12 sh50 (pl hN rfl) (rfm0 hM) ?_
                          refine r_iconst (v := 1) (pc' := 163) d222_162 rfl (by decide) ?_
                          refine r_ialdN (pc' := 164) (j := 1) d222_163 rfl sh51 (pl hN rfl) rfl (by omega) (by decide) ?_
                          refine r_icmp_ge 258 (pc' := 167) d222_164 rfl rfl (fun c164 => ?_) (fun c164 => ?_)
                          · refine r_iload (pc' := 260) d222_258 rfl rfl ?_
                            refine r_aload_n (pc' := 261) d222_260 rfl rfl rfl ?_
                            refine r_getS (pc' := 264) d222_261 rfl o222 sf12_47_12 sh50 (pl hN rfl) (rfm21 hM) ?_
                            refine r_iload (pc' := 266) d222_264 rfl rfl ?_
                            refine r_ialdN (pc' := 267) (j := q) d222_266 rfl sh63 (pl hN rfl) rfl (by omega) (by decide) ?_
                            refine wp_v (show _ = nI t from upd_at _ _ _) ?_
                            refine r_ldc (pc' := 269) d222_267 rfl o222 kc12_53 ?_
                            refine r_icmp_ne 276 (pc' := 272) d222_269 rfl rfl (fun c269 => ?_) (fun c269 => absurd c269 (nI_none (by omega)))
                            refine r_iconst (v := 1) (pc' := 277) d222_276 rfl (by decide) ?_
                            refine r_aload_n (pc' := 278) d222_277 rfl rfl rfl ?_
                            refine r_getS (pc' := 281) d222_278 rfl o222 sf12_47_12 sh50 (pl hN rfl) (rfm21 hM) ?_
                            refine r_iload (pc' := 283) d222_281 rfl rfl ?_
                            refine r_ialdN (pc' := 284) (j := q) d222_283 rfl sh63 (pl hN rfl) rfl (by omega) (by decide) ?_
                            refine wp_v (show _ = nI t from upd_at _ _ _) ?_
                            refine r_ishl (pc' := 285) d222_284 rfl ?_
                            refine r_iconst (v := (-1)) (pc' := 286) d222_285 rfl (by decide) ?_
                            refine r_ixor (pc' := 287) d222_286 rfl ?_
                            refine r_iand (pc' := 288) d222_287 rfl ?_
                            refine r_istore (pc' := 290) (ls' := [(4, vI _), (0, vR (some 50)), (1, vI _), (2, vI _), (3, vI _), (5, vI _), (6, vI _), (7, vI _), (8, vI _)]) d222_288 rfl (by decide) rfl ?_
                            refine r_iload (pc' := 292) d222_290 rfl rfl ?_
                            refine r_aload_n (pc' := 293) d222_292 rfl rfl rfl ?_
                            refine r_getS (pc' := 296) d222_293 rfl o222 sf12_47_12 sh50 (pl hN rfl) (rfm21 hM) ?_
                            refine r_iload (pc' := 298) d222_296 rfl rfl ?_
                            refine r_ialdN (pc' := 299) (j := q) d222_298 rfl sh63 (pl hN rfl) rfl (by omega) (by decide) ?_
                            refine wp_v (show _ = nI t from upd_at _ _ _) ?_
                            refine r_ldc (pc' := 301) d222_299 rfl o222 kc12_53 ?_
                            refine r_icmp_ne 308 (pc' := 304) d222_301 rfl rfl (fun c301 => ?_) (fun c301 => absurd c301 (nI_none (by omega)))
                            refine r_iconst (v := 1) (pc' := 309) d222_308 rfl (by decide) ?_
                            refine r_isub (pc' := 310) d222_309 rfl ?_
                            refine r_istore (pc' := 312) (ls' := [(6, vI _), (4, vI _), (0, vR (some 50)), (1, vI _), (2, vI _), (3, vI _), (5, vI _), (7, vI _), (8, vI _)]) d222_310 rfl (by decide) rfl ?_
                            refine r_iinc (v := _ + 1) (pc' := 315) (ls' := [(7, vI _), (6, vI _), (4, vI _), (0, vR (some 50)), (1, vI _), (2, vI _), (3, vI _), (5, vI _), (8, vI _)]) d222_312 rfl rfl rfl (by decide) rfl ?_
                            refine r_goto 133 d222_315 rfl ?_
                            refine wp_pick (ls' := [(0, vR (some 50)), (1, vI _), (2, vI _), (3, vI _), (4, vI _), (5, vI _), (6, vI _), (7, vI _)]) [3, 4, 5, 6, 2, 7, 1, 0] rfl ?_
                            have hv3 : svF (hi h 51) CB k e (hi h 51 19 + nI n) le0 ye0 q k 0 = nI t := hv2
                            rw [hv3] at ih2 hG0
                            rw [if_neg (nI_none (by omega)), if_neg (nI_none (by omega))] at ih2
                            refine wp_heap (h' := setw (jk (setw h 62 CB) x (hold66 (hi h 51) (hi h 61))) 63 (mix (svG (hi h 51) CB k e (hi h 51 19 + nI n)) (hi h 63) 0 (q + 1))) (congrArg (setw _ 63) (mix0_v _ _ q hG0.symm)) ?_
                            rw [nI_1]
                            exact ih2
                          · refine r_aload_n (pc' := 168) d222_167 rfl rfl rfl ?_
                            refine r_getS (pc' := 171) d222_168 rfl o222 sf12_47_12 sh50 (pl hN rfl) (rfm21 hM) ?_
                            refine r_iload (pc' := 173) d222_171 rfl rfl ?_
                            refine r_ialdN (pc' := 174) (j := q) d222_173 rfl sh63 (pl hN rfl) rfl (by omega) (by decide) ?_
                            refine wp_v (show _ = nI t from upd_at _ _ _) ?_
                            refine r_ldc (pc' := 176) d222_174 rfl o222 kc12_53 ?_
                            refine r_icmp_ne 258 (pc' := 179) d222_176 rfl rfl (fun c176 => ?_) (fun c176 => absurd c176 (nI_none (by omega)))
                            refine r_iload (pc' := 260) d222_258 rfl rfl ?_
                            refine r_aload_n (pc' := 261) d222_260 rfl rfl rfl ?_
                            refine r_getS (pc' := 264) d222_261 rfl o222 sf12_47_12 sh50 (pl hN rfl) (rfm21 hM) ?_
                            refine r_iload (pc' := 266) d222_264 rfl rfl ?_
                            refine r_ialdN (pc' := 267) (j := q) d222_266 rfl sh63 (pl hN rfl) rfl (by omega) (by decide) ?_
                            refine wp_v (show _ = nI t from upd_at _ _ _) ?_
                            refine r_ldc (pc' := 269) d222_267 rfl o222 kc12_53 ?_
                            refine r_icmp_ne 276 (pc' := 272) d222_269 rfl rfl (fun c269 => ?_) (fun c269 => absurd c269 (nI_none (by omega)))
                            refine r_iconst (v := 1) (pc' := 277) d222_276 rfl (by decide) ?_
                            refine r_aload_n (pc' := 278) d222_277 rfl rfl rfl ?_
                            refine r_getS (pc' := 281) d222_278 rfl o222 sf12_47_12 sh50 (pl hN rfl) (rfm21 hM) ?_
                            refine r_iload (pc' := 283) d222_281 rfl rfl ?_
                            refine r_ialdN (pc' := 284) (j := q) d222_283 rfl sh63 (pl hN rfl) rfl (by omega) (by decide) ?_
                            refine wp_v (show _ = nI t from upd_at _ _ _) ?_
                            refine r_ishl (pc' := 285) d222_284 rfl ?_
                            refine r_iconst (v := (-1)) (pc' := 286) d222_285 rfl (by decide) ?_
                            refine r_ixor (pc' := 287) d222_286 rfl ?_
                            refine r_iand (pc' := 288) d222_287 rfl ?_
                            refine r_istore (pc' := 290) (ls' := [(4, vI _), (0, vR (some 50)), (1, vI _), (2, vI _), (3, vI _), (5, vI _), (6, vI _), (7, vI _), (8, vI _)]) d222_288 rfl (by decide) rfl ?_
                            refine r_iload (pc' := 292) d222_290 rfl rfl ?_
                            refine r_aload_n (pc' := 293) d222_292 rfl rfl rfl ?_
                            refine r_getS (pc' := 296) d222_293 rfl o222 sf12_47_12 sh50 (pl hN rfl) (rfm21 hM) ?_
                            refine r_iload (pc' := 298) d222_296 rfl rfl ?_
                            refine r_ialdN (pc' := 299) (j := q) d222_298 rfl sh63 (pl hN rfl) rfl (by omega) (by decide) ?_
                            refine wp_v (show _ = nI t from upd_at _ _ _) ?_
                            refine r_ldc (pc' := 301) d222_299 rfl o222 kc12_53 ?_
                            refine r_icmp_ne 308 (pc' := 304) d222_301 rfl rfl (fun c301 => ?_) (fun c301 => absurd c301 (nI_none (by omega)))
                            refine r_iconst (v := 1) (pc' := 309) d222_308 rfl (by decide) ?_
                            refine r_isub (pc' := 310) d222_309 rfl ?_
                            refine r_istore (pc' := 312) (ls' := [(6, vI _), (4, vI _), (0, vR (some 50)), (1, vI _), (2, vI _), (3, vI _), (5, vI _), (7, vI _), (8, vI _)]) d222_310 rfl (by decide) rfl ?_
                            refine r_iinc (v := _ + 1) (pc' := 315) (ls' := [(7, vI _), (6, vI _), (4, vI _), (0, vR (some 50)), (1, vI _), (2, vI _), (3, vI _), (5, vI _), (8, vI _)]) d222_312 rfl rfl rfl (by decide) rfl ?_
                            refine r_goto 133 d222_315 rfl ?_
                            refine wp_pick (ls' := [(0, vR (some 50)), (1, vI _), (2, vI _), (3, vI _), (4, vI _), (5, vI _), (6, vI _), (7, vI _)]) [3, 4, 5, 6, 2, 7, 1, 0] rfl ?_
                            have hv3 : svF (hi h 51) CB k e (hi h 51 19 + nI n) le0 ye0 q k 0 = nI t := hv2
                            rw [hv3] at ih2 hG0
                            rw [if_neg (nI_none (by omega)), if_neg (nI_none (by omega))] at ih2
                            refine wp_heap (h' := setw (jk (setw h 62 CB) x (hold66 (hi h 51) (hi h 61))) 63 (mix (svG (hi h 51) CB k e (hi h 51 19 + nI n)) (hi h 63) 0 (q + 1))) (congrArg (setw _ 63) (mix0_v _ _ q hG0.symm)) ?_
                            rw [nI_1]
                            exact ih2
                exact loop3 k 0 (by omega) rfl
            refine wp_heap (h' := setw (jk (setw h 62 CB) x (hold66 (hi h 51) (hi h 61))) 63 (mix (svG (hi h 51) CB k e (hi h 51 19 + nI n)) (hi h 63) 0 0)) (by rw [mix_0]; exact (setw_self _ 63).symm) ?_
            exact loop2 e 0 (by omega)
          | succ r ih =>
            intro k hk
            refine r_iload (pc' := 63) d222_61 rfl rfl ?_
            refine r_aload_n (pc' := 64) d222_63 rfl rfl rfl ?_
            refine r_getS (pc' := 67) d222_64 rfl o222 sf12_7_12 sh50 (pl hN rfl) (rfm0 hM) ?_
            refine r_iconst (v := 1) (pc' := 68) d222_67 rfl (by decide) ?_
            refine r_ialdN (pc' := 69) (j := 1) d222_68 rfl sh51 (pl hN rfl) rfl (by omega) (by decide) ?_
            refine r_icmp_ge 108 (pc' := 72) d222_69 rfl rfl (fun c69 => absurd c69 (show ¬ gmN (hi h 51) m L n 1 ≤ nI k by rw [gmN_lo _ _ _ _ _ (by decide) (by decide) (by decide) hc4, hc1]; exact nI_ge (by omega) (by omega))) (fun c69 => ?_)
            refine r_aload_n (pc' := 73) d222_72 rfl rfl rfl ?_
            refine r_getS (pc' := 76) d222_73 rfl o222 sf12_44_12 sh50 (pl hN rfl) (rfm20 hM) ?_
            refine r_iload (pc' := 78) d222_76 rfl rfl ?_
            refine r_aload_n (pc' := 79) d222_78 rfl rfl rfl ?_
            refine r_iload (pc' := 81) d222_79 rfl rfl ?_
            refine r_call (pc' := 84) [vR (some 50), vI _] [vI _, vR (some 62)] d222_81 rfl o222 st12_178_12 (rcv1 sh50 (pl hN rfl)) rfl (by decide) ⟨rfl, rfl⟩ (Nat.le_of_ble_eq_true rfl) rfl (s_isGone hN hM (by omega) ?_)
            refine r_if_neB 100 (pc' := 87) d222_84 rfl rfl (fun c84 => ?_) (fun c84 => ?_)
            · refine r_iconst (v := 0) (pc' := 101) d222_100 rfl (by decide) ?_
              refine r_bastN (pc' := 102) (j := k) d222_101 rfl sh62 (pl hN rfl) rfl (by omega) (by decide) (Or.inl rfl) ?_
              refine r_iinc (v := _ + 1) (pc' := 105) (ls' := [(4, vI _), (0, vR (some 50)), (1, vI _), (2, vI _), (3, vI _)]) d222_102 rfl rfl rfl (by decide) rfl ?_
              refine r_goto 61 d222_105 rfl ?_
              refine wp_pick (ls' := [(0, vR (some 50)), (1, vI _), (2, vI _), (3, vI _), (4, vI _)]) [1, 2, 3, 4, 0] rfl ?_
              refine wp_heap (h' := (setw (fw h (hold66 (hi h 51) (hi h 61)) x (gmN (hi h 51) m L n)) 62 (mix (cbF (gmN (hi h 51) m L n)) (hi h 62) 0 (k + 1)))) ((seti_setw _ _ _ _ _).trans (congrArg (setw _ _) (mix0_v (cbF (gmN (hi h 51) m L n)) (hi h 62) k (if_neg (fun z => z.1 c84)).symm))) ?_
              rw [nI_1]
              exact ih (k + 1) (by omega)
            · refine r_aload_n (pc' := 88) d222_87 rfl rfl rfl ?_
              refine r_iload (pc' := 90) d222_88 rfl rfl ?_
              refine r_call (pc' := 93) [vR (some 50), vI _] [vI _, vR (some 62)] d222_90 rfl o222 st12_210_12 (rcv1 sh50 (pl hN rfl)) rfl (by decide) ⟨rfl, rfl⟩ (Nat.le_of_ble_eq_true rfl) rfl (s_isWell hN hM (by omega) ?_)
              refine r_if_eqB 100 (pc' := 96) d222_93 rfl rfl (fun c93 => ?_) (fun c93 => ?_)
              · refine r_iconst (v := 0) (pc' := 101) d222_100 rfl (by decide) ?_
                refine r_bastN (pc' := 102) (j := k) d222_101 rfl sh62 (pl hN rfl) rfl (by omega) (by decide) (Or.inl rfl) ?_
                refine r_iinc (v := _ + 1) (pc' := 105) (ls' := [(4, vI _), (0, vR (some 50)), (1, vI _), (2, vI _), (3, vI _)]) d222_102 rfl rfl rfl (by decide) rfl ?_
                refine r_goto 61 d222_105 rfl ?_
                refine wp_pick (ls' := [(0, vR (some 50)), (1, vI _), (2, vI _), (3, vI _), (4, vI _)]) [1, 2, 3, 4, 0] rfl ?_
                refine wp_heap (h' := (setw (fw h (hold66 (hi h 51) (hi h 61)) x (gmN (hi h 51) m L n)) 62 (mix (cbF (gmN (hi h 51) m L n)) (hi h 62) 0 (k + 1)))) ((seti_setw _ _ _ _ _).trans (congrArg (setw _ _) (mix0_v (cbF (gmN (hi h 51) m L n)) (hi h 62) k (if_neg (fun z => c93 z.2)).symm))) ?_
                rw [nI_1]
                exact ih (k + 1) (by omega)
              · refine r_iconst (v := 1) (pc' := 97) d222_96 rfl (by decide) ?_
                refine r_goto 101 d222_97 rfl ?_
                refine r_bastN (pc' := 102) (j := k) d222_101 rfl sh62 (pl hN rfl) rfl (by omega) (by decide) (Or.inr rfl) ?_
                refine r_iinc (v := _ + 1) (pc' := 105) (ls' := [(4, vI _), (0, vR (some 50)), (1, vI _), (2, vI _), (3, vI _)]) d222_102 rfl rfl rfl (by decide) rfl ?_
                refine r_goto 61 d222_105 rfl ?_
                refine wp_pick (ls' := [(0, vR (some 50)), (1, vI _), (2, vI _), (3, vI _), (4, vI _)]) [1, 2, 3, 4, 0] rfl ?_
                refine wp_heap (h' := (setw (fw h (hold66 (hi h 51) (hi h 61)) x (gmN (hi h 51) m L n)) 62 (mix (cbF (gmN (hi h 51) m L n)) (hi h 62) 0 (k + 1)))) ((seti_setw _ _ _ _ _).trans (congrArg (setw _ _) (mix0_v (cbF (gmN (hi h 51) m L n)) (hi h 62) k (if_pos ⟨c84, c93⟩).symm))) ?_
                rw [nI_1]
                exact ih (k + 1) (by omega)
        refine wp_heap (h' := (setw (fw h (hold66 (hi h 51) (hi h 61)) x (gmN (hi h 51) m L n)) 62 (mix (cbF (gmN (hi h 51) m L n)) (hi h 62) 0 0))) (by rw [mix_0]; exact (setw_self _ 62).symm) ?_
        exact loop m 0 (by omega)
      · refine r_ldc (pc' := 38) d222_36 rfl o222 kc12_67 ?_
        exact r_iretI d222_38 rfl (kB c4 (by first | exact Or.inl c17 | exact Or.inr (by rw [show hi h 51 2 = nI e from hc5] at c33; exact c33)))
  · refine r_ldc (pc' := 9) d222_7 rfl o222 kc12_187 ?_
    exact r_iretI d222_9 rfl (kS c4)
