/-! the class: flips (printed by wip/whole/m62.py) -/
def bcS (x y : Int32) : Int32 := (x.toUInt32 >>> (y.toUInt32 &&& Int32.toUInt32 31)).toInt32
def bc1 (x : Int32) : Int32 := x - (bcS x 1 &&& 1431655765)
def bc2 (x : Int32) : Int32 := (x &&& 858993459) + (bcS x 2 &&& 858993459)
def bc3 (x : Int32) : Int32 := (x + bcS x 4) &&& 252645135
def bc4 (x : Int32) : Int32 := x + bcS x 8
def bc5 (x : Int32) : Int32 := x + bcS x 16
def bcE (x : Int32) : Int32 := bc5 (bc4 (bc3 (bc2 (bc1 x)))) &&& 63
theorem bcE_0 : ∀ a, a < 64 → ∀ c, c < 64 → nI (popc (64 * a + c)) = bcE (nI (64 * a + c)) := by decide +kernel
theorem bcE_n (b : Nat) (hb : b < 4096) : nI (popc b) = bcE (nI b) := by
  have z := bcE_0 (b / 64) (by omega) (b % 64) (Nat.mod_lt _ (by decide))
  rw [show 64 * (b / 64) + b % 64 = b by omega] at z
  exact z
theorem j_bitCount {d : Nat} {h : Hp} {Q : Option AV → Hp → Prop} {z : Nat} (hz : z < 4096) (k : Q (some (vI (nI (popc z)))) h) : Spec d 248 [vI (nI z)] h Q := by
  refine spec_intro (by decide +kernel) rfl (Nat.le_of_ble_eq_true rfl) ?_
  refine r_iload_n (pc' := 1) d248_0 rfl rfl rfl ?_
  refine r_iload_n (pc' := 2) d248_1 rfl rfl rfl ?_
  refine r_iconst (v := 1) (pc' := 3) d248_2 rfl (by decide) ?_
  refine r_iushr (pc' := 4) d248_3 rfl ?_
  refine r_ldcw (pc' := 7) d248_4 rfl o248 kcJ_265 ?_
  refine r_iand (pc' := 8) d248_7 rfl ?_
  refine r_isub (pc' := 9) d248_8 rfl ?_
  refine r_istore_n (pc' := 10) (ls' := [(0, vI _)]) d248_9 rfl rfl (by decide) rfl ?_
  refine r_iload_n (pc' := 11) d248_10 rfl rfl rfl ?_
  refine r_ldcw (pc' := 14) d248_11 rfl o248 kcJ_266 ?_
  refine r_iand (pc' := 15) d248_14 rfl ?_
  refine r_iload_n (pc' := 16) d248_15 rfl rfl rfl ?_
  refine r_iconst (v := 2) (pc' := 17) d248_16 rfl (by decide) ?_
  refine r_iushr (pc' := 18) d248_17 rfl ?_
  refine r_ldcw (pc' := 21) d248_18 rfl o248 kcJ_266 ?_
  refine r_iand (pc' := 22) d248_21 rfl ?_
  refine r_iadd (pc' := 23) d248_22 rfl ?_
  refine r_istore_n (pc' := 24) (ls' := [(0, vI _)]) d248_23 rfl rfl (by decide) rfl ?_
  refine r_iload_n (pc' := 25) d248_24 rfl rfl rfl ?_
  refine r_iload_n (pc' := 26) d248_25 rfl rfl rfl ?_
  refine r_iconst (v := 4) (pc' := 27) d248_26 rfl (by decide) ?_
  refine r_iushr (pc' := 28) d248_27 rfl ?_
  refine r_iadd (pc' := 29) d248_28 rfl ?_
  refine r_ldcw (pc' := 32) d248_29 rfl o248 kcJ_267 ?_
  refine r_iand (pc' := 33) d248_32 rfl ?_
  refine r_istore_n (pc' := 34) (ls' := [(0, vI _)]) d248_33 rfl rfl (by decide) rfl ?_
  refine r_iload_n (pc' := 35) d248_34 rfl rfl rfl ?_
  refine r_iload_n (pc' := 36) d248_35 rfl rfl rfl ?_
  refine r_bipush (v := 8) (pc' := 38) d248_36 rfl (by decide) ?_
  refine r_iushr (pc' := 39) d248_38 rfl ?_
  refine r_iadd (pc' := 40) d248_39 rfl ?_
  refine r_istore_n (pc' := 41) (ls' := [(0, vI _)]) d248_40 rfl rfl (by decide) rfl ?_
  refine r_iload_n (pc' := 42) d248_41 rfl rfl rfl ?_
  refine r_iload_n (pc' := 43) d248_42 rfl rfl rfl ?_
  refine r_bipush (v := 16) (pc' := 45) d248_43 rfl (by decide) ?_
  refine r_iushr (pc' := 46) d248_45 rfl ?_
  refine r_iadd (pc' := 47) d248_46 rfl ?_
  refine r_istore_n (pc' := 48) (ls' := [(0, vI _)]) d248_47 rfl rfl (by decide) rfl ?_
  refine r_iload_n (pc' := 49) d248_48 rfl rfl rfl ?_
  refine r_bipush (v := 63) (pc' := 51) d248_49 rfl (by decide) ?_
  refine r_iand (pc' := 52) d248_51 rfl ?_
  exact r_iretI d248_52 rfl (qv (bcE_n z hz) k)
theorem bw1 : ∀ x, x < 13 → ∀ y, y < 13 → ((nI x - nI y < 0 ↔ x < y) ∧ (nI x - nI y = 0 ↔ x = y)) := by decide +kernel
theorem bwT {w z : Nat} (hw : w < 4096) (hz : z < 4096) : (nI (popc w) - nI (popc z) < 0 ↔ popc w < popc z) ∧ (nI (popc w) - nI (popc z) = 0 ↔ popc w = popc z) ∧ (nI z ≤ nI w ↔ z ≤ w) := by
  have p1 := popc_le w
  have p2 := popc_le z
  exact ⟨(bw1 _ (by omega) _ (by omega)).1, (bw1 _ (by omega) _ (by omega)).2, nI_leI (by omega) (by omega)⟩
theorem c_isBetterWay {d : Nat} {h : Hp} {Q : Option AV → Hp → Prop} {w z : Nat} (hN : hn h = 65) (hw : w < 4096) (hz : z < 4096) (h15 : hi h 0 15 = nI z) (k : Q (some (vI (bI (popc w < popc z ∨ (popc w = popc z ∧ w < z))))) h) : Spec (d + 1) 122 [vR (some 0), vI (nI w)] h Q := by
  refine spec_intro (by decide +kernel) rfl (Nat.le_of_ble_eq_true rfl) ?_
  refine r_iload_n (pc' := 1) d122_0 rfl rfl rfl ?_
  refine r_call (pc' := 4) [vI _] [] d122_1 rfl o122 st11_325 rcv0 rfl (by decide) ⟨rfl, rfl⟩ (Nat.le_of_ble_eq_true rfl) rfl (j_bitCount hw ?_)
  refine r_aload_n (pc' := 5) d122_4 rfl rfl rfl ?_
  refine r_getI (pc' := 8) d122_5 rfl o122 sf11_318_11 sh0 (pl hN rfl) ?_
  refine wp_v h15 ?_
  refine r_call (pc' := 11) [vI _] [vI _] d122_8 rfl o122 st11_325 rcv0 rfl (by decide) ⟨rfl, rfl⟩ (Nat.le_of_ble_eq_true rfl) rfl (j_bitCount hz ?_)
  refine r_isub (pc' := 12) d122_11 rfl ?_
  refine r_istore_n (pc' := 13) (ls' := [(2, vI _), (0, vR (some 0)), (1, vI _)]) d122_12 rfl rfl (by decide) rfl ?_
  refine r_iload_n (pc' := 14) d122_13 rfl rfl rfl ?_
  refine r_if_lt 29 (pc' := 17) d122_14 rfl rfl (fun c14 => ?_) (fun c14 => ?_)
  · refine r_iconst (v := 1) (pc' := 30) d122_29 rfl (by decide) ?_
    refine r_goto 34 d122_30 rfl ?_
    exact r_iretZ1 d122_34 rfl (qv (b1 (by have z9 := bwT hw hz; first | (rw [z9.1] at c14; omega) | (rw [z9.1] at c14; rw [z9.2.1] at c18; omega) | (rw [z9.1] at c14; rw [z9.2.1] at c18; rw [z9.2.2] at c26; omega))) k)
  · refine r_iload_n (pc' := 18) d122_17 rfl rfl rfl ?_
    refine r_if_ne 33 (pc' := 21) d122_18 rfl rfl (fun c18 => ?_) (fun c18 => ?_)
    · refine r_iconst (v := 0) (pc' := 34) d122_33 rfl (by decide) ?_
      exact r_iretZ0 d122_34 rfl (qv (b0 (by have z9 := bwT hw hz; first | (rw [z9.1] at c14; omega) | (rw [z9.1] at c14; rw [z9.2.1] at c18; omega) | (rw [z9.1] at c14; rw [z9.2.1] at c18; rw [z9.2.2] at c26; omega))) k)
    · refine r_iload_n (pc' := 22) d122_21 rfl rfl rfl ?_
      refine r_aload_n (pc' := 23) d122_22 rfl rfl rfl ?_
      refine r_getI (pc' := 26) d122_23 rfl o122 sf11_318_11 sh0 (pl hN rfl) ?_
      refine wp_v h15 ?_
      refine r_icmp_ge 33 (pc' := 29) d122_26 rfl rfl (fun c26 => ?_) (fun c26 => ?_)
      · refine r_iconst (v := 0) (pc' := 34) d122_33 rfl (by decide) ?_
        exact r_iretZ0 d122_34 rfl (qv (b0 (by have z9 := bwT hw hz; first | (rw [z9.1] at c14; omega) | (rw [z9.1] at c14; rw [z9.2.1] at c18; omega) | (rw [z9.1] at c14; rw [z9.2.1] at c18; rw [z9.2.2] at c26; omega))) k)
      · refine r_iconst (v := 1) (pc' := 30) d122_29 rfl (by decide) ?_
        refine r_goto 34 d122_30 rfl ?_
        exact r_iretZ1 d122_34 rfl (qv (b1 (by have z9 := bwT hw hz; first | (rw [z9.1] at c14; omega) | (rw [z9.1] at c14; rw [z9.2.1] at c18; omega) | (rw [z9.1] at c14; rw [z9.2.1] at c18; rw [z9.2.2] at c26; omega))) k)
theorem GI.w49 {h : Hp} {b m L e : Nat} {W : Nat → Int32} (g : GI h b m L e) (hb : b = 17 ∨ b = 31) : GI (setw h 49 W) b m L e :=
  g.of rfl rfl (by rw [hi_setw_ne _ _ _ _ (by omega)]) (by rw [hi_setw_ne _ _ _ _ (by omega)]) (by rw [hi_setw_ne _ _ _ _ (by omega)]) (fun q hq => hi_setw_ne _ _ _ _ (by omega))
theorem GI.b15 {h : Hp} {b m L e : Nat} {v : Int32} (g : GI h b m L e) (hb : b = 17 ∨ b = 31) : GI (seti h 0 15 v) b m L e :=
  g.of rfl rfl (by rw [hi_seti_ne _ _ _ _ _ (by omega)]) (by rw [hi_seti_ne _ _ _ _ _ (by omega)]) (by rw [hi_seti_ne _ _ _ _ _ (by omega)]) (fun q hq => hi_seti_ne _ _ _ _ _ (by omega))
def fwF (h : Hp) (b L : Nat) (cell : Int32) : Nat → Int32 := fun k => wmV (hi h b) (hi h (b + 1)) (hi h (b + 2)) (hi h (b + 3)) L cell (nI k)
def fwH (h : Hp) (b L : Nat) (cell : Int32) (k : Nat) : Hp := setw h 49 (mix (fwF h b L cell) (hi h 49) 0 k)
theorem fwH_o {h : Hp} {b L : Nat} {cell : Int32} {k y : Nat} (hy : y ≠ 49) : hi (fwH h b L cell k) y = hi h y := hi_setw_ne _ _ _ _ hy
theorem fwH_gi {h : Hp} {b m L e : Nat} {cell : Int32} {k : Nat} (g : GI h b m L e) (hb : b = 17 ∨ b = 31) : GI (fwH h b L cell k) b m L e := g.w49 hb
theorem fwH_s {h : Hp} {b L : Nat} {cell : Int32} {k : Nat} {v : Int32} (hv : v = fwF h b L cell k) : seti (fwH h b L cell k) 49 k v = fwH h b L cell (k + 1) := by
  unfold fwH; rw [seti_setw, mix0_v _ _ _ hv]
theorem y_warmW {d : Nat} {h : Hp} {Q : Option AV → Hp → Prop} {b m L e k : Nat} {cell cl n : Int32} (g : GI h b m L e) (hb : b = 17 ∨ b = 31) (kk : Q (some (vI (wmV (hi h b) (hi h (b + 1)) (hi h (b + 2)) (hi h (b + 3)) L cl n))) (fwH h b L cell k)) : Spec (d + 2) 71 [vR (some b), vI cl, vI n] (fwH h b L cell k) Q := by
  have g2 := fwH_gi (cell := cell) (k := k) g hb
  refine y_warmthIn g2.1 g2.2.1 hb g2.2.2.2.1 ?_
  rw [fwH_o (by omega), fwH_o (by omega), fwH_o (by omega), fwH_o (by omega)]
  exact kk
theorem c_foretellWarmth {d : Nat} {h : Hp} {Q : Option AV → Hp → Prop} {b m L e n : Nat} {cell : Int32} (g : GI h b m L e) (hb : b = 17 ∨ b = 31) (hn60 : n ≤ 60) (kk : Q none (fwH h b L cell n)) : Spec (d + 3) 119 [vR (some 0), vI cell, vI (nI n)] h Q := by
  obtain ⟨hN, hC, h5, hc, hK, hT⟩ := id g
  refine spec_intro (by decide +kernel) rfl (Nat.le_of_ble_eq_true rfl) ?_
  refine r_iconst (v := 0) (pc' := 1) d119_0 rfl (by decide) ?_
  refine r_istore_n (pc' := 2) (ls' := [(3, vI _), (0, vR (some 0)), (1, vI _), (2, vI _)]) d119_1 rfl rfl (by decide) rfl ?_
  refine wp_pick (ls' := [(0, vR (some 0)), (1, vI _), (2, vI _), (3, vI _)]) [1, 2, 3, 0] rfl ?_
  have loop : ∀ (r k : Nat), k + r = n → wp (d + 3) 119 Q 0 0 2 [(0, vR (some 0)), (1, vI cell), (2, vI (nI n)), (3, vI (nI k))] [] (fwH h b L cell k) := by
    intro r
    induction r with
    | zero =>
      intro k hk
      obtain ⟨gN, gC, g5, gc, gK, gT⟩ := fwH_gi (cell := cell) (k := k) g hb
      obtain rfl : k = n := by omega
      refine r_iload_n (pc' := 3) d119_2 rfl rfl rfl ?_
      refine r_iload_n (pc' := 4) d119_3 rfl rfl rfl ?_
      refine r_icmp_ge 37 (pc' := 7) d119_4 rfl rfl (fun c4 => ?_) (fun c4 => absurd (nI_le (Nat.le_refl _) (by omega)) c4)
      exact r_ret d119_37 rfl kk
    | succ r ih =>
      intro k hk
      obtain ⟨gN, gC, g5, gc, gK, gT⟩ := fwH_gi (cell := cell) (k := k) g hb
      refine r_iload_n (pc' := 3) d119_2 rfl rfl rfl ?_
      refine r_iload_n (pc' := 4) d119_3 rfl rfl rfl ?_
      refine r_icmp_ge 37 (pc' := 7) d119_4 rfl rfl (fun c4 => absurd c4 (nI_ge (by omega) (by omega))) (fun c4 => ?_)
      refine r_iload_n (pc' := 8) d119_7 rfl rfl rfl ?_
      refine r_aload_n (pc' := 9) d119_8 rfl rfl rfl ?_
      refine r_getS (pc' := 12) d119_9 rfl o119 sf11_73_11 sh0 (pl gN rfl) (rfc0_14 gC) ?_
      refine r_alen (pc' := 13) d119_12 rfl sh49 (by decide) (pl gN rfl) ?_
      refine r_icmp_ge 37 (pc' := 16) d119_13 rfl rfl (fun c13 => absurd c13 (nI_ge (a := k) (b := 60) (by omega) (by decide))) (fun c13 => ?_)
      refine r_aload_n (pc' := 17) d119_16 rfl rfl rfl ?_
      refine r_getS (pc' := 20) d119_17 rfl o119 sf11_73_11 sh0 (pl gN rfl) (rfc0_14 gC) ?_
      refine r_iload_n (pc' := 21) d119_20 rfl rfl rfl ?_
      refine r_aload_n (pc' := 22) d119_21 rfl rfl rfl ?_
      refine r_getS (pc' := 25) d119_22 rfl o119 sf11_52_11 sh0 (pl gN rfl) g5 ?_
      refine r_iload_n (pc' := 26) d119_25 rfl rfl rfl ?_
      refine r_iload_n (pc' := 27) d119_26 rfl rfl rfl ?_
      refine r_call (pc' := 30) [vR (some b), vI _, vI _] [vI _, vR (some 49)] d119_27 rfl o119 st11_291_10 (rcv1 (shY hb) (plo gN (by omega))) rfl (by decide) ⟨rfl, rfl⟩ (Nat.le_of_ble_eq_true rfl) rfl (y_warmW g hb ?_)
      refine r_iastN (pc' := 31) (j := k) d119_30 rfl sh49 (pl gN rfl) rfl (by omega) (by decide) ?_
      refine r_iinc (v := _ + 1) (pc' := 34) (ls' := [(3, vI _), (0, vR (some 0)), (1, vI _), (2, vI _)]) d119_31 rfl rfl rfl (by decide) rfl ?_
      refine r_goto 2 d119_34 rfl ?_
      refine wp_pick (ls' := [(0, vR (some 0)), (1, vI _), (2, vI _), (3, vI _)]) [1, 2, 3, 0] rfl ?_
      rw [nI_1]
      refine wp_heap (fwH_s (h := h) (b := b) (L := L) (cell := cell) (k := k) rfl) ?_
      exact ih (k + 1) (by omega)
  have z := loop n 0 (by omega)
  unfold fwH at z
  rw [mix_0, setw_self] at z
  exact z
def fH (h : Hp) (q : Nat) (f : Nat → Int32) (o : Option Nat) : Hp := tH (seti h 0 15 (oN o)) q f
theorem fH_gi {h : Hp} {b m L e q : Nat} {f : Nat → Int32} {o : Option Nat} (g : GI h b m L e) (hb : b = 17 ∨ b = 31) : GI (fH h q f o) b m L e := (g.b15 hb).t hb
theorem fH_16 {h : Hp} {q : Nat} {f : Nat → Int32} {o : Option Nat} : hi (fH h q f o) 16 = f := tH_16
theorem fH_b {h : Hp} {q : Nat} {f : Nat → Int32} {o : Option Nat} : hi (fH h q f o) 0 15 = oN o := by
  unfold fH; rw [tH_o (by decide), hi_seti_row]; exact upd_at _ _ _
theorem fH_o {h : Hp} {q y : Nat} {f : Nat → Int32} {o : Option Nat} (h0 : y ≠ 0) (h1 : y ≠ 16) : hi (fH h q f o) y = hi h y := by
  unfold fH; rw [tH_o h1, hi_seti_ne _ _ _ _ _ h0]
theorem fH_i (h : Hp) (q j : Nat) (f : Nat → Int32) (v : Int32) (o : Option Nat) : seti (fH h q f o) 16 j v = fH h q (upd f j v) o := tH_i _ _ _ _ _
theorem fH_w (h : Hp) (q : Nat) (f f' : Nat → Int32) (o : Option Nat) : setw (fH h q f o) 16 f' = fH h q f' o := tH_w _ _ _ _
theorem fH_s (h : Hp) (q z : Nat) (f : Nat → Int32) (o : Option Nat) : seti (fH h q f o) 0 15 (nI z) = fH h q f (some z) := by
  refine hp_ext rfl (fun x y => ?_) (fun x y => rfl)
  unfold fH
  by_cases h0 : x = 0
  · subst h0
    rw [hi_seti_row, tH_o (by decide), tH_o (by decide), hi_seti_row, hi_seti_row]
    unfold upd
    by_cases hy : y = 15 <;> simp [hy, oN]
  · rw [hi_seti_ne _ _ _ _ _ h0]
    by_cases h1 : x = 16
    · subst h1; rw [tH_16, tH_16]
    · rw [tH_o h1, tH_o h1, hi_seti_ne _ _ _ _ _ h0, hi_seti_ne _ _ _ _ _ h0]
def fmL (q : Nat) (fi wi lo : Int32) : Int32 := lo + (fi + (if 0 < fi ∧ 10 ≤ lo ∧ drK q then 3 else 0) + wi)
def fmU (up : Int32) : Int32 := mx0 (up - 2)
def fmC (q : Nat) (fi wi lo up co : Int32) : Int32 := co + (fmL q fi wi lo + fmU up) / thK q
abbrev fmB (q : Nat) (fi wi lo up : Int32) : Prop := lmK q < fmL q fi wi lo ∨ lmK q < fmU up
theorem ro_2 (q : Nat) (fi wi : Int32) (f : Nat → Int32) : roastV q fi wi f 2 = f 2 := rfl
theorem ro_3 (q : Nat) (fi wi : Int32) (f : Nat → Int32) : roastV q fi wi f 3 = fmC q fi wi (f 4) (f 5) (f 3) := rfl
theorem ro_4 (q : Nat) (fi wi : Int32) (f : Nat → Int32) : roastV q fi wi f 4 = fmL q fi wi (f 4) := rfl
theorem ro_5 (q : Nat) (fi wi : Int32) (f : Nat → Int32) : roastV q fi wi f 5 = fmU (f 5) := rfl
theorem ro_7 (q : Nat) (fi wi : Int32) (f : Nat → Int32) : roastV q fi wi f 7 = if ¬ f 7 = 0 ∨ fmB q fi wi (f 4) (f 5) then 1 else 0 := rfl
theorem y_windF {d : Nat} {h : Hp} {Q : Option AV → Hp → Prop} {b m L e q : Nat} {cell : Int32} {f : Nat → Int32} {o : Option Nat} (g : GI h b m L e) (hb : b = 17 ∨ b = 31) (k : Q (some (vI (windV (hi h b) cell))) (fH h q f o)) : Spec d 73 [vR (some b), vI cell] (fH h q f o) Q := by
  have g2 := fH_gi (q := q) (f := f) (o := o) g hb
  refine y_windIn g2.1 hb ?_
  rw [fH_o (by omega) (by omega)]
  exact k
theorem t_roastF {d : Nat} {h : Hp} {Q : Option AV → Hp → Prop} {b m L e q : Nat} {fi wi : Int32} {f : Nat → Int32} {o : Option Nat} (g : GI h b m L e) (hb : b = 17 ∨ b = 31) (hq6 : q < 6) (k : Q none (fH h q (roastV q fi wi f) o)) : Spec (d + 2) 53 [vR (some 16), vI fi, vI wi] (fH h q f o) Q := by
  have g2 := fH_gi (q := q) (f := f) (o := o) g hb
  refine t_roastBy g2.1 sh16 (by decide) g2.2.2.2.2.1 tH_k hq6 ?_
  rw [fH_16, fH_w]
  exact k
def betB (o : Option Nat) (w : Nat) : Bool := match o with
  | none => true
  | some z => decide (popc w < popc z ∨ (popc w = popc z ∧ w < z))
def tmF (T : Int32 → Int32 → Int32 → Option Nat → Option Nat) (q : Nat) (fi wi lo up co : Int32) (o : Option Nat) : Option Nat := if fmB q fi wi lo up then o else T (fmL q fi wi lo) (fmU up) (fmC q fi wi lo up co) o
def tfF (W : Nat → Int32) (wi : Int32) (q n : Nat) : Nat → Nat → Int32 → Int32 → Int32 → Option Nat → Option Nat
  | 0, w, _, _, co, o => if betB o w = true then (if ndK q ≤ co then some w else o) else o
  | r + 1, w, lo, up, co, o => if betB o w = true then tmF (fun a b c z => tfF W wi q n r (w + 2 ^ (n - (r + 1))) a b c z) q (W (n - (r + 1))) wi up lo co (tmF (fun a b c z => tfF W wi q n r w a b c z) q (W (n - (r + 1))) wi lo up co o) else o
theorem or_pow : ∀ k, k < 12 → ∀ w, w < 2 ^ k → nI w ||| ((1 : Int32) <<< (nI k &&& 31)) = nI (w + 2 ^ k) := by decide +kernel
theorem pow_le12 : ∀ k, k ≤ 12 → 2 ^ k ≤ 4096 := by decide
theorem pow_s {n r : Nat} (h : r + 1 ≤ n) : 2 ^ (n - r) = 2 ^ (n - (r + 1)) + 2 ^ (n - (r + 1)) := by
  rw [show n - r = (n - (r + 1)) + 1 by omega, Nat.pow_succ]; omega
def ob4 (o : Option Nat) : Prop := ∀ z, o = some z → z < 4096
theorem tmF_ob4 {T : Int32 → Int32 → Int32 → Option Nat → Option Nat} (hT : ∀ a b c z, ob4 z → ob4 (T a b c z)) (q : Nat) (fi wi lo up co : Int32) {o : Option Nat} (ho : ob4 o) : ob4 (tmF T q fi wi lo up co o) := by
  unfold tmF; split
  · exact ho
  · exact hT _ _ _ _ ho
theorem tfF_ob4 (W : Nat → Int32) (wi : Int32) (q n : Nat) (hn : n ≤ 12) : ∀ r, r ≤ n → ∀ w, w < 2 ^ (n - r) → ∀ lo up co o, ob4 o → ob4 (tfF W wi q n r w lo up co o) := by
  intro r
  induction r with
  | zero =>
    intro _ w hw lo up co o ho
    unfold tfF
    have := pow_le12 (n - 0) (by omega)
    split
    · split
      · intro z hz; cases hz; omega
      · exact ho
    · exact ho
  | succ r ih =>
    intro hr w hw lo up co o ho
    unfold tfF
    have := pow_s hr
    split
    · exact tmF_ob4 (fun a b c z hz => ih (by omega) _ (by omega) a b c z hz) _ _ _ _ _ _ (tmF_ob4 (fun a b c z hz => ih (by omega) _ (by omega) a b c z hz) _ _ _ _ _ _ ho)
    · exact ho
theorem c_tryMinute {h : Hp} {Q : Option AV → Hp → Prop} {b m L e q n r : Nat} (g : GI h b m L e) (hb : b = 17 ∨ b = 31) (hq6 : q < 6) (hn12 : n ≤ 12) (hr : r + 1 ≤ n)
    (ih : ∀ (D w : Nat) (lo up co : Int32) (o : Option Nat) (f : Nat → Int32) (Q : Option AV → Hp → Prop), 2 * r + 2 ≤ D → w < 2 ^ (n - r) → ob4 o → f 7 = 0 → (∀ f', f' 7 = 0 → f' 2 = f 2 → Q none (fH h q f' (tfF (hi h 49) (windV (hi h b) (f 2)) q n r w lo up co o))) → Spec D 120 [vR (some 0), vI (nI (n - r)), vI (nI n), vI (nI w), vI lo, vI up, vI co] (fH h q f o) Q)
    (D w : Nat) (lo up co : Int32) (o : Option Nat) (f : Nat → Int32) (hD : 2 * r + 3 ≤ D) (hw : w < 2 ^ (n - r)) (ho : ob4 o) (hf : f 7 = 0)
    (kk : ∀ f', f' 7 = 0 → f' 2 = f 2 → Q none (fH h q f' (tmF (fun a b' c z => tfF (hi h 49) (windV (hi h b) (f 2)) q n r w a b' c z) q (hi h 49 (n - (r + 1))) (windV (hi h b) (f 2)) lo up co o))) : Spec D 121 [vR (some 0), vI (nI (n - (r + 1))), vI (nI n), vI (nI w), vI lo, vI up, vI co] (fH h q f o) Q := by
  obtain ⟨d, rfl⟩ : ∃ d, D = d + 3 := ⟨D - 3, by omega⟩
  obtain ⟨gN, gC, g5, gc, gK, gT⟩ := fH_gi (q := q) (f := f) (o := o) g hb
  refine spec_intro (by decide +kernel) rfl (Nat.le_of_ble_eq_true rfl) ?_
  refine r_aload_n (pc' := 1) d121_0 rfl rfl rfl ?_
  refine r_getS (pc' := 4) d121_1 rfl o121 sf11_43_11 sh0 (pl gN rfl) (rfc0_4 gC) ?_
  refine r_iload (pc' := 6) d121_4 rfl rfl ?_
  refine r_putI (pc' := 9) d121_6 rfl o121 sp11_285_8 sh16 (fun w => absurd w (by decide)) (Or.inl rfl) (pl gN rfl) ?_
  refine r_aload_n (pc' := 10) d121_9 rfl rfl rfl ?_
  refine r_getS (pc' := 13) d121_10 rfl o121 sf11_43_11 sh0 (pl gN rfl) (rfc0_4 gC) ?_
  refine r_iload (pc' := 15) d121_13 rfl rfl ?_
  refine r_putI (pc' := 18) d121_15 rfl o121 sp11_288_8 sh16 (fun w => absurd w (by decide)) (Or.inl rfl) (pl gN rfl) ?_
  refine r_aload_n (pc' := 19) d121_18 rfl rfl rfl ?_
  refine r_getS (pc' := 22) d121_19 rfl o121 sf11_43_11 sh0 (pl gN rfl) (rfc0_4 gC) ?_
  refine r_iload (pc' := 24) d121_22 rfl rfl ?_
  refine r_putI (pc' := 27) d121_24 rfl o121 sp11_244_8 sh16 (fun w => absurd w (by decide)) (Or.inl rfl) (pl gN rfl) ?_
  rw [fH_i, fH_i, fH_i]
  generalize hF : upd (upd (upd f 4 lo) 5 up) 3 co = F
  obtain ⟨gN, gC, g5, gc, gK, gT⟩ := fH_gi (q := q) (f := F) (o := o) g hb
  have e4 : F 4 = lo := by subst hF; rfl
  have e5 : F 5 = up := by subst hF; rfl
  have e3 : F 3 = co := by subst hF; rfl
  have e7 : F 7 = 0 := by subst hF; exact hf
  have e2 : F 2 = f 2 := by subst hF; rfl
  refine r_aload_n (pc' := 28) d121_27 rfl rfl rfl ?_
  refine r_getS (pc' := 31) d121_28 rfl o121 sf11_43_11 sh0 (pl gN rfl) (rfc0_4 gC) ?_
  refine r_aload_n (pc' := 32) d121_31 rfl rfl rfl ?_
  refine r_getS (pc' := 35) d121_32 rfl o121 sf11_73_11 sh0 (pl gN rfl) (rfc0_14 gC) ?_
  refine r_iload_n (pc' := 36) d121_35 rfl rfl rfl ?_
  refine r_ialdN (pc' := 37) (j := (n - (r + 1))) d121_36 rfl sh49 (pl gN rfl) rfl (by omega) (by decide) ?_
  refine r_aload_n (pc' := 38) d121_37 rfl rfl rfl ?_
  refine r_getS (pc' := 41) d121_38 rfl o121 sf11_52_11 sh0 (pl gN rfl) g5 ?_
  refine r_aload_n (pc' := 42) d121_41 rfl rfl rfl ?_
  refine r_getS (pc' := 45) d121_42 rfl o121 sf11_43_11 sh0 (pl gN rfl) (rfc0_4 gC) ?_
  refine r_getI (pc' := 48) d121_45 rfl o121 sf11_195_8 sh16 (pl gN rfl) ?_
  refine r_call (pc' := 51) [vR (some b), vI _] [vI _, vR (some 16)] d121_48 rfl o121 st11_297_10 (rcv1 (shY hb) (plo gN (by omega))) rfl (by decide) ⟨rfl, rfl⟩ (Nat.le_of_ble_eq_true rfl) rfl (y_windF g hb ?_)
  refine r_call (pc' := 54) [vR (some 16), vI _, vI _] [] d121_51 rfl o121 st11_343_8 (rcv1 sh16 (pl gN rfl)) rfl (by decide) ⟨rfl, rfl⟩ (Nat.le_of_ble_eq_true rfl) rfl (t_roastF g hb hq6 ?_)
  rw [fH_16, e2, fH_o (by decide) (by decide)]
  generalize hR : roastV q (hi h 49 (n - (r + 1))) (windV (hi h b) (f 2)) F = R
  have r4 : R 4 = fmL q (hi h 49 (n - (r + 1))) (windV (hi h b) (f 2)) lo := by rw [← hR, ro_4, e4]
  have r5 : R 5 = fmU up := by rw [← hR, ro_5, e5]
  have r3 : R 3 = fmC q (hi h 49 (n - (r + 1))) (windV (hi h b) (f 2)) lo up co := by rw [← hR, ro_3, e4, e5, e3]
  have r2 : R 2 = f 2 := by rw [← hR, ro_2, e2]
  have r7 : R 7 = if fmB q (hi h 49 (n - (r + 1))) (windV (hi h b) (f 2)) lo up then 1 else 0 := by rw [← hR, ro_7, e4, e5, e7]; by_cases z : fmB q (hi h 49 (n - (r + 1))) (windV (hi h b) (f 2)) lo up <;> simp only [z, if_true, if_false, not_true, false_or]
  obtain ⟨gN, gC, g5, gc, gK, gT⟩ := fH_gi (q := q) (f := R) (o := o) g hb
  refine r_aload_n (pc' := 55) d121_54 rfl rfl rfl ?_
  refine r_getS (pc' := 58) d121_55 rfl o121 sf11_43_11 sh0 (pl gN rfl) (rfc0_4 gC) ?_
  refine r_getI (pc' := 61) d121_58 rfl o121 sf11_250_8 sh16 (pl gN rfl) ?_
  refine r_if_eq 73 (pc' := 64) d121_61 rfl rfl (fun c61 => ?_) (fun c61 => ?_)
  · refine r_aload_n (pc' := 74) d121_73 rfl rfl rfl ?_
    refine r_iload_n (pc' := 75) d121_74 rfl rfl rfl ?_
    refine r_iconst (v := 1) (pc' := 76) d121_75 rfl (by decide) ?_
    refine r_iadd (pc' := 77) d121_76 rfl ?_
    refine r_iload_n (pc' := 78) d121_77 rfl rfl rfl ?_
    refine r_iload_n (pc' := 79) d121_78 rfl rfl rfl ?_
    refine r_aload_n (pc' := 80) d121_79 rfl rfl rfl ?_
    refine r_getS (pc' := 83) d121_80 rfl o121 sf11_43_11 sh0 (pl gN rfl) (rfc0_4 gC) ?_
    refine r_getI (pc' := 86) d121_83 rfl o121 sf11_285_8 sh16 (pl gN rfl) ?_
    refine r_aload_n (pc' := 87) d121_86 rfl rfl rfl ?_
    refine r_getS (pc' := 90) d121_87 rfl o121 sf11_43_11 sh0 (pl gN rfl) (rfc0_4 gC) ?_
    refine r_getI (pc' := 93) d121_90 rfl o121 sf11_288_8 sh16 (pl gN rfl) ?_
    refine r_aload_n (pc' := 94) d121_93 rfl rfl rfl ?_
    refine r_getS (pc' := 97) d121_94 rfl o121 sf11_43_11 sh0 (pl gN rfl) (rfc0_4 gC) ?_
    refine r_getI (pc' := 100) d121_97 rfl o121 sf11_244_8 sh16 (pl gN rfl) ?_
    refine r_call (pc' := 103) [vR (some 0), vI _, vI _, vI _, vI _, vI _, vI _] [] d121_100 rfl o121 st11_321_11 (rcv1 sh0 (pl gN rfl)) rfl (by decide) ⟨rfl, rfl⟩ (Nat.le_of_ble_eq_true rfl) rfl ((fun zz => zz) (by rw [nI_1, show n - (r + 1) + 1 = n - r by omega]; refine ih _ w _ _ _ o R _ (by omega) hw ho (by rw [fH_16] at c61; exact c61) (fun f1 k7 k2 => ?_); have kz := kk f1 k7 (k2.trans r2); unfold tmF at kz; rw [if_neg (fun z9 => by rw [fH_16, r7, if_pos z9] at c61; exact absurd c61 (by decide))] at kz; rw [fH_16, r4, r5, r3, r2]; exact r_ret d121_103 rfl kz))
  · refine r_aload_n (pc' := 65) d121_64 rfl rfl rfl ?_
    refine r_getS (pc' := 68) d121_65 rfl o121 sf11_43_11 sh0 (pl gN rfl) (rfc0_4 gC) ?_
    refine r_iconst (v := 0) (pc' := 69) d121_68 rfl (by decide) ?_
    refine r_putI (pc' := 72) d121_69 rfl o121 sp11_250_8 sh16 (fun w => absurd w (by decide)) (Or.inr ⟨rfl, Or.inl rfl⟩) (pl gN rfl) ?_
    exact r_ret d121_72 rfl (qh (fH_i _ _ _ _ _ _).symm (by have z := kk (upd R 7 0) rfl r2; unfold tmF at z; rw [if_pos (by by_cases z9 : fmB q (hi h 49 (n - (r + 1))) (windV (hi h b) (f 2)) lo up; exact z9; rw [fH_16, r7, if_neg z9] at c61; exact absurd rfl c61)] at z; exact z))
theorem c_tryFlips {h : Hp} {b m L e q n : Nat} (g : GI h b m L e) (hb : b = 17 ∨ b = 31) (hq6 : q < 6) (hn12 : n ≤ 12) : ∀ r, r ≤ n → ∀ (D w : Nat) (lo up co : Int32) (o : Option Nat) (f : Nat → Int32) (Q : Option AV → Hp → Prop), 2 * r + 2 ≤ D → w < 2 ^ (n - r) → ob4 o → f 7 = 0 → (∀ f', f' 7 = 0 → f' 2 = f 2 → Q none (fH h q f' (tfF (hi h 49) (windV (hi h b) (f 2)) q n r w lo up co o))) → Spec D 120 [vR (some 0), vI (nI (n - r)), vI (nI n), vI (nI w), vI lo, vI up, vI co] (fH h q f o) Q := by
  intro r
  induction r with
  | zero =>
    intro hr D w lo up co o f Q hD hw ho hf kk
    have hp2 := pow_le12 (n - 0) (by omega)
    obtain ⟨d, rfl⟩ : ∃ d, D = d + 2 := ⟨D - 2, by omega⟩
    unfold tfF at kk
    obtain ⟨gN, gC, g5, gc, gK, gT⟩ := fH_gi (q := q) (f := f) (o := o) g hb
    rcases o with _ | z
    · refine spec_intro (by decide +kernel) rfl (Nat.le_of_ble_eq_true rfl) ?_
      refine r_aload_n (pc' := 1) d120_0 rfl rfl rfl ?_
      refine r_getI (pc' := 4) d120_1 rfl o120 sf11_318_11 sh0 (pl gN rfl) ?_
      refine wp_v (fH_b (o := none)) ?_
      refine r_ldc (pc' := 6) d120_4 rfl o120 kc11_243 ?_
      refine r_icmp_eq 18 (pc' := 9) d120_6 rfl rfl (fun c6 => ?_) (fun c6 => absurd rfl c6)
      refine r_iload_n (pc' := 19) d120_18 rfl rfl rfl ?_
      refine r_iload_n (pc' := 20) d120_19 rfl rfl rfl ?_
      refine r_icmp_ge 29 (pc' := 23) d120_20 rfl rfl (fun c20 => ?_) (fun c20 => absurd (nI_le (Nat.le_refl _) (by omega)) c20)
      refine r_iload (pc' := 31) d120_29 rfl rfl ?_
      refine r_aload_n (pc' := 32) d120_31 rfl rfl rfl ?_
      refine r_getS (pc' := 35) d120_32 rfl o120 sf11_43_11 sh0 (pl gN rfl) (rfc0_4 gC) ?_
      refine r_getS (pc' := 38) d120_35 rfl o120 sf11_333_8 sh16 (pl gN rfl) tH_k ?_
      refine r_getI (pc' := 41) d120_38 rfl o120 (sfK11_337 hq6) (shK hq6) (plK gN hq6) ?_
      refine wp_v (gK q hq6).2.2.1 ?_
      refine r_icmp_lt 49 (pc' := 44) d120_41 rfl rfl (fun c41 => ?_) (fun c41 => ?_)
      · exact r_ret d120_49 rfl (by have y := kk f hf rfl; rw [if_pos (show betB none w = true from rfl)] at y; rw [if_neg (Int32.not_le.mpr c41)] at y; exact y)
      · refine r_aload_n (pc' := 45) d120_44 rfl rfl rfl ?_
        refine r_iload_n (pc' := 46) d120_45 rfl rfl rfl ?_
        refine r_putI (pc' := 49) d120_46 rfl o120 sp11_318_11 sh0 (fun w => absurd w (by decide)) (Or.inl rfl) (pl gN rfl) ?_
        exact r_ret d120_49 rfl (qh (fH_s h q w f none).symm (by have y := kk f hf rfl; rw [if_pos (show betB none w = true from rfl)] at y; rw [if_pos (Int32.not_lt.mp c41)] at y; exact y))
    skip
    · refine spec_intro (by decide +kernel) rfl (Nat.le_of_ble_eq_true rfl) ?_
      refine r_aload_n (pc' := 1) d120_0 rfl rfl rfl ?_
      refine r_getI (pc' := 4) d120_1 rfl o120 sf11_318_11 sh0 (pl gN rfl) ?_
      refine wp_v (fH_b (o := some z)) ?_
      refine r_ldc (pc' := 6) d120_4 rfl o120 kc11_243 ?_
      refine r_icmp_eq 18 (pc' := 9) d120_6 rfl rfl (fun c6 => absurd c6 (nI_none (by have := ho z rfl; omega))) (fun c6 => ?_)
      refine r_aload_n (pc' := 10) d120_9 rfl rfl rfl ?_
      refine r_iload_n (pc' := 11) d120_10 rfl rfl rfl ?_
      refine r_call (pc' := 14) [vR (some 0), vI _] [] d120_11 rfl o120 st11_330_11 (rcv1 sh0 (pl gN rfl)) rfl (by decide) ⟨rfl, rfl⟩ (Nat.le_of_ble_eq_true rfl) rfl (c_isBetterWay gN (by omega) (ho z rfl) (fH_b (o := some z)) ?_)
      refine r_if_neB 18 (pc' := 17) d120_14 rfl rfl (fun c14 => ?_) (fun c14 => ?_)
      · refine r_iload_n (pc' := 19) d120_18 rfl rfl rfl ?_
        refine r_iload_n (pc' := 20) d120_19 rfl rfl rfl ?_
        refine r_icmp_ge 29 (pc' := 23) d120_20 rfl rfl (fun c20 => ?_) (fun c20 => absurd (nI_le (Nat.le_refl _) (by omega)) c20)
        refine r_iload (pc' := 31) d120_29 rfl rfl ?_
        refine r_aload_n (pc' := 32) d120_31 rfl rfl rfl ?_
        refine r_getS (pc' := 35) d120_32 rfl o120 sf11_43_11 sh0 (pl gN rfl) (rfc0_4 gC) ?_
        refine r_getS (pc' := 38) d120_35 rfl o120 sf11_333_8 sh16 (pl gN rfl) tH_k ?_
        refine r_getI (pc' := 41) d120_38 rfl o120 (sfK11_337 hq6) (shK hq6) (plK gN hq6) ?_
        refine wp_v (gK q hq6).2.2.1 ?_
        refine r_icmp_lt 49 (pc' := 44) d120_41 rfl rfl (fun c41 => ?_) (fun c41 => ?_)
        · exact r_ret d120_49 rfl (by have y := kk f hf rfl; rw [if_pos (by show decide _ = true; rw [decide_eq_true_eq]; exact c14)] at y; rw [if_neg (Int32.not_le.mpr c41)] at y; exact y)
        · refine r_aload_n (pc' := 45) d120_44 rfl rfl rfl ?_
          refine r_iload_n (pc' := 46) d120_45 rfl rfl rfl ?_
          refine r_putI (pc' := 49) d120_46 rfl o120 sp11_318_11 sh0 (fun w => absurd w (by decide)) (Or.inl rfl) (pl gN rfl) ?_
          exact r_ret d120_49 rfl (qh (fH_s h q w f (some z)).symm (by have y := kk f hf rfl; rw [if_pos (by show decide _ = true; rw [decide_eq_true_eq]; exact c14)] at y; rw [if_pos (Int32.not_lt.mp c41)] at y; exact y))
      · exact r_ret d120_17 rfl (by have y := kk f hf rfl; rw [if_neg (by show ¬ decide _ = true; rw [decide_eq_true_eq]; exact c14)] at y; exact y)
  | succ r ih =>
    intro hr D w lo up co o f Q hD hw ho hf kk
    have hp2 := pow_le12 (n - (r + 1)) (by omega)
    have hps := pow_s hr
    obtain ⟨d, rfl⟩ : ∃ d, D = d + 2 := ⟨D - 2, by omega⟩
    unfold tfF at kk
    obtain ⟨gN, gC, g5, gc, gK, gT⟩ := fH_gi (q := q) (f := f) (o := o) g hb
    rcases o with _ | z
    · refine spec_intro (by decide +kernel) rfl (Nat.le_of_ble_eq_true rfl) ?_
      refine r_aload_n (pc' := 1) d120_0 rfl rfl rfl ?_
      refine r_getI (pc' := 4) d120_1 rfl o120 sf11_318_11 sh0 (pl gN rfl) ?_
      refine wp_v (fH_b (o := none)) ?_
      refine r_ldc (pc' := 6) d120_4 rfl o120 kc11_243 ?_
      refine r_icmp_eq 18 (pc' := 9) d120_6 rfl rfl (fun c6 => ?_) (fun c6 => absurd rfl c6)
      refine r_iload_n (pc' := 19) d120_18 rfl rfl rfl ?_
      refine r_iload_n (pc' := 20) d120_19 rfl rfl rfl ?_
      refine r_icmp_ge 29 (pc' := 23) d120_20 rfl rfl (fun c20 => absurd c20 (nI_ge (by omega) (by omega))) (fun c20 => ?_)
      refine r_iload_n (pc' := 24) d120_23 rfl rfl rfl ?_
      refine r_bipush (v := 12) (pc' := 26) d120_24 rfl (by decide) ?_
      refine r_icmp_lt 50 (pc' := 29) d120_26 rfl rfl (fun c26 => ?_) (fun c26 => absurd (nI_lt (a := n - (r + 1)) (b := 12) (by omega) (by decide)) c26)
      refine r_aload_n (pc' := 51) d120_50 rfl rfl rfl ?_
      refine r_iload_n (pc' := 52) d120_51 rfl rfl rfl ?_
      refine r_iload_n (pc' := 53) d120_52 rfl rfl rfl ?_
      refine r_iload_n (pc' := 54) d120_53 rfl rfl rfl ?_
      refine r_iload (pc' := 56) d120_54 rfl rfl ?_
      refine r_iload (pc' := 58) d120_56 rfl rfl ?_
      refine r_iload (pc' := 60) d120_58 rfl rfl ?_
      refine r_call (pc' := 63) [vR (some 0), vI _, vI _, vI _, vI _, vI _, vI _] [] d120_60 rfl o120 st11_340_11 (rcv1 sh0 (pl gN rfl)) rfl (by decide) ⟨rfl, rfl⟩ (Nat.le_of_ble_eq_true rfl) rfl (c_tryMinute g hb hq6 hn12 hr (ih (by omega)) _ w _ _ _ none f (by omega) (by omega) ho hf (fun f1 k17 k12 => ?_))
      refine r_aload_n (pc' := 64) d120_63 rfl rfl rfl ?_
      refine r_iload_n (pc' := 65) d120_64 rfl rfl rfl ?_
      refine r_iload_n (pc' := 66) d120_65 rfl rfl rfl ?_
      refine r_iload_n (pc' := 67) d120_66 rfl rfl rfl ?_
      refine r_iconst (v := 1) (pc' := 68) d120_67 rfl (by decide) ?_
      refine r_iload_n (pc' := 69) d120_68 rfl rfl rfl ?_
      refine r_ishl (pc' := 70) d120_69 rfl ?_
      refine r_ior (pc' := 71) d120_70 rfl ?_
      refine r_iload (pc' := 73) d120_71 rfl rfl ?_
      refine r_iload (pc' := 75) d120_73 rfl rfl ?_
      refine r_iload (pc' := 77) d120_75 rfl rfl ?_
      refine r_call (pc' := 80) [vR (some 0), vI _, vI _, vI _, vI _, vI _, vI _] [] d120_77 rfl o120 st11_340_11 (rcv1 sh0 (pl gN rfl)) rfl (by decide) ⟨rfl, rfl⟩ (Nat.le_of_ble_eq_true rfl) rfl ((fun zz => zz) (by rw [or_pow _ (by omega) w (by omega)]; refine c_tryMinute g hb hq6 hn12 hr (ih (by omega)) _ (w + 2 ^ (n - (r + 1))) _ _ _ _ f1 (by omega) (by omega) (tmF_ob4 (fun a b c y hy => tfF_ob4 _ _ _ _ hn12 r (by omega) w (by omega) a b c y hy) _ _ _ _ _ _ ho) k17 (fun f2 k27 k22 => ?_); exact r_ret d120_80 rfl (by have y := kk f2 k27 (k22.trans k12); rw [if_pos (show betB none w = true from rfl)] at y; rw [k12]; exact y)))
    skip
    · refine spec_intro (by decide +kernel) rfl (Nat.le_of_ble_eq_true rfl) ?_
      refine r_aload_n (pc' := 1) d120_0 rfl rfl rfl ?_
      refine r_getI (pc' := 4) d120_1 rfl o120 sf11_318_11 sh0 (pl gN rfl) ?_
      refine wp_v (fH_b (o := some z)) ?_
      refine r_ldc (pc' := 6) d120_4 rfl o120 kc11_243 ?_
      refine r_icmp_eq 18 (pc' := 9) d120_6 rfl rfl (fun c6 => absurd c6 (nI_none (by have := ho z rfl; omega))) (fun c6 => ?_)
      refine r_aload_n (pc' := 10) d120_9 rfl rfl rfl ?_
      refine r_iload_n (pc' := 11) d120_10 rfl rfl rfl ?_
      refine r_call (pc' := 14) [vR (some 0), vI _] [] d120_11 rfl o120 st11_330_11 (rcv1 sh0 (pl gN rfl)) rfl (by decide) ⟨rfl, rfl⟩ (Nat.le_of_ble_eq_true rfl) rfl (c_isBetterWay gN (by omega) (ho z rfl) (fH_b (o := some z)) ?_)
      refine r_if_neB 18 (pc' := 17) d120_14 rfl rfl (fun c14 => ?_) (fun c14 => ?_)
      · refine r_iload_n (pc' := 19) d120_18 rfl rfl rfl ?_
        refine r_iload_n (pc' := 20) d120_19 rfl rfl rfl ?_
        refine r_icmp_ge 29 (pc' := 23) d120_20 rfl rfl (fun c20 => absurd c20 (nI_ge (by omega) (by omega))) (fun c20 => ?_)
        refine r_iload_n (pc' := 24) d120_23 rfl rfl rfl ?_
        refine r_bipush (v := 12) (pc' := 26) d120_24 rfl (by decide) ?_
        refine r_icmp_lt 50 (pc' := 29) d120_26 rfl rfl (fun c26 => ?_) (fun c26 => absurd (nI_lt (a := n - (r + 1)) (b := 12) (by omega) (by decide)) c26)
        refine r_aload_n (pc' := 51) d120_50 rfl rfl rfl ?_
        refine r_iload_n (pc' := 52) d120_51 rfl rfl rfl ?_
        refine r_iload_n (pc' := 53) d120_52 rfl rfl rfl ?_
        refine r_iload_n (pc' := 54) d120_53 rfl rfl rfl ?_
        refine r_iload (pc' := 56) d120_54 rfl rfl ?_
        refine r_iload (pc' := 58) d120_56 rfl rfl ?_
        refine r_iload (pc' := 60) d120_58 rfl rfl ?_
        refine r_call (pc' := 63) [vR (some 0), vI _, vI _, vI _, vI _, vI _, vI _] [] d120_60 rfl o120 st11_340_11 (rcv1 sh0 (pl gN rfl)) rfl (by decide) ⟨rfl, rfl⟩ (Nat.le_of_ble_eq_true rfl) rfl (c_tryMinute g hb hq6 hn12 hr (ih (by omega)) _ w _ _ _ (some z) f (by omega) (by omega) ho hf (fun f1 k17 k12 => ?_))
        refine r_aload_n (pc' := 64) d120_63 rfl rfl rfl ?_
        refine r_iload_n (pc' := 65) d120_64 rfl rfl rfl ?_
        refine r_iload_n (pc' := 66) d120_65 rfl rfl rfl ?_
        refine r_iload_n (pc' := 67) d120_66 rfl rfl rfl ?_
        refine r_iconst (v := 1) (pc' := 68) d120_67 rfl (by decide) ?_
        refine r_iload_n (pc' := 69) d120_68 rfl rfl rfl ?_
        refine r_ishl (pc' := 70) d120_69 rfl ?_
        refine r_ior (pc' := 71) d120_70 rfl ?_
        refine r_iload (pc' := 73) d120_71 rfl rfl ?_
        refine r_iload (pc' := 75) d120_73 rfl rfl ?_
        refine r_iload (pc' := 77) d120_75 rfl rfl ?_
        refine r_call (pc' := 80) [vR (some 0), vI _, vI _, vI _, vI _, vI _, vI _] [] d120_77 rfl o120 st11_340_11 (rcv1 sh0 (pl gN rfl)) rfl (by decide) ⟨rfl, rfl⟩ (Nat.le_of_ble_eq_true rfl) rfl ((fun zz => zz) (by rw [or_pow _ (by omega) w (by omega)]; refine c_tryMinute g hb hq6 hn12 hr (ih (by omega)) _ (w + 2 ^ (n - (r + 1))) _ _ _ _ f1 (by omega) (by omega) (tmF_ob4 (fun a b c y hy => tfF_ob4 _ _ _ _ hn12 r (by omega) w (by omega) a b c y hy) _ _ _ _ _ _ ho) k17 (fun f2 k27 k22 => ?_); exact r_ret d120_80 rfl (by have y := kk f2 k27 (k22.trans k12); rw [if_pos (by show decide _ = true; rw [decide_eq_true_eq]; exact c14)] at y; rw [k12]; exact y)))
      · exact r_ret d120_17 rfl (by have y := kk f hf rfl; rw [if_neg (by show ¬ decide _ = true; rw [decide_eq_true_eq]; exact c14)] at y; exact y)
theorem T16.w49 {h : Hp} {W : Nat → Int32} (t : T16 h) : T16 (setw h 49 W) := t
theorem tH_s15 (h : Hp) (q : Nat) (f : Nat → Int32) : seti (tH h q f) 0 15 (-1000000) = fH h q f none := by
  refine hp_ext rfl (fun x y => ?_) (fun x y => rfl)
  unfold fH
  by_cases h0 : x = 0
  · subst h0
    rw [hi_seti_row, tH_o (by decide), tH_o (by decide), hi_seti_row]; rfl
  · rw [hi_seti_ne _ _ _ _ _ h0]
    by_cases h1 : x = 16
    · subst h1; rw [tH_16, tH_16]
    · rw [tH_o h1, tH_o h1, hi_seti_ne _ _ _ _ _ h0]
def cfO (h : Hp) (b L j n : Nat) : Option Nat := if hi h (b + 8 + j) 7 = 0 then tfF (hi (fwH h b L (hi h (b + 8 + j) 2) n) 49) (windV (hi h b) (hi h (b + 8 + j) 2)) (kq h (b + 8 + j)) n n 0 (hi h (b + 8 + j) 4) (hi h (b + 8 + j) 5) (hi h (b + 8 + j) 3) none else none
theorem cfO_4 (h : Hp) (b L j n : Nat) (hn : n ≤ 12) : ob4 (cfO h b L j n) := by
  unfold cfO; split
  · exact tfF_ob4 _ _ _ _ hn n (Nat.le_refl _) 0 (by rw [Nat.sub_self]; decide) _ _ _ _ (fun z hz => by cases hz)
  · intro z hz; cases hz
def cfR (o : Option Nat) (what : Int32) : Int32 := match o with
  | none => -1000000
  | some z => if what = 0 then nI (popc z) else nI z
theorem r_flips_none {d : Nat} {h : Hp} {Q : Option AV → Hp → Prop} {q : Nat} {f : Nat → Int32} {what : Int32} (gN : hn h = 65) (k : Q (some (vI (cfR none what))) (fH h q f none)) : wp (d + 1) 118 Q 0 0 107 [(0, vR (some 0)), (3, vI what)] [] (fH h q f none) := by
  refine r_iload_n (pc' := 108) d118_107 rfl rfl rfl ?_
  refine r_if_ne 130 (pc' := 111) d118_108 rfl rfl (fun c108 => ?_) (fun c108 => ?_)
  · refine r_aload_n (pc' := 131) d118_130 rfl rfl rfl ?_
    refine r_getI (pc' := 134) d118_131 rfl o118 sf11_318_11 sh0 (pl gN rfl) ?_
    refine wp_v (fH_b (o := none)) ?_
    exact r_iretI d118_134 rfl k
  · refine r_aload_n (pc' := 112) d118_111 rfl rfl rfl ?_
    refine r_getI (pc' := 115) d118_112 rfl o118 sf11_318_11 sh0 (pl gN rfl) ?_
    refine wp_v (fH_b (o := none)) ?_
    refine r_ldc (pc' := 117) d118_115 rfl o118 kc11_243 ?_
    refine r_icmp_eq 130 (pc' := 120) d118_117 rfl rfl (fun c117 => ?_) (fun c117 => absurd rfl c117)
    refine r_aload_n (pc' := 131) d118_130 rfl rfl rfl ?_
    refine r_getI (pc' := 134) d118_131 rfl o118 sf11_318_11 sh0 (pl gN rfl) ?_
    refine wp_v (fH_b (o := none)) ?_
    exact r_iretI d118_134 rfl k
theorem r_flips_some {d : Nat} {h : Hp} {Q : Option AV → Hp → Prop} {q z : Nat} {f : Nat → Int32} {what : Int32} (gN : hn h = 65) (hz : z < 4096) (k : Q (some (vI (cfR (some z) what))) (fH h q f (some z))) : wp (d + 1) 118 Q 0 0 107 [(0, vR (some 0)), (3, vI what)] [] (fH h q f (some z)) := by
  refine r_iload_n (pc' := 108) d118_107 rfl rfl rfl ?_
  refine r_if_ne 130 (pc' := 111) d118_108 rfl rfl (fun c108 => ?_) (fun c108 => ?_)
  · refine r_aload_n (pc' := 131) d118_130 rfl rfl rfl ?_
    refine r_getI (pc' := 134) d118_131 rfl o118 sf11_318_11 sh0 (pl gN rfl) ?_
    refine wp_v (fH_b (o := some z)) ?_
    exact r_iretI d118_134 rfl (qv (if_neg c108) k)
  · refine r_aload_n (pc' := 112) d118_111 rfl rfl rfl ?_
    refine r_getI (pc' := 115) d118_112 rfl o118 sf11_318_11 sh0 (pl gN rfl) ?_
    refine wp_v (fH_b (o := some z)) ?_
    refine r_ldc (pc' := 117) d118_115 rfl o118 kc11_243 ?_
    refine r_icmp_eq 130 (pc' := 120) d118_117 rfl rfl (fun c117 => absurd c117 (nI_none (by omega))) (fun c117 => ?_)
    refine r_aload_n (pc' := 121) d118_120 rfl rfl rfl ?_
    refine r_getI (pc' := 124) d118_121 rfl o118 sf11_318_11 sh0 (pl gN rfl) ?_
    refine wp_v (fH_b (o := some z)) ?_
    refine r_call (pc' := 127) [vI _] [] d118_124 rfl o118 st11_325 rcv0 rfl (by decide) ⟨rfl, rfl⟩ (Nat.le_of_ble_eq_true rfl) rfl (j_bitCount (by omega) ?_)
    refine r_goto 134 d118_127 rfl ?_
    exact r_iretI d118_134 rfl (qv (if_pos c108) k)
theorem r_flips {d : Nat} {h : Hp} {Q : Option AV → Hp → Prop} {q : Nat} {f : Nat → Int32} {what : Int32} {o : Option Nat} (gN : hn h = 65) (ho : ob4 o) (k : Q (some (vI (cfR o what))) (fH h q f o)) : wp (d + 1) 118 Q 0 0 107 [(0, vR (some 0)), (3, vI what)] [] (fH h q f o) := by
  rcases o with _ | z
  · exact r_flips_none gN k
  · exact r_flips_some gN (ho z rfl) k
theorem C_flips {d : Nat} {h : Hp} {Q : Option AV → Hp → Prop} {b m L e : Nat} {t u what : Int32} (g : GI h b m L e) (hb : b = 17 ∨ b = 31) (t16 : T16 h) (hbz : ∀ j, j < m → hi h (b + 8 + j) 7 = 0 ∨ hi h (b + 8 + j) 7 = 1) (kB : (¬ inR t m ∨ ¬ (1 ≤ u ∧ u ≤ 12) ∨ ¬ (0 ≤ what ∧ what ≤ 1)) → Q (some (vI (-1000001))) h)
    (kS : ∀ j : Nat, j < m → t = nI j → (1 ≤ u ∧ u ≤ 12) → (0 ≤ what ∧ what ≤ 1) → ¬ inC (hi h (b + 8 + j) 2) → Q (some (vI (-1000002))) h)
    (kW : ∀ j : Nat, j < m → t = nI j → ∀ n : Nat, 1 ≤ n → n ≤ 12 → u = nI n → (0 ≤ what ∧ what ≤ 1) → inC (hi h (b + 8 + j) 2) → ∀ f, Q (some (vI (cfR (cfO h b L j n) what))) (fH (fwH h b L (hi h (b + 8 + j) 2) n) (kq h (b + 8 + j)) f (cfO h b L j n))) : Spec (d + 28) 118 [vR (some 0), vI t, vI u, vI what] h Q := by
  obtain ⟨hN, hC, h5, hc, hK, hT⟩ := id g
  obtain ⟨hc1, hc2, hc3, hc4, hc5, hc6⟩ := id hc
  refine spec_intro (by decide +kernel) rfl (Nat.le_of_ble_eq_true rfl) ?_
  refine r_aload_n (pc' := 1) d118_0 rfl rfl rfl ?_
  refine r_getS (pc' := 4) d118_1 rfl o118 sf11_52_11 sh0 (pl hN rfl) h5 ?_
  refine r_iload_n (pc' := 5) d118_4 rfl rfl rfl ?_
  refine r_call (pc' := 8) [vR (some b), vI _] [] d118_5 rfl o118 st11_177_10 (rcv1 (shY hb) (plo hN (by omega))) rfl (by decide) ⟨rfl, rfl⟩ (Nat.le_of_ble_eq_true rfl) rfl (y_thingAt hN hC hb hc (fun hbad => ?_) (fun j hj0 hj => ?_))
  · refine r_astoreN (pc' := 10) (ls' := [(4, vR none), (0, vR (some 0)), (1, vI _), (2, vI _), (3, vI _)]) d118_8 rfl (by decide) rfl ?_
    refine r_aloadN (pc' := 12) d118_10 rfl rfl ?_
    refine r_nulN 35 (pc' := 15) d118_12 rfl rfl ?_
    refine r_ldc (pc' := 37) d118_35 rfl o118 kc11_100 ?_
    exact r_iretI d118_37 rfl (kB (by first | exact Or.inl hbad | exact Or.inr (Or.inl (fun w => absurd w.1 (Int32.not_le.mpr c17))) | exact Or.inr (Or.inl (fun w => absurd w.2 (Int32.not_le.mpr c23))) | exact Or.inr (Or.inr (fun w => absurd w.1 (Int32.not_le.mpr c27))) | exact Or.inr (Or.inr (fun w => c32 w.2))))
  · refine r_astore (pc' := 10) (ls' := [(4, vR (some (b + 8 + j))), (0, vR (some 0)), (1, vI _), (2, vI _), (3, vI _)]) d118_8 rfl (by decide) rfl ?_
    refine r_aload (pc' := 12) d118_10 rfl rfl ?_
    refine r_nulS 35 (pc' := 15) d118_12 rfl rfl ?_
    refine r_iload_n (pc' := 16) d118_15 rfl rfl rfl ?_
    refine r_iconst (v := 1) (pc' := 17) d118_16 rfl (by decide) ?_
    refine r_icmp_lt 35 (pc' := 20) d118_17 rfl rfl (fun c17 => ?_) (fun c17 => ?_)
    · refine r_ldc (pc' := 37) d118_35 rfl o118 kc11_100 ?_
      exact r_iretI d118_37 rfl (kB (by first | exact Or.inl hbad | exact Or.inr (Or.inl (fun w => absurd w.1 (Int32.not_le.mpr c17))) | exact Or.inr (Or.inl (fun w => absurd w.2 (Int32.not_le.mpr c23))) | exact Or.inr (Or.inr (fun w => absurd w.1 (Int32.not_le.mpr c27))) | exact Or.inr (Or.inr (fun w => c32 w.2))))
    · refine r_iload_n (pc' := 21) d118_20 rfl rfl rfl ?_
      refine r_bipush (v := 12) (pc' := 23) d118_21 rfl (by decide) ?_
      refine r_icmp_gt 35 (pc' := 26) d118_23 rfl rfl (fun c23 => ?_) (fun c23 => ?_)
      · refine r_ldc (pc' := 37) d118_35 rfl o118 kc11_100 ?_
        exact r_iretI d118_37 rfl (kB (by first | exact Or.inl hbad | exact Or.inr (Or.inl (fun w => absurd w.1 (Int32.not_le.mpr c17))) | exact Or.inr (Or.inl (fun w => absurd w.2 (Int32.not_le.mpr c23))) | exact Or.inr (Or.inr (fun w => absurd w.1 (Int32.not_le.mpr c27))) | exact Or.inr (Or.inr (fun w => c32 w.2))))
      · refine r_iload_n (pc' := 27) d118_26 rfl rfl rfl ?_
        refine r_if_lt 35 (pc' := 30) d118_27 rfl rfl (fun c27 => ?_) (fun c27 => ?_)
        · refine r_ldc (pc' := 37) d118_35 rfl o118 kc11_100 ?_
          exact r_iretI d118_37 rfl (kB (by first | exact Or.inl hbad | exact Or.inr (Or.inl (fun w => absurd w.1 (Int32.not_le.mpr c17))) | exact Or.inr (Or.inl (fun w => absurd w.2 (Int32.not_le.mpr c23))) | exact Or.inr (Or.inr (fun w => absurd w.1 (Int32.not_le.mpr c27))) | exact Or.inr (Or.inr (fun w => c32 w.2))))
        · refine r_iload_n (pc' := 31) d118_30 rfl rfl rfl ?_
          refine r_iconst (v := 1) (pc' := 32) d118_31 rfl (by decide) ?_
          refine r_icmp_le 38 (pc' := 35) d118_32 rfl rfl (fun c32 => ?_) (fun c32 => ?_)
          · refine r_aload (pc' := 40) d118_38 rfl rfl ?_
            refine r_getI (pc' := 43) d118_40 rfl o118 sf11_195_8 (shT hb (by omega)) (plo hN (by omega)) ?_
            refine r_call (pc' := 46) [vI _] [] d118_43 rfl o118 st11_198 rcv0 rfl (by decide) ⟨rfl, rfl⟩ (Nat.le_of_ble_eq_true rfl) rfl (t_isCell ?_)
            refine r_if_neB 52 (pc' := 49) d118_46 rfl rfl (fun c46 => ?_) (fun c46 => ?_)
            · obtain ⟨n, ⟨hn1, hn12⟩, rfl⟩ := nI_of3 (a := 1) (b := 12) ⟨Int32.not_lt.mp c17, Int32.not_lt.mp c23⟩ (by decide)
              refine r_aload_n (pc' := 53) d118_52 rfl rfl rfl ?_
              refine r_aload (pc' := 55) d118_53 rfl rfl ?_
              refine r_getI (pc' := 58) d118_55 rfl o118 sf11_195_8 (shT hb (by omega)) (plo hN (by omega)) ?_
              refine r_iload_n (pc' := 59) d118_58 rfl rfl rfl ?_
              refine r_call (pc' := 62) [vR (some 0), vI _, vI _] [] d118_59 rfl o118 st11_314_11 (rcv1 sh0 (pl hN rfl)) rfl (by decide) ⟨rfl, rfl⟩ (Nat.le_of_ble_eq_true rfl) rfl (c_foretellWarmth g hb (by omega) ?_)
              have g2 := fwH_gi (cell := hi h (b + 8 + j) 2) (k := n) g hb
              have t2 : T16 (fwH h b L (hi h (b + 8 + j) 2) n) := t16
              refine wp_heap (tH_self t2) ?_
              obtain ⟨gN, gC, g5, gc, gK, gT⟩ := g2.t (q := kq (fwH h b L (hi h (b + 8 + j) 2) n) 16) (f := hi (fwH h b L (hi h (b + 8 + j) 2) n) 16) hb
              refine r_aload_n (pc' := 63) d118_62 rfl rfl rfl ?_
              refine r_getS (pc' := 66) d118_63 rfl o118 sf11_43_11 sh0 (pl hN rfl) (rfc0_4 gC) ?_
              refine r_aload (pc' := 68) d118_66 rfl rfl ?_
              refine r_call (pc' := 71) [vR (some 16), vR (some (b + 8 + j))] [] d118_68 rfl o118 st11_303_8 (rcv1 sh16 (pl gN rfl)) rfl (by decide) ⟨rfl, rfl⟩ (Nat.le_of_ble_eq_true rfl) rfl (t_becomeT g2 hb (by omega) (by rw [fwH_o (by omega)]; exact hbz j hj0) ?_)
              refine r_aload_n (pc' := 72) d118_71 rfl rfl rfl ?_
              refine r_ldc (pc' := 74) d118_72 rfl o118 kc11_243 ?_
              refine r_putI (pc' := 77) d118_74 rfl o118 sp11_318_11 sh0 (fun w => absurd w (by decide)) (Or.inl rfl) (pl hN rfl) ?_
              rw [tH_s15, show kq (fwH h b L (hi h (b + 8 + j) 2) n) (b + 8 + j) = (kq h (b + 8 + j)) from rfl]
              generalize hF : (becV (hi (fwH h b L (hi h (b + 8 + j) 2) n) 16) (hi (fwH h b L (hi h (b + 8 + j) 2) n) (b + 8 + j))) = F
              obtain ⟨gN, gC, g5, gc, gK, gT⟩ := fH_gi (q := (kq h (b + 8 + j))) (f := F) (o := none) g2 hb
              have eJ : hi (fH (fwH h b L (hi h (b + 8 + j) 2) n) (kq h (b + 8 + j)) F none) (b + 8 + j) = hi h (b + 8 + j) := (fH_o (by omega) (by omega)).trans (fwH_o (by omega))
              have e2 : F 2 = hi h (b + 8 + j) 2 := by rw [← hF, bec2 _ _ 2 (by decide) (by decide), fwH_o (by omega)]
              have e7 : F 7 = hi h (b + 8 + j) 7 := by rw [← hF, bec2 _ _ 7 (by decide) (by decide), fwH_o (by omega)]
              refine r_aload (pc' := 79) d118_77 rfl rfl ?_
              refine r_getI (pc' := 82) d118_79 rfl o118 sf11_250_8 (shT hb (by omega)) (plo hN (by omega)) ?_
              refine r_if_ne 107 (pc' := 85) d118_82 rfl rfl (fun c82 => ?_) (fun c82 => ?_)
              · refine wp_pick (ls' := [(0, vR (some 0)), (3, vI _)]) [1, 4] rfl ?_
                have kW2 := kW j hj0 hj n hn1 hn12 rfl ⟨Int32.not_lt.mp c27, c32⟩ c46 F
                rw [show cfO h b L j n = none by unfold cfO; rw [if_neg (by rw [eJ] at c82; exact c82)]] at kW2
                exact r_flips g2.1 (fun z hz => by cases hz) kW2
              · refine r_aload_n (pc' := 86) d118_85 rfl rfl rfl ?_
                refine r_iconst (v := 0) (pc' := 87) d118_86 rfl (by decide) ?_
                refine r_iload_n (pc' := 88) d118_87 rfl rfl rfl ?_
                refine r_iconst (v := 0) (pc' := 89) d118_88 rfl (by decide) ?_
                refine r_aload (pc' := 91) d118_89 rfl rfl ?_
                refine r_getI (pc' := 94) d118_91 rfl o118 sf11_285_8 (shT hb (by omega)) (plo hN (by omega)) ?_
                refine r_aload (pc' := 96) d118_94 rfl rfl ?_
                refine r_getI (pc' := 99) d118_96 rfl o118 sf11_288_8 (shT hb (by omega)) (plo hN (by omega)) ?_
                refine r_aload (pc' := 101) d118_99 rfl rfl ?_
                refine r_getI (pc' := 104) d118_101 rfl o118 sf11_244_8 (shT hb (by omega)) (plo hN (by omega)) ?_
                rw [eJ]
                refine r_call (pc' := 107) [vR (some 0), vI _, vI _, vI _, vI _, vI _, vI _] [] d118_104 rfl o118 st11_321_11 (rcv1 sh0 (pl hN rfl)) rfl (by decide) ⟨rfl, rfl⟩ (Nat.le_of_ble_eq_true rfl) rfl ((fun zz => zz) (by have z := c_tryFlips (q := (kq h (b + 8 + j))) (n := n) g2 hb (g.2.2.2.2.2 j (by omega)).2 hn12 n (Nat.le_refl n) (d + 27) 0 (hi h (b + 8 + j) 4) (hi h (b + 8 + j) 5) (hi h (b + 8 + j) 3) none F (fun r h1 => r = none ∧ ∃ f1, h1 = fH (fwH h b L (hi h (b + 8 + j) 2) n) (kq h (b + 8 + j)) f1 (cfO h b L j n)) (by omega) (by rw [Nat.sub_self]; decide) (fun y hy => by cases hy) (by rw [e7]; rw [eJ] at c82; exact c82) (fun f1 k7 k2 => ⟨rfl, f1, by unfold cfO; rw [if_pos (by rw [eJ] at c82; exact c82), e2, fwH_o (y := b) (by omega)]⟩); rw [Nat.sub_self] at z; exact z.mono (fun r h1 k => by obtain ⟨rfl, f1, rfl⟩ := k; exact (wp_pick (ls' := [(0, vR (some 0)), (3, vI _)]) [1, 4] rfl (r_flips (o := cfO h b L j n) g2.1 (cfO_4 _ _ _ _ _ hn12) (kW j hj0 hj n hn1 hn12 rfl ⟨Int32.not_lt.mp c27, c32⟩ c46 f1))))))
            · refine r_ldc (pc' := 51) d118_49 rfl o118 kc11_167 ?_
              exact r_iretI d118_51 rfl (kS j hj0 hj ⟨Int32.not_lt.mp c17, Int32.not_lt.mp c23⟩ ⟨Int32.not_lt.mp c27, c32⟩ c46)
          · refine r_ldc (pc' := 37) d118_35 rfl o118 kc11_100 ?_
            exact r_iretI d118_37 rfl (kB (by first | exact Or.inl hbad | exact Or.inr (Or.inl (fun w => absurd w.1 (Int32.not_le.mpr c17))) | exact Or.inr (Or.inl (fun w => absurd w.2 (Int32.not_le.mpr c23))) | exact Or.inr (Or.inr (fun w => absurd w.1 (Int32.not_le.mpr c27))) | exact Or.inr (Or.inr (fun w => c32 w.2))))
