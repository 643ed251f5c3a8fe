/-! the class: yards told, kept, brought back (printed by wip/whole/m57.py) -/
theorem r_copyN {d M : Nat} {Q : Option AV → Hp → Prop} {kc ks pc pc' : Nat} {ls : List (Nat × AV)} {st : List AV} {h : Hp} {o0 o1 n0 n1 idx sp dp n : Nat} {spv dpv nv : Int32} (e1 : spv = nI sp) (e2 : dpv = nI dp) (e3 : nv = nI n) (hd : fet M pc = .ok (.invokestatic idx, 3)) (hp : pc + 3 = pc') {on : String} (hon : own M = on) (h1 : Cond.methodLink on idx arraycopyName ∈ TBL) (hs0 : SH o0 = (1, n0)) (hs1 : SH o1 = (1, n1)) (ho0 : o0 < hn h) (ho1 : o1 < hn h) (c4 : sp + n ≤ n0) (c5 : dp + n ≤ n1) (b0 : n0 < 3000) (b1 : n1 < 3000) (hwt : (st.map wt).sum ≤ 8) (kk : wp (d + 1) M Q kc ks pc' ls st (setw h o1 (va_cpy (hi h o0) (hi h o1) sp dp n))) : wp (d + 1) M Q kc ks pc ls (vI nv :: vI dpv :: vR (some o1) :: vI spv :: vR (some o0) :: st) h := by
  subst e1 e2 e3
  refine r_copy hd hp hon h1 js_n js_s js_i hs0 hs1 ho0 ho1 (nI_pos (by omega)) (nI_pos (by omega)) (nI_pos (by omega)) (by rw [nI_clamp (by omega), nI_clamp (by omega)]; exact c4) (by rw [nI_clamp (by omega), nI_clamp (by omega)]; exact c5) hwt ?_
  rw [nI_clamp (by omega), nI_clamp (by omega), nI_clamp (by omega)]
  exact kk
def clV (f : Nat → Int32) : Nat → Int32 := upd (upd (upd (upd f 3 0) 4 0) 8 0) 10 0
theorem y_clear {d : Nat} {h : Hp} {Q : Option AV → Hp → Prop} {b : Nat} (hN : hn h = 65) (hb : b = 17 ∨ b = 31) (k : Q none (setw h b (clV (hi h b)))) : Spec d 60 [vR (some b)] h Q := by
  refine spec_intro (by decide +kernel) rfl (Nat.le_of_ble_eq_true rfl) ?_
  refine r_aload_n (pc' := 1) d60_0 rfl rfl rfl ?_
  refine r_iconst (v := 0) (pc' := 2) d60_1 rfl (by decide) ?_
  refine r_putI (pc' := 5) d60_2 rfl o60 sp10_43_10 (shY hb) (fun w => absurd w (by decide)) (Or.inl rfl) (plo hN (by omega)) ?_
  refine r_aload_n (pc' := 6) d60_5 rfl rfl rfl ?_
  refine r_iconst (v := 0) (pc' := 7) d60_6 rfl (by decide) ?_
  refine r_putI (pc' := 10) d60_7 rfl o60 sp10_47_10 (shY hb) (fun w => absurd w (by decide)) (Or.inl rfl) (plo hN (by omega)) ?_
  refine r_aload_n (pc' := 11) d60_10 rfl rfl rfl ?_
  refine r_iconst (v := 0) (pc' := 12) d60_11 rfl (by decide) ?_
  refine r_putI (pc' := 15) d60_12 rfl o60 sp10_50_10 (shY hb) (fun w => absurd w (by decide)) (Or.inl rfl) (plo hN (by omega)) ?_
  refine r_aload_n (pc' := 16) d60_15 rfl rfl rfl ?_
  refine r_iconst (v := 0) (pc' := 17) d60_16 rfl (by decide) ?_
  refine r_putI (pc' := 20) d60_17 rfl o60 sp10_53_10 (shY hb) (fun w => absurd w (by decide)) (Or.inl rfl) (plo hN (by omega)) ?_
  exact r_ret d60_20 rfl (qh (by simp only [seti_w, hi_setw_row, setw_w]; rfl) k)
theorem y_addCoal {d : Nat} {h : Hp} {Q : Option AV → Hp → Prop} {b L : Nat} {cell fire fr : Int32} (hN : hn h = 65) (hC : RC h) (hb : b = 17 ∨ b = 31) (hL : hi h b 4 = nI L) (hL8 : L < 8) (k : Q none (seti (seti (seti (seti h (b + 1) L cell) (b + 2) L fire) (b + 3) L fr) b 4 (nI (L + 1)))) : Spec d 61 [vR (some b), vI cell, vI fire, vI fr] h Q := by
  have hn1 : b ≠ b + 1 := by omega
  have hn2 : b ≠ b + 2 := by omega
  have hn3 : b ≠ b + 3 := by omega
  have hn5 : b ≠ b + 5 := by omega
  have hn6 : b ≠ b + 6 := by omega
  have hn7 : b ≠ b + 7 := by omega
  refine spec_intro (by decide +kernel) rfl (Nat.le_of_ble_eq_true rfl) ?_
  refine r_aload_n (pc' := 1) d61_0 rfl rfl rfl ?_
  refine r_getI (pc' := 4) d61_1 rfl o61 sf10_47_10 (shY hb) (plo hN (by omega)) ?_
  refine wp_v (y := nI L) ((show hi _ b 4 = hi h b 4 by first | rfl | simp only [seti_w, hi_setw_ne _ (b + 1) _ b hn1, hi_setw_ne _ (b + 2) _ b hn2, hi_setw_ne _ (b + 3) _ b hn3, hi_setw_ne _ (b + 5) _ b hn5, hi_setw_ne _ (b + 6) _ b hn6, hi_setw_ne _ (b + 7) _ b hn7]).trans hL) ?_
  refine r_bipush (v := 8) (pc' := 6) d61_4 rfl (by decide) ?_
  refine r_icmp_ge 49 (pc' := 9) d61_6 rfl rfl (fun c6 => absurd c6 (nI_ge (a := L) (b := 8) (by omega) (by decide))) (fun c6 => ?_)
  refine r_aload_n (pc' := 10) d61_9 rfl rfl rfl ?_
  refine r_getS (pc' := 13) d61_10 rfl o61 sf10_11_10 (shY hb) (plo hN (by omega)) (rY5 hC hb) ?_
  refine r_aload_n (pc' := 14) d61_13 rfl rfl rfl ?_
  refine r_getI (pc' := 17) d61_14 rfl o61 sf10_47_10 (shY hb) (plo hN (by omega)) ?_
  refine wp_v (y := nI L) ((show hi _ b 4 = hi h b 4 by first | rfl | simp only [seti_w, hi_setw_ne _ (b + 1) _ b hn1, hi_setw_ne _ (b + 2) _ b hn2, hi_setw_ne _ (b + 3) _ b hn3, hi_setw_ne _ (b + 5) _ b hn5, hi_setw_ne _ (b + 6) _ b hn6, hi_setw_ne _ (b + 7) _ b hn7]).trans hL) ?_
  refine r_iload_n (pc' := 18) d61_17 rfl rfl rfl ?_
  refine r_iastN (pc' := 19) (j := L) d61_18 rfl (shY1 hb) (plo hN (by omega)) rfl (by omega) (by decide) ?_
  refine r_aload_n (pc' := 20) d61_19 rfl rfl rfl ?_
  refine r_getS (pc' := 23) d61_20 rfl o61 sf10_17_10 (shY hb) (plo hN (by omega)) (rY6 hC hb) ?_
  refine r_aload_n (pc' := 24) d61_23 rfl rfl rfl ?_
  refine r_getI (pc' := 27) d61_24 rfl o61 sf10_47_10 (shY hb) (plo hN (by omega)) ?_
  refine wp_v (y := nI L) ((show hi _ b 4 = hi h b 4 by first | rfl | simp only [seti_w, hi_setw_ne _ (b + 1) _ b hn1, hi_setw_ne _ (b + 2) _ b hn2, hi_setw_ne _ (b + 3) _ b hn3, hi_setw_ne _ (b + 5) _ b hn5, hi_setw_ne _ (b + 6) _ b hn6, hi_setw_ne _ (b + 7) _ b hn7]).trans hL) ?_
  refine r_iload_n (pc' := 28) d61_27 rfl rfl rfl ?_
  refine r_iastN (pc' := 29) (j := L) d61_28 rfl (shY2 hb) (plo hN (by omega)) rfl (by omega) (by decide) ?_
  refine r_aload_n (pc' := 30) d61_29 rfl rfl rfl ?_
  refine r_getS (pc' := 33) d61_30 rfl o61 sf10_20_10 (shY hb) (plo hN (by omega)) (rY7 hC hb) ?_
  refine r_aload_n (pc' := 34) d61_33 rfl rfl rfl ?_
  refine r_getI (pc' := 37) d61_34 rfl o61 sf10_47_10 (shY hb) (plo hN (by omega)) ?_
  refine wp_v (y := nI L) ((show hi _ b 4 = hi h b 4 by first | rfl | simp only [seti_w, hi_setw_ne _ (b + 1) _ b hn1, hi_setw_ne _ (b + 2) _ b hn2, hi_setw_ne _ (b + 3) _ b hn3, hi_setw_ne _ (b + 5) _ b hn5, hi_setw_ne _ (b + 6) _ b hn6, hi_setw_ne _ (b + 7) _ b hn7]).trans hL) ?_
  refine r_iload_n (pc' := 38) d61_37 rfl rfl rfl ?_
  refine r_iastN (pc' := 39) (j := L) d61_38 rfl (shY3 hb) (plo hN (by omega)) rfl (by omega) (by decide) ?_
  refine r_aload_n (pc' := 40) d61_39 rfl rfl rfl ?_
  refine r_dupR (pc' := 41) d61_40 rfl ?_
  refine r_getI (pc' := 44) d61_41 rfl o61 sf10_47_10 (shY hb) (plo hN (by omega)) ?_
  refine wp_v (y := nI L) ((show hi _ b 4 = hi h b 4 by first | rfl | simp only [seti_w, hi_setw_ne _ (b + 1) _ b hn1, hi_setw_ne _ (b + 2) _ b hn2, hi_setw_ne _ (b + 3) _ b hn3, hi_setw_ne _ (b + 5) _ b hn5, hi_setw_ne _ (b + 6) _ b hn6, hi_setw_ne _ (b + 7) _ b hn7]).trans hL) ?_
  refine r_iconst (v := 1) (pc' := 45) d61_44 rfl (by decide) ?_
  refine r_iadd (pc' := 46) d61_45 rfl ?_
  refine r_putI (pc' := 49) d61_46 rfl o61 sp10_47_10 (shY hb) (fun w => absurd w (by decide)) (Or.inl rfl) (plo hN (by omega)) ?_
  exact r_ret d61_49 rfl (qh (congrArg (seti _ b 4) (nI_1 L).symm) k)
theorem y_addEater {d : Nat} {h : Hp} {Q : Option AV → Hp → Prop} {b z : Nat} {kd mi : Int32} (hN : hn h = 65) (hC : RC h) (hb : b = 17 ∨ b = 31) (hL : hi h b 10 = nI z) (hL8 : z < 4) (k : Q none (seti (seti (seti (seti h (b + 5) z kd) (b + 6) z mi) (b + 7) z (-1000000)) b 10 (nI (z + 1)))) : Spec d 63 [vR (some b), vI kd, vI mi] h Q := by
  have hn1 : b ≠ b + 1 := by omega
  have hn2 : b ≠ b + 2 := by omega
  have hn3 : b ≠ b + 3 := by omega
  have hn5 : b ≠ b + 5 := by omega
  have hn6 : b ≠ b + 6 := by omega
  have hn7 : b ≠ b + 7 := by omega
  refine spec_intro (by decide +kernel) rfl (Nat.le_of_ble_eq_true rfl) ?_
  refine r_aload_n (pc' := 1) d63_0 rfl rfl rfl ?_
  refine r_getI (pc' := 4) d63_1 rfl o63 sf10_53_10 (shY hb) (plo hN (by omega)) ?_
  refine wp_v (y := nI z) ((show hi _ b 10 = hi h b 10 by first | rfl | simp only [seti_w, hi_setw_ne _ (b + 1) _ b hn1, hi_setw_ne _ (b + 2) _ b hn2, hi_setw_ne _ (b + 3) _ b hn3, hi_setw_ne _ (b + 5) _ b hn5, hi_setw_ne _ (b + 6) _ b hn6, hi_setw_ne _ (b + 7) _ b hn7]).trans hL) ?_
  refine r_iconst (v := 4) (pc' := 5) d63_4 rfl (by decide) ?_
  refine r_icmp_ge 49 (pc' := 8) d63_5 rfl rfl (fun c5 => absurd c5 (nI_ge (a := z) (b := 4) (by omega) (by decide))) (fun c5 => ?_)
  refine r_aload_n (pc' := 9) d63_8 rfl rfl rfl ?_
  refine r_getS (pc' := 12) d63_9 rfl o63 sf10_27_10 (shY hb) (plo hN (by omega)) (rY11 hC hb) ?_
  refine r_aload_n (pc' := 13) d63_12 rfl rfl rfl ?_
  refine r_getI (pc' := 16) d63_13 rfl o63 sf10_53_10 (shY hb) (plo hN (by omega)) ?_
  refine wp_v (y := nI z) ((show hi _ b 10 = hi h b 10 by first | rfl | simp only [seti_w, hi_setw_ne _ (b + 1) _ b hn1, hi_setw_ne _ (b + 2) _ b hn2, hi_setw_ne _ (b + 3) _ b hn3, hi_setw_ne _ (b + 5) _ b hn5, hi_setw_ne _ (b + 6) _ b hn6, hi_setw_ne _ (b + 7) _ b hn7]).trans hL) ?_
  refine r_iload_n (pc' := 17) d63_16 rfl rfl rfl ?_
  refine r_iastN (pc' := 18) (j := z) d63_17 rfl (shY5 hb) (plo hN (by omega)) rfl (by omega) (by decide) ?_
  refine r_aload_n (pc' := 19) d63_18 rfl rfl rfl ?_
  refine r_getS (pc' := 22) d63_19 rfl o63 sf10_30_10 (shY hb) (plo hN (by omega)) (rY12 hC hb) ?_
  refine r_aload_n (pc' := 23) d63_22 rfl rfl rfl ?_
  refine r_getI (pc' := 26) d63_23 rfl o63 sf10_53_10 (shY hb) (plo hN (by omega)) ?_
  refine wp_v (y := nI z) ((show hi _ b 10 = hi h b 10 by first | rfl | simp only [seti_w, hi_setw_ne _ (b + 1) _ b hn1, hi_setw_ne _ (b + 2) _ b hn2, hi_setw_ne _ (b + 3) _ b hn3, hi_setw_ne _ (b + 5) _ b hn5, hi_setw_ne _ (b + 6) _ b hn6, hi_setw_ne _ (b + 7) _ b hn7]).trans hL) ?_
  refine r_iload_n (pc' := 27) d63_26 rfl rfl rfl ?_
  refine r_iastN (pc' := 28) (j := z) d63_27 rfl (shY6 hb) (plo hN (by omega)) rfl (by omega) (by decide) ?_
  refine r_aload_n (pc' := 29) d63_28 rfl rfl rfl ?_
  refine r_getS (pc' := 32) d63_29 rfl o63 sf10_33_10 (shY hb) (plo hN (by omega)) (rY13 hC hb) ?_
  refine r_aload_n (pc' := 33) d63_32 rfl rfl rfl ?_
  refine r_getI (pc' := 36) d63_33 rfl o63 sf10_53_10 (shY hb) (plo hN (by omega)) ?_
  refine wp_v (y := nI z) ((show hi _ b 10 = hi h b 10 by first | rfl | simp only [seti_w, hi_setw_ne _ (b + 1) _ b hn1, hi_setw_ne _ (b + 2) _ b hn2, hi_setw_ne _ (b + 3) _ b hn3, hi_setw_ne _ (b + 5) _ b hn5, hi_setw_ne _ (b + 6) _ b hn6, hi_setw_ne _ (b + 7) _ b hn7]).trans hL) ?_
  refine r_ldc (pc' := 38) d63_36 rfl o63 kc10_64 ?_
  refine r_iastN (pc' := 39) (j := z) d63_38 rfl (shY7 hb) (plo hN (by omega)) rfl (by omega) (by decide) ?_
  refine r_aload_n (pc' := 40) d63_39 rfl rfl rfl ?_
  refine r_dupR (pc' := 41) d63_40 rfl ?_
  refine r_getI (pc' := 44) d63_41 rfl o63 sf10_53_10 (shY hb) (plo hN (by omega)) ?_
  refine wp_v (y := nI z) ((show hi _ b 10 = hi h b 10 by first | rfl | simp only [seti_w, hi_setw_ne _ (b + 1) _ b hn1, hi_setw_ne _ (b + 2) _ b hn2, hi_setw_ne _ (b + 3) _ b hn3, hi_setw_ne _ (b + 5) _ b hn5, hi_setw_ne _ (b + 6) _ b hn6, hi_setw_ne _ (b + 7) _ b hn7]).trans hL) ?_
  refine r_iconst (v := 1) (pc' := 45) d63_44 rfl (by decide) ?_
  refine r_iadd (pc' := 46) d63_45 rfl ?_
  refine r_putI (pc' := 49) d63_46 rfl o63 sp10_53_10 (shY hb) (fun w => absurd w (by decide)) (Or.inl rfl) (plo hN (by omega)) ?_
  exact r_ret d63_49 rfl (qh (congrArg (seti _ b 10) (nI_1 z).symm) k)
theorem y_addThing {d : Nat} {h : Hp} {Q : Option AV → Hp → Prop} {b m : Nat} {kd pl : Int32} (hN : hn h = 65) (hC : RC h) (hb : b = 17 ∨ b = 31) (hm : hi h b 8 = nI m) (hm6 : m < 6) (k : Q none (seti (setw (setr h (b + 8 + m) 1 (some (10 + kO kd))) (b + 8 + m) (coldV pl (hi h (b + 8 + m)))) b 8 (nI (m + 1)))) : Spec (d + 1) 62 [vR (some b), vI kd, vI pl] h Q := by
  refine spec_intro (by decide +kernel) rfl (Nat.le_of_ble_eq_true rfl) ?_
  refine r_aload_n (pc' := 1) d62_0 rfl rfl rfl ?_
  refine r_getI (pc' := 4) d62_1 rfl o62 sf10_50_10 (shY hb) (plo hN (by omega)) ?_
  refine wp_v (y := nI m) (show hi _ b 8 = nI m from (by first | exact hm | (rw [hi_setw_ne _ _ _ _ (show b ≠ b + 8 + m by omega)]; exact hm))) ?_
  refine r_bipush (v := 6) (pc' := 6) d62_4 rfl (by decide) ?_
  refine r_icmp_ge 37 (pc' := 9) d62_6 rfl rfl (fun c6 => absurd c6 (nI_ge (a := m) (b := 6) (by omega) (by decide))) (fun c6 => ?_)
  refine r_aload_n (pc' := 10) d62_9 rfl rfl rfl ?_
  refine r_getS (pc' := 13) d62_10 rfl o62 sf10_23_10 (shY hb) (plo hN (by omega)) (rY9 hC hb) ?_
  refine r_aload_n (pc' := 14) d62_13 rfl rfl rfl ?_
  refine r_getI (pc' := 17) d62_14 rfl o62 sf10_50_10 (shY hb) (plo hN (by omega)) ?_
  refine wp_v (y := nI m) (show hi _ b 8 = nI m from (by first | exact hm | (rw [hi_setw_ne _ _ _ _ (show b ≠ b + 8 + m by omega)]; exact hm))) ?_
  refine r_aaldTN (pc' := 18) (j := m) d62_17 rfl (shY4 hb) (plo hN (by omega)) rfl (by omega) (by decide) (rYt hC hb (by omega)) ?_
  refine r_aload_n (pc' := 19) d62_18 rfl rfl rfl ?_
  refine r_iload_n (pc' := 20) d62_19 rfl rfl rfl ?_
  refine r_call (pc' := 23) [vR (some b), vI _] [vR (some (b + 8 + m))] d62_20 rfl o62 st10_56_10 (rcv1 (shY hb) (plo hN (by omega))) rfl (by decide) ⟨rfl, rfl⟩ (Nat.le_of_ble_eq_true rfl) rfl (y_kindOf hN hC hb ?_)
  refine r_iload_n (pc' := 24) d62_23 rfl rfl rfl ?_
  refine r_call (pc' := 27) [vR (some (b + 8 + m)), vR (some (10 + kO kd)), vI _] [] d62_24 rfl o62 st10_60_8 (rcv1 (shT hb (by omega)) (plo hN (by omega))) rfl (by decide) ⟨rfl, rfl⟩ (Nat.le_of_ble_eq_true rfl) rfl (t_layCold hN (shT hb (by omega)) (by omega) ?_)
  refine r_aload_n (pc' := 28) d62_27 rfl rfl rfl ?_
  refine r_dupR (pc' := 29) d62_28 rfl ?_
  refine r_getI (pc' := 32) d62_29 rfl o62 sf10_50_10 (shY hb) (plo hN (by omega)) ?_
  refine wp_v (y := nI m) (show hi _ b 8 = nI m from (by first | exact hm | (rw [hi_setw_ne _ _ _ _ (show b ≠ b + 8 + m by omega)]; exact hm))) ?_
  refine r_iconst (v := 1) (pc' := 33) d62_32 rfl (by decide) ?_
  refine r_iadd (pc' := 34) d62_33 rfl ?_
  refine r_putI (pc' := 37) d62_34 rfl o62 sp10_50_10 (shY hb) (fun w => absurd w (by decide)) (Or.inl rfl) (plo hN (by omega)) ?_
  exact r_ret d62_37 rfl (qh (congrArg (seti _ b 8) (nI_1 m).symm) k)
def ytV (h : Hp) (o l : Nat) : Int32 := if l = 0 then nI (kq h o) else if l = 6 then (if hi h o 7 = 0 then 0 else 1) else hi h o (l + 1)
/-- a yard as 84 numbers -/
def yv (h : Hp) (b r : Nat) : Int32 :=
  if r < 6 then hi h b (if r < 4 then r + 1 else if r < 5 then 8 else 10)
  else if r < 14 then hi h (b + 1) (r - 6) else if r < 22 then hi h (b + 2) (r - 14) else if r < 30 then hi h (b + 3) (r - 22)
  else if r < 34 then hi h (b + 5) (r - 30) else if r < 38 then hi h (b + 6) (r - 34) else if r < 42 then hi h (b + 7) (r - 38)
  else ytV h (b + 8 + (r - 42) / 7) ((r - 42) % 7)
theorem yv_c {h : Hp} {b i : Nat} (hi0 : i < 8) : yv h b (6 + i) = hi h (b + 1) i := by
  unfold yv; rw [if_neg (by omega), if_pos (by omega), Nat.add_sub_cancel_left]
theorem yv_f {h : Hp} {b i : Nat} (hi0 : i < 8) : yv h b (14 + i) = hi h (b + 2) i := by
  unfold yv; rw [if_neg (by omega), if_neg (by omega), if_pos (by omega), Nat.add_sub_cancel_left]
theorem yv_r {h : Hp} {b i : Nat} (hi0 : i < 8) : yv h b (22 + i) = hi h (b + 3) i := by
  unfold yv; rw [if_neg (by omega), if_neg (by omega), if_neg (by omega), if_pos (by omega), Nat.add_sub_cancel_left]
theorem yv_k {h : Hp} {b i : Nat} (hi0 : i < 4) : yv h b (30 + i) = hi h (b + 5) i := by
  unfold yv; rw [if_neg (by omega), if_neg (by omega), if_neg (by omega), if_neg (by omega), if_pos (by omega), Nat.add_sub_cancel_left]
theorem yv_m {h : Hp} {b i : Nat} (hi0 : i < 4) : yv h b (34 + i) = hi h (b + 6) i := by
  unfold yv; rw [if_neg (by omega), if_neg (by omega), if_neg (by omega), if_neg (by omega), if_neg (by omega), if_pos (by omega), Nat.add_sub_cancel_left]
theorem yv_s {h : Hp} {b i : Nat} (hi0 : i < 4) : yv h b (38 + i) = hi h (b + 7) i := by
  unfold yv; rw [if_neg (by omega), if_neg (by omega), if_neg (by omega), if_neg (by omega), if_neg (by omega), if_neg (by omega), if_pos (by omega), Nat.add_sub_cancel_left]
theorem yv_t {h : Hp} {b i l : Nat} (hl : l < 7) : yv h b (42 + 7 * i + l) = ytV h (b + 8 + i) l := by
  unfold yv; rw [if_neg (by omega), if_neg (by omega), if_neg (by omega), if_neg (by omega), if_neg (by omega), if_neg (by omega), if_neg (by omega), show (42 + 7 * i + l - 42) / 7 = i by omega, show (42 + 7 * i + l - 42) % 7 = l by omega]
def imG (h : Hp) (b j : Nat) : Nat → Int32 := fun i => yv h b (i - j)
def imA (h : Hp) (b a j n : Nat) : Hp := setw h a (mix (imG h b j) (hi h a) j n)
theorem imG_at (h : Hp) (b j n : Nat) : imG h b j (j + n) = yv h b n := by unfold imG; rw [Nat.add_sub_cancel_left]
theorem imA_0 (h : Hp) (b a j : Nat) : imA h b a j 0 = h := by unfold imA; rw [mix_0, setw_self]
theorem imA_s {h : Hp} {b a j n : Nat} {v : Int32} (hv : v = yv h b n) : seti (imA h b a j n) a (j + n) v = imA h b a j (n + 1) := by
  unfold imA
  rw [seti_setw]
  exact congrArg (setw h a) (mixv _ _ j n (by rw [imG_at]; exact hv))
theorem imA_o {h : Hp} {b a j n x : Nat} (hx : x ≠ a) : hi (imA h b a j n) x = hi h x := hi_setw_ne _ _ _ _ hx
theorem imA_c {h : Hp} {b a j n x w : Nat} (hx : x ≠ a) (hv : ∀ i, i < w → hi h x i = yv h b (n + i)) : setw (imA h b a j n) a (va_cpy (hi (imA h b a j n) x) (hi (imA h b a j n) a) 0 (j + n) w) = imA h b a j (n + w) := by
  rw [imA_o hx]
  unfold imA
  rw [hi_setw_row, setw_w]
  refine congrArg (setw h a) ?_
  funext i
  unfold va_cpy
  by_cases h1 : j + n ≤ i ∧ i < j + n + w
  · rw [if_pos h1, mix_in _ _ (show j ≤ i ∧ i < j + (n + w) by omega), Nat.zero_add, hv (i - (j + n)) (by omega)]
    show _ = yv h b (i - j)
    rw [show n + (i - (j + n)) = i - j by omega]
  · rw [if_neg h1]
    by_cases h2 : j ≤ i ∧ i < j + n
    · rw [mix_in _ _ h2, mix_in _ _ (show j ≤ i ∧ i < j + (n + w) by omega)]
    · rw [mix_out _ _ h2, mix_out _ _ (show ¬ (j ≤ i ∧ i < j + (n + w)) by omega)]
theorem imA_t {h : Hp} {b a j k : Nat} (hx : b + 8 + k ≠ a) : setw (imA h b a j (42 + 7 * k)) a (savV (hi (imA h b a j (42 + 7 * k)) a) (j + (42 + 7 * k)) (kq h (b + 8 + k)) (hi (imA h b a j (42 + 7 * k)) (b + 8 + k))) = imA h b a j (42 + 7 * (k + 1)) := by
  rw [imA_o hx]
  unfold savV imA
  rw [hi_setw_row, setw_w]
  refine congrArg (setw h a) ?_
  have st : ∀ (l : Nat) (v : Int32), l < 7 → v = ytV h (b + 8 + k) l → upd (mix (imG h b j) (hi h a) j (42 + 7 * k + l)) (j + (42 + 7 * k) + l) v = mix (imG h b j) (hi h a) j (42 + 7 * k + (l + 1)) := by
    intro l v hl hv
    rw [Nat.add_assoc j]
    exact mixv _ _ j (42 + 7 * k + l) (by rw [imG_at, yv_t hl]; exact hv)
  rw [show upd (mix (imG h b j) (hi h a) j (42 + 7 * k)) (j + (42 + 7 * k)) (nI (kq h (b + 8 + k))) = mix (imG h b j) (hi h a) j (42 + 7 * k + 1) from st 0 _ (by decide) rfl, st 1 (hi h (b + 8 + k) 2) (by decide) rfl, st 2 (hi h (b + 8 + k) 3) (by decide) rfl, st 3 (hi h (b + 8 + k) 4) (by decide) rfl, st 4 (hi h (b + 8 + k) 5) (by decide) rfl, st 5 (hi h (b + 8 + k) 6) (by decide) rfl, st 6 (if hi h (b + 8 + k) 7 = 0 then 0 else 1) (by decide) rfl]
  rfl
theorem y_save {d : Nat} {h : Hp} {Q : Option AV → Hp → Prop} {b a N j : Nat} (hN : hn h = 65) (hC : RC h) (hb : b = 17 ∨ b = 31) (hK : KC h) (hT : KT h b) (ha : SH a = (1, N)) (ha45 : 45 ≤ a) (hal : a < 65) (hjN : j + 84 ≤ N) (hNN : N < 3000) (kk : Q none (imA h b a j 84)) : Spec (d + 2) 83 [vR (some b), vR (some a), vI (nI j)] h Q := by
  refine spec_intro (by decide +kernel) rfl (Nat.le_of_ble_eq_true rfl) ?_
  refine r_iload_n (pc' := 1) d83_0 rfl rfl rfl ?_
  refine r_if_lt 13 (pc' := 4) d83_1 rfl rfl (fun c1 => absurd c1 (nI_pos (by omega))) (fun c1 => ?_)
  refine r_iload_n (pc' := 5) d83_4 rfl rfl rfl ?_
  refine r_aload_n (pc' := 6) d83_5 rfl rfl rfl ?_
  refine r_alen (pc' := 7) d83_6 rfl ha (by decide) (plo hN hal) ?_
  refine r_bipush (v := 84) (pc' := 9) d83_7 rfl (by decide) ?_
  refine r_isub (pc' := 10) d83_9 rfl ?_
  refine r_icmp_le 14 (pc' := 13) d83_10 rfl rfl (fun c10 => ?_) (fun c10 => absurd (by show nI j ≤ nI N - nI 84; rw [pk_sub (by omega)]; exact nI_le (by omega) (by omega)) c10)
  refine wp_heap (h' := imA h b a j 0) (imA_0 h b a j).symm ?_
  refine r_aload_n (pc' := 15) d83_14 rfl rfl rfl ?_
  refine r_iload_n (pc' := 16) d83_15 rfl rfl rfl ?_
  refine r_aload_n (pc' := 17) d83_16 rfl rfl rfl ?_
  refine r_getI (pc' := 20) d83_17 rfl o83 sf10_85_10 (shY hb) (plo hN (by omega)) ?_
  refine r_iastN (pc' := 21) (j := (j + 0)) d83_20 rfl ha (plo hN hal) rfl (by omega) (by omega) ?_
  refine wp_heap (h' := imA h b a j 1) (imA_s (n := 0) (by rw [imA_o (show b ≠ a by omega)]; rfl)) ?_
  refine r_aload_n (pc' := 22) d83_21 rfl rfl rfl ?_
  refine r_iload_n (pc' := 23) d83_22 rfl rfl rfl ?_
  refine r_iconst (v := 1) (pc' := 24) d83_23 rfl (by decide) ?_
  refine r_iadd (pc' := 25) d83_24 rfl ?_
  refine r_aload_n (pc' := 26) d83_25 rfl rfl rfl ?_
  refine r_getI (pc' := 29) d83_26 rfl o83 sf10_105_10 (shY hb) (plo hN (by omega)) ?_
  refine r_iastN (pc' := 30) (j := (j + 1)) d83_29 rfl ha (plo hN hal) (by simp only [lit, nI_add, pk_mul]) (by omega) (by omega) ?_
  refine wp_heap (h' := imA h b a j 2) (imA_s (n := 1) (by rw [imA_o (show b ≠ a by omega)]; rfl)) ?_
  refine r_aload_n (pc' := 31) d83_30 rfl rfl rfl ?_
  refine r_iload_n (pc' := 32) d83_31 rfl rfl rfl ?_
  refine r_iconst (v := 2) (pc' := 33) d83_32 rfl (by decide) ?_
  refine r_iadd (pc' := 34) d83_33 rfl ?_
  refine r_aload_n (pc' := 35) d83_34 rfl rfl rfl ?_
  refine r_getI (pc' := 38) d83_35 rfl o83 sf10_43_10 (shY hb) (plo hN (by omega)) ?_
  refine r_iastN (pc' := 39) (j := (j + 2)) d83_38 rfl ha (plo hN hal) (by simp only [lit, nI_add, pk_mul]) (by omega) (by omega) ?_
  refine wp_heap (h' := imA h b a j 3) (imA_s (n := 2) (by rw [imA_o (show b ≠ a by omega)]; rfl)) ?_
  refine r_aload_n (pc' := 40) d83_39 rfl rfl rfl ?_
  refine r_iload_n (pc' := 41) d83_40 rfl rfl rfl ?_
  refine r_iconst (v := 3) (pc' := 42) d83_41 rfl (by decide) ?_
  refine r_iadd (pc' := 43) d83_42 rfl ?_
  refine r_aload_n (pc' := 44) d83_43 rfl rfl rfl ?_
  refine r_getI (pc' := 47) d83_44 rfl o83 sf10_47_10 (shY hb) (plo hN (by omega)) ?_
  refine r_iastN (pc' := 48) (j := (j + 3)) d83_47 rfl ha (plo hN hal) (by simp only [lit, nI_add, pk_mul]) (by omega) (by omega) ?_
  refine wp_heap (h' := imA h b a j 4) (imA_s (n := 3) (by rw [imA_o (show b ≠ a by omega)]; rfl)) ?_
  refine r_aload_n (pc' := 49) d83_48 rfl rfl rfl ?_
  refine r_iload_n (pc' := 50) d83_49 rfl rfl rfl ?_
  refine r_iconst (v := 4) (pc' := 51) d83_50 rfl (by decide) ?_
  refine r_iadd (pc' := 52) d83_51 rfl ?_
  refine r_aload_n (pc' := 53) d83_52 rfl rfl rfl ?_
  refine r_getI (pc' := 56) d83_53 rfl o83 sf10_50_10 (shY hb) (plo hN (by omega)) ?_
  refine r_iastN (pc' := 57) (j := (j + 4)) d83_56 rfl ha (plo hN hal) (by simp only [lit, nI_add, pk_mul]) (by omega) (by omega) ?_
  refine wp_heap (h' := imA h b a j 5) (imA_s (n := 4) (by rw [imA_o (show b ≠ a by omega)]; rfl)) ?_
  refine r_aload_n (pc' := 58) d83_57 rfl rfl rfl ?_
  refine r_iload_n (pc' := 59) d83_58 rfl rfl rfl ?_
  refine r_iconst (v := 5) (pc' := 60) d83_59 rfl (by decide) ?_
  refine r_iadd (pc' := 61) d83_60 rfl ?_
  refine r_aload_n (pc' := 62) d83_61 rfl rfl rfl ?_
  refine r_getI (pc' := 65) d83_62 rfl o83 sf10_53_10 (shY hb) (plo hN (by omega)) ?_
  refine r_iastN (pc' := 66) (j := (j + 5)) d83_65 rfl ha (plo hN hal) (by simp only [lit, nI_add, pk_mul]) (by omega) (by omega) ?_
  refine wp_heap (h' := imA h b a j 6) (imA_s (n := 5) (by rw [imA_o (show b ≠ a by omega)]; rfl)) ?_
  refine r_iload_n (pc' := 67) d83_66 rfl rfl rfl ?_
  refine r_bipush (v := 6) (pc' := 69) d83_67 rfl (by decide) ?_
  refine r_iadd (pc' := 70) d83_69 rfl ?_
  refine r_istore_n (pc' := 71) (ls' := [(3, vI _), (0, vR (some b)), (1, vR (some a)), (2, vI _)]) d83_70 rfl rfl (by decide) rfl ?_
  refine r_aload_n (pc' := 72) d83_71 rfl rfl rfl ?_
  refine r_getS (pc' := 75) d83_72 rfl o83 sf10_11_10 (shY hb) (plo hN (by omega)) (rY5 hC hb) ?_
  refine r_iconst (v := 0) (pc' := 76) d83_75 rfl (by decide) ?_
  refine r_aload_n (pc' := 77) d83_76 rfl rfl rfl ?_
  refine r_iload_n (pc' := 78) d83_77 rfl rfl rfl ?_
  refine r_bipush (v := 8) (pc' := 80) d83_78 rfl (by decide) ?_
  refine r_copyN (pc' := 83) (sp := 0) (dp := (j + 6)) (n := 8) rfl (by simp only [lit, nI_add, pk_mul]) rfl d83_80 rfl o83 st10_148 (shY1 hb) ha (plo hN (by omega)) (plo hN hal) (by omega) (by omega) (by omega) (by omega) (Nat.le_of_ble_eq_true rfl) ?_
  refine wp_heap (h' := imA h b a j 14) (imA_c (n := 6) (w := 8) (show b + 1 ≠ a by omega) (fun i hi0 => (yv_c hi0).symm)) ?_
  refine r_aload_n (pc' := 84) d83_83 rfl rfl rfl ?_
  refine r_getS (pc' := 87) d83_84 rfl o83 sf10_17_10 (shY hb) (plo hN (by omega)) (rY6 hC hb) ?_
  refine r_iconst (v := 0) (pc' := 88) d83_87 rfl (by decide) ?_
  refine r_aload_n (pc' := 89) d83_88 rfl rfl rfl ?_
  refine r_iload_n (pc' := 90) d83_89 rfl rfl rfl ?_
  refine r_bipush (v := 8) (pc' := 92) d83_90 rfl (by decide) ?_
  refine r_iadd (pc' := 93) d83_92 rfl ?_
  refine r_bipush (v := 8) (pc' := 95) d83_93 rfl (by decide) ?_
  refine r_copyN (pc' := 98) (sp := 0) (dp := ((j + 6) + 8)) (n := 8) rfl (by simp only [lit, nI_add, pk_mul]) rfl d83_95 rfl o83 st10_148 (shY2 hb) ha (plo hN (by omega)) (plo hN hal) (by omega) (by omega) (by omega) (by omega) (Nat.le_of_ble_eq_true rfl) ?_
  refine wp_heap (h' := imA h b a j 22) (imA_c (n := 14) (w := 8) (show b + 2 ≠ a by omega) (fun i hi0 => (yv_f hi0).symm)) ?_
  refine r_aload_n (pc' := 99) d83_98 rfl rfl rfl ?_
  refine r_getS (pc' := 102) d83_99 rfl o83 sf10_20_10 (shY hb) (plo hN (by omega)) (rY7 hC hb) ?_
  refine r_iconst (v := 0) (pc' := 103) d83_102 rfl (by decide) ?_
  refine r_aload_n (pc' := 104) d83_103 rfl rfl rfl ?_
  refine r_iload_n (pc' := 105) d83_104 rfl rfl rfl ?_
  refine r_bipush (v := 16) (pc' := 107) d83_105 rfl (by decide) ?_
  refine r_iadd (pc' := 108) d83_107 rfl ?_
  refine r_bipush (v := 8) (pc' := 110) d83_108 rfl (by decide) ?_
  refine r_copyN (pc' := 113) (sp := 0) (dp := ((j + 6) + 16)) (n := 8) rfl (by simp only [lit, nI_add, pk_mul]) rfl d83_110 rfl o83 st10_148 (shY3 hb) ha (plo hN (by omega)) (plo hN hal) (by omega) (by omega) (by omega) (by omega) (Nat.le_of_ble_eq_true rfl) ?_
  refine wp_heap (h' := imA h b a j 30) (imA_c (n := 22) (w := 8) (show b + 3 ≠ a by omega) (fun i hi0 => (yv_r hi0).symm)) ?_
  refine r_iload_n (pc' := 114) d83_113 rfl rfl rfl ?_
  refine r_bipush (v := 24) (pc' := 116) d83_114 rfl (by decide) ?_
  refine r_iadd (pc' := 117) d83_116 rfl ?_
  refine r_istore (pc' := 119) (ls' := [(4, vI _), (3, vI _), (0, vR (some b)), (1, vR (some a)), (2, vI _)]) d83_117 rfl (by decide) rfl ?_
  refine r_aload_n (pc' := 120) d83_119 rfl rfl rfl ?_
  refine r_getS (pc' := 123) d83_120 rfl o83 sf10_27_10 (shY hb) (plo hN (by omega)) (rY11 hC hb) ?_
  refine r_iconst (v := 0) (pc' := 124) d83_123 rfl (by decide) ?_
  refine r_aload_n (pc' := 125) d83_124 rfl rfl rfl ?_
  refine r_iload (pc' := 127) d83_125 rfl rfl ?_
  refine r_iconst (v := 4) (pc' := 128) d83_127 rfl (by decide) ?_
  refine r_copyN (pc' := 131) (sp := 0) (dp := ((j + 6) + 24)) (n := 4) rfl (by simp only [lit, nI_add, pk_mul]) rfl d83_128 rfl o83 st10_148 (shY5 hb) ha (plo hN (by omega)) (plo hN hal) (by omega) (by omega) (by omega) (by omega) (Nat.le_of_ble_eq_true rfl) ?_
  refine wp_heap (h' := imA h b a j 34) (imA_c (n := 30) (w := 4) (show b + 5 ≠ a by omega) (fun i hi0 => (yv_k hi0).symm)) ?_
  refine r_aload_n (pc' := 132) d83_131 rfl rfl rfl ?_
  refine r_getS (pc' := 135) d83_132 rfl o83 sf10_30_10 (shY hb) (plo hN (by omega)) (rY12 hC hb) ?_
  refine r_iconst (v := 0) (pc' := 136) d83_135 rfl (by decide) ?_
  refine r_aload_n (pc' := 137) d83_136 rfl rfl rfl ?_
  refine r_iload (pc' := 139) d83_137 rfl rfl ?_
  refine r_iconst (v := 4) (pc' := 140) d83_139 rfl (by decide) ?_
  refine r_iadd (pc' := 141) d83_140 rfl ?_
  refine r_iconst (v := 4) (pc' := 142) d83_141 rfl (by decide) ?_
  refine r_copyN (pc' := 145) (sp := 0) (dp := (((j + 6) + 24) + 4)) (n := 4) rfl (by simp only [lit, nI_add, pk_mul]) rfl d83_142 rfl o83 st10_148 (shY6 hb) ha (plo hN (by omega)) (plo hN hal) (by omega) (by omega) (by omega) (by omega) (Nat.le_of_ble_eq_true rfl) ?_
  refine wp_heap (h' := imA h b a j 38) (imA_c (n := 34) (w := 4) (show b + 6 ≠ a by omega) (fun i hi0 => (yv_m hi0).symm)) ?_
  refine r_aload_n (pc' := 146) d83_145 rfl rfl rfl ?_
  refine r_getS (pc' := 149) d83_146 rfl o83 sf10_33_10 (shY hb) (plo hN (by omega)) (rY13 hC hb) ?_
  refine r_iconst (v := 0) (pc' := 150) d83_149 rfl (by decide) ?_
  refine r_aload_n (pc' := 151) d83_150 rfl rfl rfl ?_
  refine r_iload (pc' := 153) d83_151 rfl rfl ?_
  refine r_bipush (v := 8) (pc' := 155) d83_153 rfl (by decide) ?_
  refine r_iadd (pc' := 156) d83_155 rfl ?_
  refine r_iconst (v := 4) (pc' := 157) d83_156 rfl (by decide) ?_
  refine r_copyN (pc' := 160) (sp := 0) (dp := (((j + 6) + 24) + 8)) (n := 4) rfl (by simp only [lit, nI_add, pk_mul]) rfl d83_157 rfl o83 st10_148 (shY7 hb) ha (plo hN (by omega)) (plo hN hal) (by omega) (by omega) (by omega) (by omega) (Nat.le_of_ble_eq_true rfl) ?_
  refine wp_heap (h' := imA h b a j 42) (imA_c (n := 38) (w := 4) (show b + 7 ≠ a by omega) (fun i hi0 => (yv_s hi0).symm)) ?_
  refine r_iconst (v := 0) (pc' := 161) d83_160 rfl (by decide) ?_
  refine r_istore (pc' := 163) (ls' := [(5, vI _), (4, vI _), (3, vI _), (0, vR (some b)), (1, vR (some a)), (2, vI _)]) d83_161 rfl (by decide) rfl ?_
  refine wp_pick (ls' := [(0, vR (some b)), (1, vR (some a)), (2, vI _), (3, vI _), (4, vI _), (5, vI _)]) [3, 4, 5, 2, 1, 0] rfl ?_
  have loop : ∀ (r k : Nat), k + r = 6 → wp (d + 2) 83 Q 0 0 163 [(0, vR (some b)), (1, vR (some a)), (2, vI (nI j)), (3, vI (nI (j + 6))), (4, vI (nI (j + 30))), (5, vI (nI k))] [] (imA h b a j (42 + 7 * k)) := by
    intro r
    induction r with
    | zero =>
      intro k hk
      obtain rfl : k = 6 := by omega
      refine r_iload (pc' := 165) d83_163 rfl rfl ?_
      refine r_bipush (v := 6) (pc' := 167) d83_165 rfl (by decide) ?_
      refine r_icmp_ge 198 (pc' := 170) d83_167 rfl rfl (fun c167 => ?_) (fun c167 => absurd (by decide) c167)
      exact r_ret d83_198 rfl kk
    | succ r ih =>
      intro k hk
      refine r_iload (pc' := 165) d83_163 rfl rfl ?_
      refine r_bipush (v := 6) (pc' := 167) d83_165 rfl (by decide) ?_
      refine r_icmp_ge 198 (pc' := 170) d83_167 rfl rfl (fun c167 => absurd c167 (nI_ge (a := k) (b := 6) (by omega) (by decide))) (fun c167 => ?_)
      refine r_aload_n (pc' := 171) d83_170 rfl rfl rfl ?_
      refine r_getS (pc' := 174) d83_171 rfl o83 sf10_23_10 (shY hb) (plo hN (by omega)) (rY9 hC hb) ?_
      refine r_iload (pc' := 176) d83_174 rfl rfl ?_
      refine r_aaldTN (pc' := 177) (j := k) d83_176 rfl (shY4 hb) (plo hN (by omega)) rfl (by omega) (by decide) (rYt hC hb (by omega)) ?_
      refine r_aload_n (pc' := 178) d83_177 rfl rfl rfl ?_
      refine r_iload (pc' := 180) d83_178 rfl rfl ?_
      refine r_bipush (v := 12) (pc' := 182) d83_180 rfl (by decide) ?_
      refine r_iadd (pc' := 183) d83_182 rfl ?_
      refine r_iload (pc' := 185) d83_183 rfl rfl ?_
      refine r_bipush (v := 7) (pc' := 187) d83_185 rfl (by decide) ?_
      refine r_imul (pc' := 188) d83_187 rfl ?_
      refine r_iadd (pc' := 189) d83_188 rfl ?_
      rw [show nI (j + 30) + 12 + nI k * 7 = nI (j + (42 + 7 * k)) by rw [lit 12, lit 7, pk_mul, nI_add, nI_add]; congr 1; omega]
      refine r_call (pc' := 192) [vR (some (b + 8 + k)), vR (some a), vI _] [] d83_189 rfl o83 st10_154_8 (rcv1 (shT hb (by omega)) (plo hN (by omega))) rfl (by decide) ⟨rfl, rfl⟩ (Nat.le_of_ble_eq_true rfl) rfl (t_saveIn (N := N) hN (shT hb (by omega)) (by omega) (hK.a ha) (hT k (by omega)).1 (hT k (by omega)).2 ha hal (by omega) hNN ?_)
      refine r_iinc (v := _ + 1) (pc' := 195) (ls' := [(5, vI _), (0, vR (some b)), (1, vR (some a)), (2, vI _), (3, vI _), (4, vI _)]) d83_192 rfl rfl rfl (by decide) rfl ?_
      refine r_goto 163 d83_195 rfl ?_
      refine wp_pick (ls' := [(0, vR (some b)), (1, vR (some a)), (2, vI _), (3, vI _), (4, vI _), (5, vI _)]) [1, 2, 3, 4, 5, 0] rfl ?_
      refine wp_heap (h' := imA h b a j (42 + 7 * (k + 1))) (imA_t (by omega)) ?_
      rw [nI_1]
      exact ih (k + 1) (by omega)
  rw [show nI j + 6 = nI (j + 6) from nI_add j 6, show nI (j + 6) + 24 = nI (j + 30) from nI_add (j + 6) 24]
  exact loop 6 0 rfl
/-- the first k things of a yard made anew, their kinds too -/
def thR (h : Hp) (b : Nat) (F : Nat → Nat → Int32) (K : Nat → Option Nat) (k : Nat) : Hp := (h.1, fun x => if b + 8 ≤ x ∧ x < b + 8 + k then F (x - (b + 8)) else h.2.1 x, fun x => if b + 8 ≤ x ∧ x < b + 8 + k then va_up (h.2.2 x) 1 (K (x - (b + 8))) else h.2.2 x)
theorem thR_hi (h : Hp) (b : Nat) (F : Nat → Nat → Int32) (K : Nat → Option Nat) (k x : Nat) : hi (thR h b F K k) x = if b + 8 ≤ x ∧ x < b + 8 + k then F (x - (b + 8)) else hi h x := rfl
theorem thR_hr (h : Hp) (b : Nat) (F : Nat → Nat → Int32) (K : Nat → Option Nat) (k x : Nat) : hr (thR h b F K k) x = if b + 8 ≤ x ∧ x < b + 8 + k then va_up (hr h x) 1 (K (x - (b + 8))) else hr h x := rfl
theorem thR_out (h : Hp) (b : Nat) (F : Nat → Nat → Int32) (K : Nat → Option Nat) (k x : Nat) (hx : x < b + 8 ∨ b + 8 + k ≤ x) : hi (thR h b F K k) x = hi h x := by rw [thR_hi, if_neg (by omega)]
theorem thR_ref (h : Hp) (b : Nat) (F : Nat → Nat → Int32) (K : Nat → Option Nat) (k x : Nat) (hx : x < b + 8 ∨ b + 8 + k ≤ x) : hr (thR h b F K k) x = hr h x := by rw [thR_hr, if_neg (by omega)]
theorem thR_in (h : Hp) (b : Nat) (F : Nat → Nat → Int32) (K : Nat → Option Nat) (k i : Nat) (hi0 : i < k) : hi (thR h b F K k) (b + 8 + i) = F i := by rw [thR_hi, if_pos (by omega), show b + 8 + i - (b + 8) = i by omega]
theorem thR_kd (h : Hp) (b : Nat) (F : Nat → Nat → Int32) (K : Nat → Option Nat) (k i : Nat) (hi0 : i < k) : hr (thR h b F K k) (b + 8 + i) 1 = K i := by rw [thR_hr, if_pos (by omega), show b + 8 + i - (b + 8) = i by omega]; simp [va_up]
theorem thR_0 (h : Hp) (b : Nat) (F : Nat → Nat → Int32) (K : Nat → Option Nat) : thR h b F K 0 = h := by
  refine hp_ext rfl (fun x y => ?_) (fun x y => ?_)
  · rw [thR_out _ _ _ _ _ _ (by omega)]
  · rw [thR_ref _ _ _ _ _ _ (by omega)]
theorem thR_s (h : Hp) (b : Nat) (F : Nat → Nat → Int32) (K : Nat → Option Nat) (k : Nat) {f : Nat → Int32} (hf : f = F k) : setw (setr (thR h b F K k) (b + 8 + k) 1 (K k)) (b + 8 + k) f = thR h b F K (k + 1) := by
  subst hf
  refine hp_ext rfl (fun x y => ?_) (fun x y => ?_)
  · rw [hi_setw, hi_setr, thR_hi, thR_hi]
    by_cases hx : x = b + 8 + k
    · subst hx; rw [if_pos rfl, if_pos (by omega), show b + 8 + k - (b + 8) = k by omega]
    · rw [if_neg hx]
      by_cases h2 : b + 8 ≤ x ∧ x < b + 8 + k
      · rw [if_pos h2, if_pos (by omega)]
      · rw [if_neg h2, if_neg (by omega)]
  · rw [hr_setw]
    by_cases hx : x = b + 8 + k
    · subst hx; rw [hr_setr_row, thR_ref _ _ _ _ _ _ (by omega), thR_hr, if_pos (by omega), show b + 8 + k - (b + 8) = k by omega]
    · rw [hr_setr_ne _ _ _ _ _ hx, thR_hr, thR_hr]
      by_cases h2 : b + 8 ≤ x ∧ x < b + 8 + k
      · rw [if_pos h2, if_pos (by omega)]
      · rw [if_neg h2, if_neg (by omega)]
theorem RC.of {h h' : Hp} (hC : RC h) (hh : ∀ x y, ¬ (y = 1 ∧ (25 ≤ x ∧ x < 31 ∨ 39 ≤ x ∧ x < 45 ∨ x = 16)) → ¬ (x = 0 ∧ (y = 5 ∨ y = 6)) → hr h' x y = hr h x y) : RC h' := by
  refine ⟨fun q hq => ?_, fun i hi0 => ?_, fun i hi0 => ?_, fun i hi0 => ?_⟩
  · rw [hh _ _ ?_ ?_]
    · exact hC.1 q hq
    · revert q; unfold RCL; decide
    · revert q; unfold RCL; decide
  · rw [hh _ _ (by omega) (by omega)]; exact hC.2.1 i hi0
  · rw [hh _ _ (by omega) (by omega)]; exact hC.2.2.1 i hi0
  · rw [hh _ _ (by omega) (by omega)]; exact hC.2.2.2 i hi0
theorem RC.r {h : Hp} {b : Nat} {F : Nat → Nat → Int32} {K : Nat → Option Nat} {k : Nat} (hC : RC h) (hb : b = 17 ∨ b = 31) (hk : k ≤ 6) : RC (thR h b F K k) := hC.of (fun x y h1 h2 => by
  rw [thR_hr]
  by_cases hx : b + 8 ≤ x ∧ x < b + 8 + k
  · rw [if_pos hx]
    have hy : y ≠ 1 := by omega
    simp [va_up, hy]
  · rw [if_neg hx])
def ldB (f g : Nat → Int32) : Nat → Int32 := upd (upd (upd (upd (upd (upd f 1 (g 0)) 2 (g 1)) 3 (g 2)) 4 (g 3)) 8 (g 4)) 10 (g 5)
def ldG (h : Hp) (a j : Nat) : Nat → Int32 := fun r => hi h a (j + r)
def ldA (h : Hp) (b a j : Nat) : Hp := setw (setw (setw (setw (setw (setw (setw h b (ldB (hi h b) (ldG h a j))) (b + 1) (va_cpy (hi h a) (hi h (b + 1)) (j + 6) 0 8)) (b + 2) (va_cpy (hi h a) (hi h (b + 2)) (j + 14) 0 8)) (b + 3) (va_cpy (hi h a) (hi h (b + 3)) (j + 22) 0 8)) (b + 5) (va_cpy (hi h a) (hi h (b + 5)) (j + 30) 0 4)) (b + 6) (va_cpy (hi h a) (hi h (b + 6)) (j + 34) 0 4)) (b + 7) (va_cpy (hi h a) (hi h (b + 7)) (j + 38) 0 4)
def ldF (h : Hp) (b a j i : Nat) : Nat → Int32 := ldV (hi h (b + 8 + i)) (hi h a) (j + (42 + 7 * i))
def ldK (h : Hp) (a j i : Nat) : Option Nat := some (10 + kO (hi h a (j + (42 + 7 * i))))
/-- a yard brought back -/
def ldH (h : Hp) (b a j k : Nat) : Hp := thR (ldA h b a j) b (ldF h b a j) (ldK h a j) k
theorem ldA_o {h : Hp} {b a j x : Nat} (hx : ¬ (b ≤ x ∧ x < b + 8 ∧ x ≠ b + 4)) : hi (ldA h b a j) x = hi h x := by
  unfold ldA
  rw [hi_setw_ne _ _ _ _ (by omega), hi_setw_ne _ _ _ _ (by omega), hi_setw_ne _ _ _ _ (by omega), hi_setw_ne _ _ _ _ (by omega), hi_setw_ne _ _ _ _ (by omega), hi_setw_ne _ _ _ _ (by omega), hi_setw_ne _ _ _ _ (by omega)]
theorem y_load {d : Nat} {h : Hp} {Q : Option AV → Hp → Prop} {b a N j : Nat} (hN : hn h = 65) (hC : RC h) (hb : b = 17 ∨ b = 31) (ha : SH a = (1, N)) (ha45 : 45 ≤ a) (hal : a < 65) (hjN : j + 84 ≤ N) (hNN : N < 3000) (kk : Q none (ldH h b a j 6)) : Spec (d + 2) 84 [vR (some b), vR (some a), vI (nI j)] h Q := by
  have hab : a ≠ b := by omega
  refine spec_intro (by decide +kernel) rfl (Nat.le_of_ble_eq_true rfl) ?_
  refine r_iload_n (pc' := 1) d84_0 rfl rfl rfl ?_
  refine r_if_lt 13 (pc' := 4) d84_1 rfl rfl (fun c1 => absurd c1 (nI_pos (by omega))) (fun c1 => ?_)
  refine r_iload_n (pc' := 5) d84_4 rfl rfl rfl ?_
  refine r_aload_n (pc' := 6) d84_5 rfl rfl rfl ?_
  refine r_alen (pc' := 7) d84_6 rfl ha (by decide) (plo hN hal) ?_
  refine r_bipush (v := 84) (pc' := 9) d84_7 rfl (by decide) ?_
  refine r_isub (pc' := 10) d84_9 rfl ?_
  refine r_icmp_le 14 (pc' := 13) d84_10 rfl rfl (fun c10 => ?_) (fun c10 => absurd (by show nI j ≤ nI N - nI 84; rw [pk_sub (by omega)]; exact nI_le (by omega) (by omega)) c10)
  refine r_aload_n (pc' := 15) d84_14 rfl rfl rfl ?_
  refine r_aload_n (pc' := 16) d84_15 rfl rfl rfl ?_
  refine r_iload_n (pc' := 17) d84_16 rfl rfl rfl ?_
  refine r_ialdN (pc' := 18) (j := (j + 0)) d84_17 rfl ha (plo hN hal) rfl (by omega) (by omega) ?_
  refine wp_v (y := hi h a (j + 0)) (by first | rfl | (simp only [seti_w, hi_setw_ne _ b _ a hab]; done)) ?_
  refine r_putI (pc' := 21) d84_18 rfl o84 sp10_85_10 (shY hb) (fun w => absurd w (by decide)) (Or.inl rfl) (plo hN (by omega)) ?_
  refine r_aload_n (pc' := 22) d84_21 rfl rfl rfl ?_
  refine r_aload_n (pc' := 23) d84_22 rfl rfl rfl ?_
  refine r_iload_n (pc' := 24) d84_23 rfl rfl rfl ?_
  refine r_iconst (v := 1) (pc' := 25) d84_24 rfl (by decide) ?_
  refine r_iadd (pc' := 26) d84_25 rfl ?_
  refine r_ialdN (pc' := 27) (j := (j + 1)) d84_26 rfl ha (plo hN hal) (by simp only [lit, nI_add, pk_mul]) (by omega) (by omega) ?_
  refine wp_v (y := hi h a (j + 1)) (by first | rfl | (simp only [seti_w, hi_setw_ne _ b _ a hab]; done)) ?_
  refine r_putI (pc' := 30) d84_27 rfl o84 sp10_105_10 (shY hb) (fun w => absurd w (by decide)) (Or.inl rfl) (plo hN (by omega)) ?_
  refine r_aload_n (pc' := 31) d84_30 rfl rfl rfl ?_
  refine r_aload_n (pc' := 32) d84_31 rfl rfl rfl ?_
  refine r_iload_n (pc' := 33) d84_32 rfl rfl rfl ?_
  refine r_iconst (v := 2) (pc' := 34) d84_33 rfl (by decide) ?_
  refine r_iadd (pc' := 35) d84_34 rfl ?_
  refine r_ialdN (pc' := 36) (j := (j + 2)) d84_35 rfl ha (plo hN hal) (by simp only [lit, nI_add, pk_mul]) (by omega) (by omega) ?_
  refine wp_v (y := hi h a (j + 2)) (by first | rfl | (simp only [seti_w, hi_setw_ne _ b _ a hab]; done)) ?_
  refine r_putI (pc' := 39) d84_36 rfl o84 sp10_43_10 (shY hb) (fun w => absurd w (by decide)) (Or.inl rfl) (plo hN (by omega)) ?_
  refine r_aload_n (pc' := 40) d84_39 rfl rfl rfl ?_
  refine r_aload_n (pc' := 41) d84_40 rfl rfl rfl ?_
  refine r_iload_n (pc' := 42) d84_41 rfl rfl rfl ?_
  refine r_iconst (v := 3) (pc' := 43) d84_42 rfl (by decide) ?_
  refine r_iadd (pc' := 44) d84_43 rfl ?_
  refine r_ialdN (pc' := 45) (j := (j + 3)) d84_44 rfl ha (plo hN hal) (by simp only [lit, nI_add, pk_mul]) (by omega) (by omega) ?_
  refine wp_v (y := hi h a (j + 3)) (by first | rfl | (simp only [seti_w, hi_setw_ne _ b _ a hab]; done)) ?_
  refine r_putI (pc' := 48) d84_45 rfl o84 sp10_47_10 (shY hb) (fun w => absurd w (by decide)) (Or.inl rfl) (plo hN (by omega)) ?_
  refine r_aload_n (pc' := 49) d84_48 rfl rfl rfl ?_
  refine r_aload_n (pc' := 50) d84_49 rfl rfl rfl ?_
  refine r_iload_n (pc' := 51) d84_50 rfl rfl rfl ?_
  refine r_iconst (v := 4) (pc' := 52) d84_51 rfl (by decide) ?_
  refine r_iadd (pc' := 53) d84_52 rfl ?_
  refine r_ialdN (pc' := 54) (j := (j + 4)) d84_53 rfl ha (plo hN hal) (by simp only [lit, nI_add, pk_mul]) (by omega) (by omega) ?_
  refine wp_v (y := hi h a (j + 4)) (by first | rfl | (simp only [seti_w, hi_setw_ne _ b _ a hab]; done)) ?_
  refine r_putI (pc' := 57) d84_54 rfl o84 sp10_50_10 (shY hb) (fun w => absurd w (by decide)) (Or.inl rfl) (plo hN (by omega)) ?_
  refine r_aload_n (pc' := 58) d84_57 rfl rfl rfl ?_
  refine r_aload_n (pc' := 59) d84_58 rfl rfl rfl ?_
  refine r_iload_n (pc' := 60) d84_59 rfl rfl rfl ?_
  refine r_iconst (v := 5) (pc' := 61) d84_60 rfl (by decide) ?_
  refine r_iadd (pc' := 62) d84_61 rfl ?_
  refine r_ialdN (pc' := 63) (j := (j + 5)) d84_62 rfl ha (plo hN hal) (by simp only [lit, nI_add, pk_mul]) (by omega) (by omega) ?_
  refine wp_v (y := hi h a (j + 5)) (by first | rfl | (simp only [seti_w, hi_setw_ne _ b _ a hab]; done)) ?_
  refine r_putI (pc' := 66) d84_63 rfl o84 sp10_53_10 (shY hb) (fun w => absurd w (by decide)) (Or.inl rfl) (plo hN (by omega)) ?_
  refine wp_heap (h' := setw h b (ldB (hi h b) (ldG h a j))) (by simp only [seti_w, hi_setw_row, setw_w]; rfl) ?_
  refine r_iload_n (pc' := 67) d84_66 rfl rfl rfl ?_
  refine r_bipush (v := 6) (pc' := 69) d84_67 rfl (by decide) ?_
  refine r_iadd (pc' := 70) d84_69 rfl ?_
  refine r_istore_n (pc' := 71) (ls' := [(3, vI _), (0, vR (some b)), (1, vR (some a)), (2, vI _)]) d84_70 rfl rfl (by decide) rfl ?_
  refine r_aload_n (pc' := 72) d84_71 rfl rfl rfl ?_
  refine r_iload_n (pc' := 73) d84_72 rfl rfl rfl ?_
  refine r_aload_n (pc' := 74) d84_73 rfl rfl rfl ?_
  refine r_getS (pc' := 77) d84_74 rfl o84 sf10_11_10 (shY hb) (plo hN (by omega)) (rY5 hC hb) ?_
  refine r_iconst (v := 0) (pc' := 78) d84_77 rfl (by decide) ?_
  refine r_bipush (v := 8) (pc' := 80) d84_78 rfl (by decide) ?_
  refine r_copyN (pc' := 83) (sp := (j + 6)) (dp := 0) (n := 8) (by simp only [lit, nI_add, pk_mul]) rfl rfl d84_80 rfl o84 st10_148 ha (shY1 hb) (plo hN hal) (plo hN (by omega)) (by omega) (by omega) (by omega) (by omega) (Nat.le_of_ble_eq_true rfl) ?_
  refine wp_heap (h' := setw (setw h b (ldB (hi h b) (ldG h a j))) (b + 1) (va_cpy (hi h a) (hi h (b + 1)) (j + 6) 0 8)) (by rw [hi_setw_ne _ _ _ _ (show a ≠ b by omega), hi_setw_ne _ _ _ _ (show b + 1 ≠ b by omega)]) ?_
  refine r_aload_n (pc' := 84) d84_83 rfl rfl rfl ?_
  refine r_iload_n (pc' := 85) d84_84 rfl rfl rfl ?_
  refine r_bipush (v := 8) (pc' := 87) d84_85 rfl (by decide) ?_
  refine r_iadd (pc' := 88) d84_87 rfl ?_
  refine r_aload_n (pc' := 89) d84_88 rfl rfl rfl ?_
  refine r_getS (pc' := 92) d84_89 rfl o84 sf10_17_10 (shY hb) (plo hN (by omega)) (rY6 hC hb) ?_
  refine r_iconst (v := 0) (pc' := 93) d84_92 rfl (by decide) ?_
  refine r_bipush (v := 8) (pc' := 95) d84_93 rfl (by decide) ?_
  refine r_copyN (pc' := 98) (sp := ((j + 6) + 8)) (dp := 0) (n := 8) (by simp only [lit, nI_add, pk_mul]) rfl rfl d84_95 rfl o84 st10_148 ha (shY2 hb) (plo hN hal) (plo hN (by omega)) (by omega) (by omega) (by omega) (by omega) (Nat.le_of_ble_eq_true rfl) ?_
  refine wp_heap (h' := setw (setw (setw h b (ldB (hi h b) (ldG h a j))) (b + 1) (va_cpy (hi h a) (hi h (b + 1)) (j + 6) 0 8)) (b + 2) (va_cpy (hi h a) (hi h (b + 2)) (j + 14) 0 8)) (by rw [hi_setw_ne _ _ _ _ (show a ≠ b + 1 by omega), hi_setw_ne _ _ _ _ (show a ≠ b by omega), hi_setw_ne _ _ _ _ (show b + 2 ≠ b + 1 by omega), hi_setw_ne _ _ _ _ (show b + 2 ≠ b by omega)]) ?_
  refine r_aload_n (pc' := 99) d84_98 rfl rfl rfl ?_
  refine r_iload_n (pc' := 100) d84_99 rfl rfl rfl ?_
  refine r_bipush (v := 16) (pc' := 102) d84_100 rfl (by decide) ?_
  refine r_iadd (pc' := 103) d84_102 rfl ?_
  refine r_aload_n (pc' := 104) d84_103 rfl rfl rfl ?_
  refine r_getS (pc' := 107) d84_104 rfl o84 sf10_20_10 (shY hb) (plo hN (by omega)) (rY7 hC hb) ?_
  refine r_iconst (v := 0) (pc' := 108) d84_107 rfl (by decide) ?_
  refine r_bipush (v := 8) (pc' := 110) d84_108 rfl (by decide) ?_
  refine r_copyN (pc' := 113) (sp := ((j + 6) + 16)) (dp := 0) (n := 8) (by simp only [lit, nI_add, pk_mul]) rfl rfl d84_110 rfl o84 st10_148 ha (shY3 hb) (plo hN hal) (plo hN (by omega)) (by omega) (by omega) (by omega) (by omega) (Nat.le_of_ble_eq_true rfl) ?_
  refine wp_heap (h' := setw (setw (setw (setw h b (ldB (hi h b) (ldG h a j))) (b + 1) (va_cpy (hi h a) (hi h (b + 1)) (j + 6) 0 8)) (b + 2) (va_cpy (hi h a) (hi h (b + 2)) (j + 14) 0 8)) (b + 3) (va_cpy (hi h a) (hi h (b + 3)) (j + 22) 0 8)) (by rw [hi_setw_ne _ _ _ _ (show a ≠ b + 2 by omega), hi_setw_ne _ _ _ _ (show a ≠ b + 1 by omega), hi_setw_ne _ _ _ _ (show a ≠ b by omega), hi_setw_ne _ _ _ _ (show b + 3 ≠ b + 2 by omega), hi_setw_ne _ _ _ _ (show b + 3 ≠ b + 1 by omega), hi_setw_ne _ _ _ _ (show b + 3 ≠ b by omega)]) ?_
  refine r_iload_n (pc' := 114) d84_113 rfl rfl rfl ?_
  refine r_bipush (v := 24) (pc' := 116) d84_114 rfl (by decide) ?_
  refine r_iadd (pc' := 117) d84_116 rfl ?_
  refine r_istore (pc' := 119) (ls' := [(4, vI _), (3, vI _), (0, vR (some b)), (1, vR (some a)), (2, vI _)]) d84_117 rfl (by decide) rfl ?_
  refine r_aload_n (pc' := 120) d84_119 rfl rfl rfl ?_
  refine r_iload (pc' := 122) d84_120 rfl rfl ?_
  refine r_aload_n (pc' := 123) d84_122 rfl rfl rfl ?_
  refine r_getS (pc' := 126) d84_123 rfl o84 sf10_27_10 (shY hb) (plo hN (by omega)) (rY11 hC hb) ?_
  refine r_iconst (v := 0) (pc' := 127) d84_126 rfl (by decide) ?_
  refine r_iconst (v := 4) (pc' := 128) d84_127 rfl (by decide) ?_
  refine r_copyN (pc' := 131) (sp := ((j + 6) + 24)) (dp := 0) (n := 4) (by simp only [lit, nI_add, pk_mul]) rfl rfl d84_128 rfl o84 st10_148 ha (shY5 hb) (plo hN hal) (plo hN (by omega)) (by omega) (by omega) (by omega) (by omega) (Nat.le_of_ble_eq_true rfl) ?_
  refine wp_heap (h' := setw (setw (setw (setw (setw h b (ldB (hi h b) (ldG h a j))) (b + 1) (va_cpy (hi h a) (hi h (b + 1)) (j + 6) 0 8)) (b + 2) (va_cpy (hi h a) (hi h (b + 2)) (j + 14) 0 8)) (b + 3) (va_cpy (hi h a) (hi h (b + 3)) (j + 22) 0 8)) (b + 5) (va_cpy (hi h a) (hi h (b + 5)) (j + 30) 0 4)) (by rw [hi_setw_ne _ _ _ _ (show a ≠ b + 3 by omega), hi_setw_ne _ _ _ _ (show a ≠ b + 2 by omega), hi_setw_ne _ _ _ _ (show a ≠ b + 1 by omega), hi_setw_ne _ _ _ _ (show a ≠ b by omega), hi_setw_ne _ _ _ _ (show b + 5 ≠ b + 3 by omega), hi_setw_ne _ _ _ _ (show b + 5 ≠ b + 2 by omega), hi_setw_ne _ _ _ _ (show b + 5 ≠ b + 1 by omega), hi_setw_ne _ _ _ _ (show b + 5 ≠ b by omega)]) ?_
  refine r_aload_n (pc' := 132) d84_131 rfl rfl rfl ?_
  refine r_iload (pc' := 134) d84_132 rfl rfl ?_
  refine r_iconst (v := 4) (pc' := 135) d84_134 rfl (by decide) ?_
  refine r_iadd (pc' := 136) d84_135 rfl ?_
  refine r_aload_n (pc' := 137) d84_136 rfl rfl rfl ?_
  refine r_getS (pc' := 140) d84_137 rfl o84 sf10_30_10 (shY hb) (plo hN (by omega)) (rY12 hC hb) ?_
  refine r_iconst (v := 0) (pc' := 141) d84_140 rfl (by decide) ?_
  refine r_iconst (v := 4) (pc' := 142) d84_141 rfl (by decide) ?_
  refine r_copyN (pc' := 145) (sp := (((j + 6) + 24) + 4)) (dp := 0) (n := 4) (by simp only [lit, nI_add, pk_mul]) rfl rfl d84_142 rfl o84 st10_148 ha (shY6 hb) (plo hN hal) (plo hN (by omega)) (by omega) (by omega) (by omega) (by omega) (Nat.le_of_ble_eq_true rfl) ?_
  refine wp_heap (h' := setw (setw (setw (setw (setw (setw h b (ldB (hi h b) (ldG h a j))) (b + 1) (va_cpy (hi h a) (hi h (b + 1)) (j + 6) 0 8)) (b + 2) (va_cpy (hi h a) (hi h (b + 2)) (j + 14) 0 8)) (b + 3) (va_cpy (hi h a) (hi h (b + 3)) (j + 22) 0 8)) (b + 5) (va_cpy (hi h a) (hi h (b + 5)) (j + 30) 0 4)) (b + 6) (va_cpy (hi h a) (hi h (b + 6)) (j + 34) 0 4)) (by rw [hi_setw_ne _ _ _ _ (show a ≠ b + 5 by omega), hi_setw_ne _ _ _ _ (show a ≠ b + 3 by omega), hi_setw_ne _ _ _ _ (show a ≠ b + 2 by omega), hi_setw_ne _ _ _ _ (show a ≠ b + 1 by omega), hi_setw_ne _ _ _ _ (show a ≠ b by omega), hi_setw_ne _ _ _ _ (show b + 6 ≠ b + 5 by omega), hi_setw_ne _ _ _ _ (show b + 6 ≠ b + 3 by omega), hi_setw_ne _ _ _ _ (show b + 6 ≠ b + 2 by omega), hi_setw_ne _ _ _ _ (show b + 6 ≠ b + 1 by omega), hi_setw_ne _ _ _ _ (show b + 6 ≠ b by omega)]) ?_
  refine r_aload_n (pc' := 146) d84_145 rfl rfl rfl ?_
  refine r_iload (pc' := 148) d84_146 rfl rfl ?_
  refine r_bipush (v := 8) (pc' := 150) d84_148 rfl (by decide) ?_
  refine r_iadd (pc' := 151) d84_150 rfl ?_
  refine r_aload_n (pc' := 152) d84_151 rfl rfl rfl ?_
  refine r_getS (pc' := 155) d84_152 rfl o84 sf10_33_10 (shY hb) (plo hN (by omega)) (rY13 hC hb) ?_
  refine r_iconst (v := 0) (pc' := 156) d84_155 rfl (by decide) ?_
  refine r_iconst (v := 4) (pc' := 157) d84_156 rfl (by decide) ?_
  refine r_copyN (pc' := 160) (sp := (((j + 6) + 24) + 8)) (dp := 0) (n := 4) (by simp only [lit, nI_add, pk_mul]) rfl rfl d84_157 rfl o84 st10_148 ha (shY7 hb) (plo hN hal) (plo hN (by omega)) (by omega) (by omega) (by omega) (by omega) (Nat.le_of_ble_eq_true rfl) ?_
  refine wp_heap (h' := setw (setw (setw (setw (setw (setw (setw h b (ldB (hi h b) (ldG h a j))) (b + 1) (va_cpy (hi h a) (hi h (b + 1)) (j + 6) 0 8)) (b + 2) (va_cpy (hi h a) (hi h (b + 2)) (j + 14) 0 8)) (b + 3) (va_cpy (hi h a) (hi h (b + 3)) (j + 22) 0 8)) (b + 5) (va_cpy (hi h a) (hi h (b + 5)) (j + 30) 0 4)) (b + 6) (va_cpy (hi h a) (hi h (b + 6)) (j + 34) 0 4)) (b + 7) (va_cpy (hi h a) (hi h (b + 7)) (j + 38) 0 4)) (by rw [hi_setw_ne _ _ _ _ (show a ≠ b + 6 by omega), hi_setw_ne _ _ _ _ (show a ≠ b + 5 by omega), hi_setw_ne _ _ _ _ (show a ≠ b + 3 by omega), hi_setw_ne _ _ _ _ (show a ≠ b + 2 by omega), hi_setw_ne _ _ _ _ (show a ≠ b + 1 by omega), hi_setw_ne _ _ _ _ (show a ≠ b by omega), hi_setw_ne _ _ _ _ (show b + 7 ≠ b + 6 by omega), hi_setw_ne _ _ _ _ (show b + 7 ≠ b + 5 by omega), hi_setw_ne _ _ _ _ (show b + 7 ≠ b + 3 by omega), hi_setw_ne _ _ _ _ (show b + 7 ≠ b + 2 by omega), hi_setw_ne _ _ _ _ (show b + 7 ≠ b + 1 by omega), hi_setw_ne _ _ _ _ (show b + 7 ≠ b by omega)]) ?_
  refine r_iconst (v := 0) (pc' := 161) d84_160 rfl (by decide) ?_
  refine r_istore (pc' := 163) (ls' := [(5, vI _), (4, vI _), (3, vI _), (0, vR (some b)), (1, vR (some a)), (2, vI _)]) d84_161 rfl (by decide) rfl ?_
  refine wp_pick (ls' := [(0, vR (some b)), (1, vR (some a)), (2, vI _), (3, vI _), (4, vI _), (5, vI _)]) [3, 4, 5, 2, 1, 0] rfl ?_
  have loop : ∀ (r k : Nat), k + r = 6 → wp (d + 2) 84 Q 0 0 163 [(0, vR (some b)), (1, vR (some a)), (2, vI (nI j)), (3, vI (nI (j + 6))), (4, vI (nI (j + 30))), (5, vI (nI k))] [] (ldH h b a j k) := by
    intro r
    induction r with
    | zero =>
      intro k hk
      obtain rfl : k = 6 := by omega
      refine r_iload (pc' := 165) d84_163 rfl rfl ?_
      refine r_bipush (v := 6) (pc' := 167) d84_165 rfl (by decide) ?_
      refine r_icmp_ge 210 (pc' := 170) d84_167 rfl rfl (fun c167 => ?_) (fun c167 => absurd (by decide) c167)
      exact r_ret d84_210 rfl kk
    | succ r ih =>
      intro k hk
      have hC2 : RC (ldH h b a j k) := RC.r (h := ldA h b a j) hC hb (by omega)
      refine r_iload (pc' := 165) d84_163 rfl rfl ?_
      refine r_bipush (v := 6) (pc' := 167) d84_165 rfl (by decide) ?_
      refine r_icmp_ge 210 (pc' := 170) d84_167 rfl rfl (fun c167 => absurd c167 (nI_ge (a := k) (b := 6) (by omega) (by decide))) (fun c167 => ?_)
      refine r_iload (pc' := 172) d84_170 rfl rfl ?_
      refine r_bipush (v := 12) (pc' := 174) d84_172 rfl (by decide) ?_
      refine r_iadd (pc' := 175) d84_174 rfl ?_
      refine r_iload (pc' := 177) d84_175 rfl rfl ?_
      refine r_bipush (v := 7) (pc' := 179) d84_177 rfl (by decide) ?_
      refine r_imul (pc' := 180) d84_179 rfl ?_
      refine r_iadd (pc' := 181) d84_180 rfl ?_
      refine r_istore (pc' := 183) (ls' := [(6, vI _), (0, vR (some b)), (1, vR (some a)), (2, vI _), (3, vI _), (4, vI _), (5, vI _)]) d84_181 rfl (by decide) rfl ?_
      rw [show nI (j + 30) + 12 + nI k * 7 = nI (j + (42 + 7 * k)) by rw [lit 12, lit 7, pk_mul, nI_add, nI_add]; congr 1; omega]
      refine r_aload_n (pc' := 184) d84_183 rfl rfl rfl ?_
      refine r_getS (pc' := 187) d84_184 rfl o84 sf10_23_10 (shY hb) (plo hN (by omega)) (rY9 hC2 hb) ?_
      refine r_iload (pc' := 189) d84_187 rfl rfl ?_
      refine r_aaldTN (pc' := 190) (j := k) d84_189 rfl (shY4 hb) (plo hN (by omega)) rfl (by omega) (by decide) (rYt hC2 hb (by omega)) ?_
      refine r_aload_n (pc' := 191) d84_190 rfl rfl rfl ?_
      refine r_iload (pc' := 193) d84_191 rfl rfl ?_
      refine r_aload_n (pc' := 194) d84_193 rfl rfl rfl ?_
      refine r_aload_n (pc' := 195) d84_194 rfl rfl rfl ?_
      refine r_iload (pc' := 197) d84_195 rfl rfl ?_
      refine r_ialdN (pc' := 198) (j := (j + (42 + 7 * k))) d84_197 rfl ha (plo hN hal) (by simp only [lit, nI_add, pk_mul]) (by omega) (by omega) ?_
      refine wp_v (y := hi h a (j + (42 + 7 * k))) (congrFun ((thR_out _ _ _ _ _ _ (by omega)).trans (ldA_o (by omega))) _) ?_
      refine r_call (pc' := 201) [vR (some b), vI _] [vI _, vR (some a), vR (some (b + 8 + k))] d84_198 rfl o84 st10_56_10 (rcv1 (shY hb) (plo hN (by omega))) rfl (by decide) ⟨rfl, rfl⟩ (Nat.le_of_ble_eq_true rfl) rfl (y_kindOf hN hC2 hb ?_)
      refine r_call (pc' := 204) [vR (some (b + 8 + k)), vR (some a), vI _, vR (some (10 + kO (hi h a (j + (42 + 7 * k)))))] [] d84_201 rfl o84 st10_158_8 (rcv1 (shT hb (by omega)) (plo hN (by omega))) rfl (by decide) ⟨rfl, rfl⟩ (Nat.le_of_ble_eq_true rfl) rfl (t_loadFrom (N := N) hN (shT hb (by omega)) (by omega) ha hal (by omega) hNN ?_)
      refine r_iinc (v := _ + 1) (pc' := 207) (ls' := [(5, vI _), (6, vI _), (0, vR (some b)), (1, vR (some a)), (2, vI _), (3, vI _), (4, vI _)]) d84_204 rfl rfl rfl (by decide) rfl ?_
      refine r_goto 163 d84_207 rfl ?_
      refine wp_pick (ls' := [(0, vR (some b)), (1, vR (some a)), (2, vI _), (3, vI _), (4, vI _), (5, vI _)]) [2, 3, 4, 5, 6, 0] rfl ?_
      refine wp_heap (h' := ldH h b a j (k + 1)) (thR_s (ldA h b a j) b (ldF h b a j) (ldK h a j) k ?_) ?_
      · unfold ldF ldH; rw [thR_out _ _ _ _ _ (b + 8 + k) (by omega), thR_out _ _ _ _ _ a (by omega), ldA_o (by omega), ldA_o (by omega)]
      rw [nI_1]
      exact ih (k + 1) (by omega)
  refine wp_heap (h' := ldH h b a j 0) (thR_0 _ _ _ _).symm ?_
  rw [show nI j + 6 = nI (j + 6) from nI_add j 6, show nI (j + 6) + 24 = nI (j + 30) from nI_add (j + 6) 24]
  exact loop 6 0 rfl
