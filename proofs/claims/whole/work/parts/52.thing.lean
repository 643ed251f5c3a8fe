/-! the class: places, kinds, things (printed by wip/whole/m52.py) -/
section Nul
variable {d M : Nat} {Q : Option AV → Hp → Prop} {kc ks pc pc' : Nat} {ls : List (Nat × AV)} {st : List AV} {h : Hp}
theorem r_nulS {x : Nat} {off : Int} (tgt : Nat) (hd : fet M pc = .ok (.ifnull off, 3)) (hp : pc + 3 = pc') (ht : (pc : Int) + off = (tgt : Int)) (kk : wp d M Q kc ks pc' ls st h) : wp d M Q kc ks pc ls (vR (some x) :: st) h := r_ifnull tgt hd hp ht (fun w => by cases w) (fun _ _ => kk)
theorem r_nulN {off : Int} (tgt : Nat) (hd : fet M pc = .ok (.ifnull off, 3)) (hp : pc + 3 = pc') (ht : (pc : Int) + off = (tgt : Int)) (kk : wp d M Q kc ks tgt ls st h) : wp d M Q kc ks pc ls (vR none :: st) h := r_ifnull tgt hd hp ht (fun _ => kk) (fun _ w => by cases w)
theorem r_nonS {x : Nat} {off : Int} (tgt : Nat) (hd : fet M pc = .ok (.ifnonnull off, 3)) (hp : pc + 3 = pc') (ht : (pc : Int) + off = (tgt : Int)) (kk : wp d M Q kc ks tgt ls st h) : wp d M Q kc ks pc ls (vR (some x) :: st) h := r_ifnonnull tgt hd hp ht (fun _ _ => kk) (fun w => by cases w)
theorem r_nonN {off : Int} (tgt : Nat) (hd : fet M pc = .ok (.ifnonnull off, 3)) (hp : pc + 3 = pc') (ht : (pc : Int) + off = (tgt : Int)) (kk : wp d M Q kc ks pc' ls st h) : wp d M Q kc ks pc ls (vR none :: st) h := r_ifnonnull tgt hd hp ht (fun _ w => by cases w) (fun _ => kk)
end Nul
def kci (q : Nat) : Nat := if q = 0 then 3 else if q = 1 then 6 else if q = 2 then 1 else if q = 3 then 7 else if q = 4 then 0 else 2
theorem q6 {p : Nat → Prop} (h0 : p 0) (h1 : p 1) (h2 : p 2) (h3 : p 3) (h4 : p 4) (h5 : p 5) {q : Nat} (hq : q < 6) : p q := by
  rcases q with _ | _ | _ | _ | _ | _ | q
  · exact h0
  · exact h1
  · exact h2
  · exact h3
  · exact h4
  · exact h5
  · omega
theorem shK {q : Nat} (hq : q < 6) : SH (10 + q) = (0, kci q) := q6 (p := fun q => SH (10 + q) = (0, kci q)) rfl rfl rfl rfl rfl rfl hq
theorem plo {h : Hp} {o : Nat} (hN : hn h = 65) (ho : o < 65) : o < hn h := by rw [hN]; exact ho
theorem plK {h : Hp} {q : Nat} (hN : hn h = 65) (hq : q < 6) : 10 + q < hn h := by rw [hN]; omega
theorem sfK8_38 {q : Nat} (hq : q < 6) : SiteF RX8 38 (kci q) 2 true := q6 (p := fun q => SiteF RX8 38 (kci q) 2 true) sf8_38_3 sf8_38_6 sf8_38_1 sf8_38_7 sf8_38_0 sf8_38_2 hq
theorem sfK8_63 {q : Nat} (hq : q < 6) : SiteF RX8 63 (kci q) 3 true := q6 (p := fun q => SiteF RX8 63 (kci q) 3 true) sf8_63_3 sf8_63_6 sf8_63_1 sf8_63_7 sf8_63_0 sf8_63_2 hq
theorem sfK8_66 {q : Nat} (hq : q < 6) : SiteF RX8 66 (kci q) 0 true := q6 (p := fun q => SiteF RX8 66 (kci q) 0 true) sf8_66_3 sf8_66_6 sf8_66_1 sf8_66_7 sf8_66_0 sf8_66_2 hq
theorem sfK10_80 {q : Nat} (hq : q < 6) : SiteF RX10 80 (kci q) 0 true := q6 (p := fun q => SiteF RX10 80 (kci q) 0 true) sf10_80_3 sf10_80_6 sf10_80_1 sf10_80_7 sf10_80_0 sf10_80_2 hq
theorem sfK11_337 {q : Nat} (hq : q < 6) : SiteF RX11 337 (kci q) 2 true := q6 (p := fun q => SiteF RX11 337 (kci q) 2 true) sf11_337_3 sf11_337_6 sf11_337_1 sf11_337_7 sf11_337_0 sf11_337_2 hq
theorem sfK11_402 {q : Nat} (hq : q < 6) : SiteF RX11 402 (kci q) 0 true := q6 (p := fun q => SiteF RX11 402 (kci q) 0 true) sf11_402_3 sf11_402_6 sf11_402_1 sf11_402_7 sf11_402_0 sf11_402_2 hq
theorem stK8_59 {q : Nat} (hq : q < 6) : Site RX8 (.invokevirtual 59) (some (kci q)) 9 := q6 (p := fun q => Site RX8 (.invokevirtual 59) (some (kci q)) 9) st8_59_3 st8_59_6 st8_59_1 st8_59_7 st8_59_0 st8_59_2 hq
def thK (q : Nat) : Int32 := if q = 0 then 1 else thickI (nI q)
def ndK (q : Nat) : Int32 := if q = 0 then 0 else needI (nI q)
def lmK (q : Nat) : Int32 := if q = 0 then 0 else limitI (nI q)
abbrev drK (q : Nat) : Prop := 1 ≤ q ∧ q ≤ 3
/-- what the kinds are -/
def KC (h : Hp) : Prop := ∀ q, q < 6 → hi h (10 + q) 0 = nI q ∧ hi h (10 + q) 1 = thK q ∧ hi h (10 + q) 2 = ndK q ∧ hi h (10 + q) 3 = lmK q
theorem thK_pos {q : Nat} (hq : q < 6) : ¬ thK q ≤ 0 := q6 (p := fun q => ¬ thK q ≤ 0) (by decide) (by decide) (by decide) (by decide) (by decide) (by decide) hq
theorem thK_ne {q : Nat} (hq : q < 6) : ¬ thK q = 0 := q6 (p := fun q => ¬ thK q = 0) (by decide) (by decide) (by decide) (by decide) (by decide) (by decide) hq
theorem sfK3_13 {q : Nat} (hq : q < 6) : SiteF RX3 13 (kci q) 1 true := q6 (p := fun q => SiteF RX3 13 (kci q) 1 true) sf3_13_3 sf3_13_6 sf3_13_1 sf3_13_7 sf3_13_0 sf3_13_2 hq
theorem t_share {d : Nat} {h : Hp} {Q : Option AV → Hp → Prop} {q : Nat} {v : Int32} (hN : hn h = 65) (hK : KC h) (hq6 : q < 6) (k : Q (some (vI (v / thK q))) h) : Spec d 9 [vR (some (10 + q)), vI v] h Q := by
  refine spec_intro (by decide +kernel) rfl (Nat.le_of_ble_eq_true rfl) ?_
  refine r_aload_n (pc' := 1) d9_0 rfl rfl rfl ?_
  refine r_getI (pc' := 4) d9_1 rfl o9 (sfK3_13 hq6) (shK hq6) (plK hN hq6) ?_
  refine wp_v (hK q hq6).2.1 ?_
  refine r_if_le 16 (pc' := 7) d9_4 rfl rfl (fun c4 => absurd c4 (thK_pos hq6)) (fun c4 => ?_)
  refine r_iload_n (pc' := 8) d9_7 rfl rfl rfl ?_
  refine r_aload_n (pc' := 9) d9_8 rfl rfl rfl ?_
  refine r_getI (pc' := 12) d9_9 rfl o9 (sfK3_13 hq6) (shK hq6) (plK hN hq6) ?_
  refine wp_v (hK q hq6).2.1 ?_
  refine r_idiv (pc' := 13) d9_12 rfl (thK_ne hq6) ?_
  refine r_goto 17 d9_13 rfl ?_
  exact r_iretI d9_17 rfl k
theorem t_drips0 {d : Nat} {h : Hp} {Q : Option AV → Hp → Prop} {p : Nat} (k : Q (some (vI 0)) h) : Spec d 10 [vR (some p)] h Q := by
  refine spec_intro (by decide +kernel) rfl (Nat.le_of_ble_eq_true rfl) ?_
  refine r_iconst (v := 0) (pc' := 1) d10_0 rfl (by decide) ?_
  exact r_iretZ0 d10_1 rfl k
theorem t_drips1 {d : Nat} {h : Hp} {Q : Option AV → Hp → Prop} {p : Nat} (k : Q (some (vI 1)) h) : Spec d 39 [vR (some p)] h Q := by
  refine spec_intro (by decide +kernel) rfl (Nat.le_of_ble_eq_true rfl) ?_
  refine r_iconst (v := 1) (pc' := 1) d39_0 rfl (by decide) ?_
  exact r_iretZ1 d39_1 rfl k
theorem r_drips {d : Nat} {Q : Option AV → Hp → Prop} {ls : List (Nat × AV)} {h : Hp} {q : Nat} (hN : hn h = 65) (hq6 : q < 6) (kk : wp (d + 1) 52 Q 0 0 20 ls [vI (bI (drK q))] h) : wp (d + 1) 52 Q 0 0 17 ls [vR (some (10 + q))] h := by
  revert kk
  refine q6 (p := fun q => wp (d + 1) 52 Q 0 0 20 ls [vI (bI (drK q))] h → wp (d + 1) 52 Q 0 0 17 ls [vR (some (10 + q))] h) ?_ ?_ ?_ ?_ ?_ ?_ hq6
  · intro kk; exact r_call (pc' := 20) [vR (some (10 + 0))] [] d52_17 rfl o52 st8_47_3 (rcv1 (shK (q := 0) (by decide)) (pl hN rfl)) rfl (by decide) ⟨rfl, rfl⟩ (Nat.le_of_ble_eq_true rfl) rfl (t_drips0 kk)
  · intro kk; exact r_call (pc' := 20) [vR (some (10 + 1))] [] d52_17 rfl o52 st8_47_6 (rcv1 (shK (q := 1) (by decide)) (pl hN rfl)) rfl (by decide) ⟨rfl, rfl⟩ (Nat.le_of_ble_eq_true rfl) rfl (t_drips1 kk)
  · intro kk; exact r_call (pc' := 20) [vR (some (10 + 2))] [] d52_17 rfl o52 st8_47_1 (rcv1 (shK (q := 2) (by decide)) (pl hN rfl)) rfl (by decide) ⟨rfl, rfl⟩ (Nat.le_of_ble_eq_true rfl) rfl (t_drips1 kk)
  · intro kk; exact r_call (pc' := 20) [vR (some (10 + 3))] [] d52_17 rfl o52 st8_47_7 (rcv1 (shK (q := 3) (by decide)) (pl hN rfl)) rfl (by decide) ⟨rfl, rfl⟩ (Nat.le_of_ble_eq_true rfl) rfl (t_drips1 kk)
  · intro kk; exact r_call (pc' := 20) [vR (some (10 + 4))] [] d52_17 rfl o52 st8_47_0 (rcv1 (shK (q := 4) (by decide)) (pl hN rfl)) rfl (by decide) ⟨rfl, rfl⟩ (Nat.le_of_ble_eq_true rfl) rfl (t_drips0 kk)
  · intro kk; exact r_call (pc' := 20) [vR (some (10 + 5))] [] d52_17 rfl o52 st8_47_2 (rcv1 (shK (q := 5) (by decide)) (pl hN rfl)) rfl (by decide) ⟨rfl, rfl⟩ (Nat.le_of_ble_eq_true rfl) rfl (t_drips0 kk)
theorem t_isServed {d : Nat} {h : Hp} {Q : Option AV → Hp → Prop} {o : Nat} (hN : hn h = 65) (ho : SH o = (0, 8)) (hlt : o < 65) (k : Q (some (vI (bI (hi h o 2 = 13)))) h) : Spec d 47 [vR (some o)] h Q := by
  refine spec_intro (by decide +kernel) rfl (Nat.le_of_ble_eq_true rfl) ?_
  refine r_aload_n (pc' := 1) d47_0 rfl rfl rfl ?_
  refine r_getI (pc' := 4) d47_1 rfl o47 sf8_19_8 ho (plo hN hlt) ?_
  refine r_bipush (v := 13) (pc' := 6) d47_4 rfl (by decide) ?_
  refine r_icmp_ne 13 (pc' := 9) d47_6 rfl rfl (fun c6 => ?_) (fun c6 => ?_)
  · refine r_iconst (v := 0) (pc' := 14) d47_13 rfl (by decide) ?_
    exact r_iretZ0 d47_14 rfl (qv (b0 c6) k)
  · refine r_iconst (v := 1) (pc' := 10) d47_9 rfl (by decide) ?_
    refine r_goto 14 d47_10 rfl ?_
    exact r_iretZ1 d47_14 rfl (qv (b1 c6) k)
theorem t_isThrough {d : Nat} {h : Hp} {Q : Option AV → Hp → Prop} {o q : Nat} (hN : hn h = 65) (ho : SH o = (0, 8)) (hlt : o < 65) (hK : KC h) (hq : hr h o 1 = some (10 + q)) (hq6 : q < 6) (k : Q (some (vI (bI (ndK q ≤ hi h o 3)))) h) : Spec d 48 [vR (some o)] h Q := by
  refine spec_intro (by decide +kernel) rfl (Nat.le_of_ble_eq_true rfl) ?_
  refine r_aload_n (pc' := 1) d48_0 rfl rfl rfl ?_
  refine r_getI (pc' := 4) d48_1 rfl o48 sf8_22_8 ho (plo hN hlt) ?_
  refine r_aload_n (pc' := 5) d48_4 rfl rfl rfl ?_
  refine r_getS (pc' := 8) d48_5 rfl o48 sf8_15_8 ho (plo hN hlt) hq ?_
  refine r_getI (pc' := 11) d48_8 rfl o48 (sfK8_38 hq6) (shK hq6) (plK hN hq6) ?_
  refine wp_v (hK q hq6).2.2.1 ?_
  refine r_icmp_lt 18 (pc' := 14) d48_11 rfl rfl (fun c11 => ?_) (fun c11 => ?_)
  · refine r_iconst (v := 0) (pc' := 19) d48_18 rfl (by decide) ?_
    exact r_iretZ0 d48_19 rfl (qv (b0 (Int32.not_le.mpr c11)) k)
  · refine r_iconst (v := 1) (pc' := 15) d48_14 rfl (by decide) ?_
    refine r_goto 19 d48_15 rfl ?_
    exact r_iretZ1 d48_19 rfl (qv (b1 (Int32.not_lt.mp c11)) k)
theorem t_isDone {d : Nat} {h : Hp} {Q : Option AV → Hp → Prop} {o q : Nat} (hN : hn h = 65) (ho : SH o = (0, 8)) (hlt : o < 65) (hK : KC h) (hq : hr h o 1 = some (10 + q)) (hq6 : q < 6) (k : Q (some (vI (bI (ndK q ≤ hi h o 3 ∧ hi h o 7 = 0)))) h) : Spec (d + 1) 49 [vR (some o)] h Q := by
  refine spec_intro (by decide +kernel) rfl (Nat.le_of_ble_eq_true rfl) ?_
  refine r_aload_n (pc' := 1) d49_0 rfl rfl rfl ?_
  refine r_call (pc' := 4) [vR (some o)] [] d49_1 rfl o49 st8_43_8 (rcv1 ho (plo hN hlt)) rfl (by decide) ⟨rfl, rfl⟩ (Nat.le_of_ble_eq_true rfl) rfl (t_isThrough hN ho hlt hK hq hq6 ?_)
  refine r_if_eqB 18 (pc' := 7) d49_4 rfl rfl (fun c4 => ?_) (fun c4 => ?_)
  · refine r_iconst (v := 0) (pc' := 19) d49_18 rfl (by decide) ?_
    exact r_iretZ0 d49_19 rfl (qv (b0 (by first | exact fun w => c4 w.1 | exact fun w => c11 w.2)) k)
  · refine r_aload_n (pc' := 8) d49_7 rfl rfl rfl ?_
    refine r_getI (pc' := 11) d49_8 rfl o49 sf8_34_8 ho (plo hN hlt) ?_
    refine r_if_ne 18 (pc' := 14) d49_11 rfl rfl (fun c11 => ?_) (fun c11 => ?_)
    · refine r_iconst (v := 0) (pc' := 19) d49_18 rfl (by decide) ?_
      exact r_iretZ0 d49_19 rfl (qv (b0 (by first | exact fun w => c4 w.1 | exact fun w => c11 w.2)) k)
    · refine r_iconst (v := 1) (pc' := 15) d49_14 rfl (by decide) ?_
      refine r_goto 19 d49_15 rfl ?_
      exact r_iretZ1 d49_19 rfl (qv (b1 ⟨c4, c11⟩) k)
theorem t_skinOf {d : Nat} {h : Hp} {Q : Option AV → Hp → Prop} {o : Nat} {w : Int32} (hN : hn h = 65) (ho : SH o = (0, 8)) (hlt : o < 65) (k : Q (some (vI (if w = hi h o 6 then hi h o 4 else hi h o 5))) h) : Spec d 50 [vR (some o), vI w] h Q := by
  refine spec_intro (by decide +kernel) rfl (Nat.le_of_ble_eq_true rfl) ?_
  refine r_iload_n (pc' := 1) d50_0 rfl rfl rfl ?_
  refine r_aload_n (pc' := 2) d50_1 rfl rfl rfl ?_
  refine r_getI (pc' := 5) d50_2 rfl o50 sf8_31_8 ho (plo hN hlt) ?_
  refine r_icmp_ne 15 (pc' := 8) d50_5 rfl rfl (fun c5 => ?_) (fun c5 => ?_)
  · refine r_aload_n (pc' := 16) d50_15 rfl rfl rfl ?_
    refine r_getI (pc' := 19) d50_16 rfl o50 sf8_28_8 ho (plo hN hlt) ?_
    exact r_iretI d50_19 rfl (qv (by simp only [c5, if_true, if_false]) k)
  · refine r_aload_n (pc' := 9) d50_8 rfl rfl rfl ?_
    refine r_getI (pc' := 12) d50_9 rfl o50 sf8_25_8 ho (plo hN hlt) ?_
    refine r_goto 19 d50_12 rfl ?_
    exact r_iretI d50_19 rfl (qv (by simp only [c5, if_true, if_false]) k)

def flipV (f : Nat → Int32) : Nat → Int32 := upd (upd (upd f 4 (f 5)) 5 (f 4)) 6 (1 - upd (upd f 4 (f 5)) 5 (f 4) 6)
/-- a heap as one place rewritten -/
theorem w0 (h : Hp) (o : Nat) : h = setw h o (hi h o) := (setw_self h o).symm
theorem t_flip {d : Nat} {h : Hp} {Q : Option AV → Hp → Prop} {o : Nat} (hN : hn h = 65) (ho : SH o = (0, 8)) (hlt : o < 65) (k : Q none (setw h o (flipV (hi h o)))) : Spec d 51 [vR (some o)] h Q := by
  refine spec_intro (by decide +kernel) rfl (Nat.le_of_ble_eq_true rfl) ?_
  refine r_aload_n (pc' := 1) d51_0 rfl rfl rfl ?_
  refine r_getI (pc' := 4) d51_1 rfl o51 sf8_25_8 ho (plo hN hlt) ?_
  refine r_istore_n (pc' := 5) (ls' := [(1, vI _), (0, vR (some o))]) d51_4 rfl rfl (by decide) rfl ?_
  refine r_aload_n (pc' := 6) d51_5 rfl rfl rfl ?_
  refine r_aload_n (pc' := 7) d51_6 rfl rfl rfl ?_
  refine r_getI (pc' := 10) d51_7 rfl o51 sf8_28_8 ho (plo hN hlt) ?_
  refine r_putI (pc' := 13) d51_10 rfl o51 sp8_25_8 ho (fun w => absurd w (by decide)) (Or.inl rfl) (plo hN hlt) ?_
  refine r_aload_n (pc' := 14) d51_13 rfl rfl rfl ?_
  refine r_iload_n (pc' := 15) d51_14 rfl rfl rfl ?_
  refine r_putI (pc' := 18) d51_15 rfl o51 sp8_28_8 ho (fun w => absurd w (by decide)) (Or.inl rfl) (plo hN hlt) ?_
  refine r_aload_n (pc' := 19) d51_18 rfl rfl rfl ?_
  refine r_iconst (v := 1) (pc' := 20) d51_19 rfl (by decide) ?_
  refine r_aload_n (pc' := 21) d51_20 rfl rfl rfl ?_
  refine r_getI (pc' := 24) d51_21 rfl o51 sf8_31_8 ho (plo hN hlt) ?_
  refine r_isub (pc' := 25) d51_24 rfl ?_
  refine r_putI (pc' := 28) d51_25 rfl o51 sp8_31_8 ho (fun w => absurd w (by decide)) (Or.inl rfl) (plo hN hlt) ?_
  exact r_ret d51_28 rfl (qh (by simp only [seti_w, hi_setw_row, setw_w]; rfl) k)
def heatV (q : Nat) (f : Nat → Int32) (fi wi : Int32) : Int32 := fi + (if 0 < fi ∧ 10 ≤ f 4 ∧ drK q then 3 else 0) + wi
theorem t_heatBy {d : Nat} {h : Hp} {Q : Option AV → Hp → Prop} {o q : Nat} {fi wi : Int32} (hN : hn h = 65) (ho : SH o = (0, 8)) (hlt : o < 65) (hK : KC h) (hq : hr h o 1 = some (10 + q)) (hq6 : q < 6) (k : Q (some (vI (heatV q (hi h o) fi wi))) h) : Spec (d + 1) 52 [vR (some o), vI fi, vI wi] h Q := by
  refine spec_intro (by decide +kernel) rfl (Nat.le_of_ble_eq_true rfl) ?_
  refine r_iload_n (pc' := 1) d52_0 rfl rfl rfl ?_
  refine r_if_le 27 (pc' := 4) d52_1 rfl rfl (fun c1 => ?_) (fun c1 => ?_)
  · refine r_iconst (v := 0) (pc' := 28) d52_27 rfl (by decide) ?_
    refine r_istore_n (pc' := 29) (ls' := [(3, vI _), (0, vR (some o)), (1, vI _), (2, vI _)]) d52_28 rfl rfl (by decide) rfl ?_
    refine r_iload_n (pc' := 30) d52_29 rfl rfl rfl ?_
    refine r_iload_n (pc' := 31) d52_30 rfl rfl rfl ?_
    refine r_iadd (pc' := 32) d52_31 rfl ?_
    refine r_iload_n (pc' := 33) d52_32 rfl rfl rfl ?_
    refine r_iadd (pc' := 34) d52_33 rfl ?_
    exact r_iretI d52_34 rfl (qv (by unfold heatV; rw [if_neg (by first | exact fun z => absurd z.1 (Int32.not_lt.mpr c1) | exact fun z => absurd z.2.1 (Int32.not_le.mpr c10) | exact fun z => c20 z.2.2)]) k)
  · refine r_aload_n (pc' := 5) d52_4 rfl rfl rfl ?_
    refine r_getI (pc' := 8) d52_5 rfl o52 sf8_25_8 ho (plo hN hlt) ?_
    refine r_bipush (v := 10) (pc' := 10) d52_8 rfl (by decide) ?_
    refine r_icmp_lt 27 (pc' := 13) d52_10 rfl rfl (fun c10 => ?_) (fun c10 => ?_)
    · refine r_iconst (v := 0) (pc' := 28) d52_27 rfl (by decide) ?_
      refine r_istore_n (pc' := 29) (ls' := [(3, vI _), (0, vR (some o)), (1, vI _), (2, vI _)]) d52_28 rfl rfl (by decide) rfl ?_
      refine r_iload_n (pc' := 30) d52_29 rfl rfl rfl ?_
      refine r_iload_n (pc' := 31) d52_30 rfl rfl rfl ?_
      refine r_iadd (pc' := 32) d52_31 rfl ?_
      refine r_iload_n (pc' := 33) d52_32 rfl rfl rfl ?_
      refine r_iadd (pc' := 34) d52_33 rfl ?_
      exact r_iretI d52_34 rfl (qv (by unfold heatV; rw [if_neg (by first | exact fun z => absurd z.1 (Int32.not_lt.mpr c1) | exact fun z => absurd z.2.1 (Int32.not_le.mpr c10) | exact fun z => c20 z.2.2)]) k)
    · refine r_aload_n (pc' := 14) d52_13 rfl rfl rfl ?_
      refine r_getS (pc' := 17) d52_14 rfl o52 sf8_15_8 ho (plo hN hlt) hq ?_
      refine r_drips hN hq6 ?_
      refine r_if_eqB 27 (pc' := 23) d52_20 rfl rfl (fun c20 => ?_) (fun c20 => ?_)
      · refine r_iconst (v := 0) (pc' := 28) d52_27 rfl (by decide) ?_
        refine r_istore_n (pc' := 29) (ls' := [(3, vI _), (0, vR (some o)), (1, vI _), (2, vI _)]) d52_28 rfl rfl (by decide) rfl ?_
        refine r_iload_n (pc' := 30) d52_29 rfl rfl rfl ?_
        refine r_iload_n (pc' := 31) d52_30 rfl rfl rfl ?_
        refine r_iadd (pc' := 32) d52_31 rfl ?_
        refine r_iload_n (pc' := 33) d52_32 rfl rfl rfl ?_
        refine r_iadd (pc' := 34) d52_33 rfl ?_
        exact r_iretI d52_34 rfl (qv (by unfold heatV; rw [if_neg (by first | exact fun z => absurd z.1 (Int32.not_lt.mpr c1) | exact fun z => absurd z.2.1 (Int32.not_le.mpr c10) | exact fun z => c20 z.2.2)]) k)
      · refine r_iconst (v := 3) (pc' := 24) d52_23 rfl (by decide) ?_
        refine r_goto 28 d52_24 rfl ?_
        refine r_istore_n (pc' := 29) (ls' := [(3, vI _), (0, vR (some o)), (1, vI _), (2, vI _)]) d52_28 rfl rfl (by decide) rfl ?_
        refine r_iload_n (pc' := 30) d52_29 rfl rfl rfl ?_
        refine r_iload_n (pc' := 31) d52_30 rfl rfl rfl ?_
        refine r_iadd (pc' := 32) d52_31 rfl ?_
        refine r_iload_n (pc' := 33) d52_32 rfl rfl rfl ?_
        refine r_iadd (pc' := 34) d52_33 rfl ?_
        exact r_iretI d52_34 rfl (qv (by unfold heatV; rw [if_pos ⟨Int32.not_le.mp c1, Int32.not_lt.mp c10, c20⟩]) k)
def mx0 (v : Int32) : Int32 := if 0 < v then v else 0
def ro1 (q : Nat) (fi wi : Int32) (f : Nat → Int32) : Nat → Int32 := upd f 4 (f 4 + heatV q f fi wi)
def ro2 (f : Nat → Int32) : Nat → Int32 := upd f 5 (mx0 (f 5 - 2))
def ro3 (q : Nat) (f : Nat → Int32) : Nat → Int32 := upd f 3 (f 3 + (f 4 + f 5) / thK q)
abbrev buV (q : Nat) (f : Nat → Int32) : Prop := ¬ f 7 = 0 ∨ lmK q < f 4 ∨ lmK q < f 5
def ro4 (q : Nat) (f : Nat → Int32) : Nat → Int32 := upd f 7 (if buV q f then 1 else 0)
def roastV (q : Nat) (fi wi : Int32) (f : Nat → Int32) : Nat → Int32 := ro4 q (ro3 q (ro2 (ro1 q fi wi f)))
theorem KC.w {h : Hp} {o : Nat} {f : Nat → Int32} (hK : KC h) (ho : SH o = (0, 8)) : KC (setw h o f) := by
  intro q hq
  have e : hi (setw h o f) (10 + q) = hi h (10 + q) := by
    refine hi_setw_ne _ _ _ _ (fun z => ?_)
    subst z
    rw [shK hq] at ho
    exact q6 (p := fun q => (0, kci q) = (0, 8) → False) (by decide) (by decide) (by decide) (by decide) (by decide) (by decide) hq ho
  rw [e]
  exact hK q hq
theorem t_roastBy {d : Nat} {h : Hp} {Q : Option AV → Hp → Prop} {o q : Nat} {fi wi : Int32} (hN : hn h = 65) (ho : SH o = (0, 8)) (hlt : o < 65) (hK : KC h) (hq : hr h o 1 = some (10 + q)) (hq6 : q < 6) (k : Q none (setw h o (roastV q fi wi (hi h o)))) : Spec (d + 2) 53 [vR (some o), vI fi, vI wi] h Q := by
  refine spec_intro (by decide +kernel) rfl (Nat.le_of_ble_eq_true rfl) ?_
  refine r_aload_n (pc' := 1) d53_0 rfl rfl rfl ?_
  refine r_dupR (pc' := 2) d53_1 rfl ?_
  refine r_getI (pc' := 5) d53_2 rfl o53 sf8_25_8 ho (plo hN hlt) ?_
  refine r_aload_n (pc' := 6) d53_5 rfl rfl rfl ?_
  refine r_iload_n (pc' := 7) d53_6 rfl rfl rfl ?_
  refine r_iload_n (pc' := 8) d53_7 rfl rfl rfl ?_
  refine r_call (pc' := 11) [vR (some o), vI _, vI _] [vI _, vR (some o)] d53_8 rfl o53 st8_50_8 (rcv1 ho (plo hN hlt)) rfl (by decide) ⟨rfl, rfl⟩ (Nat.le_of_ble_eq_true rfl) rfl (t_heatBy hN ho hlt hK hq hq6 ?_)
  refine r_iadd (pc' := 12) d53_11 rfl ?_
  refine r_putI (pc' := 15) d53_12 rfl o53 sp8_25_8 ho (fun w => absurd w (by decide)) (Or.inl rfl) (plo hN hlt) ?_
  refine wp_heap (h' := setw h o (ro1 q fi wi (hi h o))) rfl ?_
  refine r_aload_n (pc' := 16) d53_15 rfl rfl rfl ?_
  refine r_iconst (v := 0) (pc' := 17) d53_16 rfl (by decide) ?_
  refine r_aload_n (pc' := 18) d53_17 rfl rfl rfl ?_
  refine r_getI (pc' := 21) d53_18 rfl o53 sf8_28_8 ho (plo hN hlt) ?_
  refine r_iconst (v := 2) (pc' := 22) d53_21 rfl (by decide) ?_
  refine r_isub (pc' := 23) d53_22 rfl ?_
  refine r_max (pc' := 26) d53_23 rfl o53 st8_54 jm_max2 jm_i jm_max4 (Nat.le_of_ble_eq_true rfl) ?_
  refine r_putI (pc' := 29) d53_26 rfl o53 sp8_28_8 ho (fun w => absurd w (by decide)) (Or.inl rfl) (plo hN hlt) ?_
  refine wp_heap (h' := setw h o (ro2 (ro1 q fi wi (hi h o)))) (by rw [seti_setw, hi_setw_row]; rfl) ?_
  refine r_aload_n (pc' := 30) d53_29 rfl rfl rfl ?_
  refine r_dupR (pc' := 31) d53_30 rfl ?_
  refine r_getI (pc' := 34) d53_31 rfl o53 sf8_22_8 ho (plo hN hlt) ?_
  refine r_aload_n (pc' := 35) d53_34 rfl rfl rfl ?_
  refine r_getS (pc' := 38) d53_35 rfl o53 sf8_15_8 ho (plo hN hlt) hq ?_
  refine r_aload_n (pc' := 39) d53_38 rfl rfl rfl ?_
  refine r_getI (pc' := 42) d53_39 rfl o53 sf8_25_8 ho (plo hN hlt) ?_
  refine r_aload_n (pc' := 43) d53_42 rfl rfl rfl ?_
  refine r_getI (pc' := 46) d53_43 rfl o53 sf8_28_8 ho (plo hN hlt) ?_
  refine r_iadd (pc' := 47) d53_46 rfl ?_
  refine r_call (pc' := 50) [vR (some (10 + q)), vI _] [vI _, vR (some o)] d53_47 rfl o53 (stK8_59 hq6) (rcv1 (shK hq6) (plK hN hq6)) rfl (by decide) ⟨rfl, rfl⟩ (Nat.le_of_ble_eq_true rfl) rfl (t_share hN (hK.w ho) hq6 ?_)
  refine r_iadd (pc' := 51) d53_50 rfl ?_
  refine r_putI (pc' := 54) d53_51 rfl o53 sp8_22_8 ho (fun w => absurd w (by decide)) (Or.inl rfl) (plo hN hlt) ?_
  refine wp_heap (h' := setw h o (ro3 q (ro2 (ro1 q fi wi (hi h o))))) (by rw [seti_setw, hi_setw_row]; rfl) ?_
  refine r_aload_n (pc' := 55) d53_54 rfl rfl rfl ?_
  refine r_aload_n (pc' := 56) d53_55 rfl rfl rfl ?_
  refine r_getI (pc' := 59) d53_56 rfl o53 sf8_34_8 ho (plo hN hlt) ?_
  refine r_if_ne 90 (pc' := 62) d53_59 rfl rfl (fun c59 => ?_) (fun c59 => ?_)
  · refine r_iconst (v := 1) (pc' := 91) d53_90 rfl (by decide) ?_
    refine r_goto 95 d53_91 rfl ?_
    refine r_putI (pc' := 98) d53_95 rfl o53 sp8_34_8 ho (fun w => absurd w (by decide)) (Or.inr ⟨rfl, Or.inr rfl⟩) (plo hN hlt) ?_
    exact r_ret d53_98 rfl (qh (by rw [seti_setw]; rw [hi_setw_row] at *; unfold roastV; generalize ro3 q (ro2 (ro1 q fi wi (hi h o))) = f at *; show setw h o (upd f 7 (if buV q f then 1 else 0)) = setw h o (upd f 7 1); rw [if_pos (Or.inl c59)]) k)
  · refine r_aload_n (pc' := 63) d53_62 rfl rfl rfl ?_
    refine r_getI (pc' := 66) d53_63 rfl o53 sf8_25_8 ho (plo hN hlt) ?_
    refine r_aload_n (pc' := 67) d53_66 rfl rfl rfl ?_
    refine r_getS (pc' := 70) d53_67 rfl o53 sf8_15_8 ho (plo hN hlt) hq ?_
    refine r_getI (pc' := 73) d53_70 rfl o53 (sfK8_63 hq6) (shK hq6) (plK hN hq6) ?_
    refine wp_v (hK.w ho q hq6).2.2.2 ?_
    refine r_icmp_gt 90 (pc' := 76) d53_73 rfl rfl (fun c73 => ?_) (fun c73 => ?_)
    · refine r_iconst (v := 1) (pc' := 91) d53_90 rfl (by decide) ?_
      refine r_goto 95 d53_91 rfl ?_
      refine r_putI (pc' := 98) d53_95 rfl o53 sp8_34_8 ho (fun w => absurd w (by decide)) (Or.inr ⟨rfl, Or.inr rfl⟩) (plo hN hlt) ?_
      exact r_ret d53_98 rfl (qh (by rw [seti_setw]; rw [hi_setw_row] at *; unfold roastV; generalize ro3 q (ro2 (ro1 q fi wi (hi h o))) = f at *; show setw h o (upd f 7 (if buV q f then 1 else 0)) = setw h o (upd f 7 1); rw [if_pos (Or.inr (Or.inl c73))]) k)
    · refine r_aload_n (pc' := 77) d53_76 rfl rfl rfl ?_
      refine r_getI (pc' := 80) d53_77 rfl o53 sf8_28_8 ho (plo hN hlt) ?_
      refine r_aload_n (pc' := 81) d53_80 rfl rfl rfl ?_
      refine r_getS (pc' := 84) d53_81 rfl o53 sf8_15_8 ho (plo hN hlt) hq ?_
      refine r_getI (pc' := 87) d53_84 rfl o53 (sfK8_63 hq6) (shK hq6) (plK hN hq6) ?_
      refine wp_v (hK.w ho q hq6).2.2.2 ?_
      refine r_icmp_le 94 (pc' := 90) d53_87 rfl rfl (fun c87 => ?_) (fun c87 => ?_)
      · refine r_iconst (v := 0) (pc' := 95) d53_94 rfl (by decide) ?_
        refine r_putI (pc' := 98) d53_95 rfl o53 sp8_34_8 ho (fun w => absurd w (by decide)) (Or.inr ⟨rfl, Or.inl rfl⟩) (plo hN hlt) ?_
        exact r_ret d53_98 rfl (qh (by rw [seti_setw]; rw [hi_setw_row] at *; unfold roastV; generalize ro3 q (ro2 (ro1 q fi wi (hi h o))) = f at *; show setw h o (upd f 7 (if buV q f then 1 else 0)) = setw h o (upd f 7 0); rw [if_neg (fun z => z.elim (fun y => y c59) (fun y => y.elim c73 (Int32.not_lt.mpr c87)))]) k)
      · refine r_iconst (v := 1) (pc' := 91) d53_90 rfl (by decide) ?_
        refine r_goto 95 d53_91 rfl ?_
        refine r_putI (pc' := 98) d53_95 rfl o53 sp8_34_8 ho (fun w => absurd w (by decide)) (Or.inr ⟨rfl, Or.inr rfl⟩) (plo hN hlt) ?_
        exact r_ret d53_98 rfl (qh (by rw [seti_setw]; rw [hi_setw_row] at *; unfold roastV; generalize ro3 q (ro2 (ro1 q fi wi (hi h o))) = f at *; show setw h o (upd f 7 (if buV q f then 1 else 0)) = setw h o (upd f 7 1); rw [if_pos (Or.inr (Or.inr (Int32.not_le.mp c87)))]) k)
def restV (n : Int32) (f : Nat → Int32) : Nat → Int32 := upd (upd f 4 (mx0 (f 4 - 3 * n))) 5 (mx0 (upd f 4 (mx0 (f 4 - 3 * n)) 5 - 3 * n))
theorem t_rest {d : Nat} {h : Hp} {Q : Option AV → Hp → Prop} {o : Nat} {n : Int32} (hN : hn h = 65) (ho : SH o = (0, 8)) (hlt : o < 65) (k : Q none (setw h o (restV n (hi h o)))) : Spec (d + 1) 54 [vR (some o), vI n] h Q := by
  refine spec_intro (by decide +kernel) rfl (Nat.le_of_ble_eq_true rfl) ?_
  refine r_aload_n (pc' := 1) d54_0 rfl rfl rfl ?_
  refine r_iconst (v := 0) (pc' := 2) d54_1 rfl (by decide) ?_
  refine r_aload_n (pc' := 3) d54_2 rfl rfl rfl ?_
  refine r_getI (pc' := 6) d54_3 rfl o54 sf8_25_8 ho (plo hN hlt) ?_
  refine r_iconst (v := 3) (pc' := 7) d54_6 rfl (by decide) ?_
  refine r_iload_n (pc' := 8) d54_7 rfl rfl rfl ?_
  refine r_imul (pc' := 9) d54_8 rfl ?_
  refine r_isub (pc' := 10) d54_9 rfl ?_
  refine r_max (pc' := 13) d54_10 rfl o54 st8_54 jm_max2 jm_i jm_max4 (Nat.le_of_ble_eq_true rfl) ?_
  refine r_putI (pc' := 16) d54_13 rfl o54 sp8_25_8 ho (fun w => absurd w (by decide)) (Or.inl rfl) (plo hN hlt) ?_
  refine r_aload_n (pc' := 17) d54_16 rfl rfl rfl ?_
  refine r_iconst (v := 0) (pc' := 18) d54_17 rfl (by decide) ?_
  refine r_aload_n (pc' := 19) d54_18 rfl rfl rfl ?_
  refine r_getI (pc' := 22) d54_19 rfl o54 sf8_28_8 ho (plo hN hlt) ?_
  refine r_iconst (v := 3) (pc' := 23) d54_22 rfl (by decide) ?_
  refine r_iload_n (pc' := 24) d54_23 rfl rfl rfl ?_
  refine r_imul (pc' := 25) d54_24 rfl ?_
  refine r_isub (pc' := 26) d54_25 rfl ?_
  refine r_max (pc' := 29) d54_26 rfl o54 st8_54 jm_max2 jm_i jm_max4 (Nat.le_of_ble_eq_true rfl) ?_
  refine r_putI (pc' := 32) d54_29 rfl o54 sp8_28_8 ho (fun w => absurd w (by decide)) (Or.inl rfl) (plo hN hlt) ?_
  exact r_ret d54_32 rfl (qh (by simp only [seti_w, hi_setw_row, setw_w]; rfl) k)
def coldV (pl : Int32) (f : Nat → Int32) : Nat → Int32 := upd (upd (upd (upd (upd (upd f 2 pl) 3 0) 4 0) 5 0) 6 0) 7 0
theorem t_layCold {d : Nat} {h : Hp} {Q : Option AV → Hp → Prop} {o p : Nat} {pl : Int32} (hN : hn h = 65) (ho : SH o = (0, 8)) (hlt : o < 65) (k : Q none (setw (setr h o 1 (some p)) o (coldV pl (hi h o)))) : Spec d 45 [vR (some o), vR (some p), vI pl] h Q := by
  refine spec_intro (by decide +kernel) rfl (Nat.le_of_ble_eq_true rfl) ?_
  refine r_aload_n (pc' := 1) d45_0 rfl rfl rfl ?_
  refine r_aload_n (pc' := 2) d45_1 rfl rfl rfl ?_
  refine r_putR (pc' := 5) d45_2 rfl o45 sp8_15_8 ho (fun w => absurd w (by decide)) (Or.inl ⟨_, rfl⟩) (plo hN hlt) ?_
  refine r_aload_n (pc' := 6) d45_5 rfl rfl rfl ?_
  refine r_iload_n (pc' := 7) d45_6 rfl rfl rfl ?_
  refine r_putI (pc' := 10) d45_7 rfl o45 sp8_19_8 ho (fun w => absurd w (by decide)) (Or.inl rfl) (plo hN hlt) ?_
  refine r_aload_n (pc' := 11) d45_10 rfl rfl rfl ?_
  refine r_iconst (v := 0) (pc' := 12) d45_11 rfl (by decide) ?_
  refine r_putI (pc' := 15) d45_12 rfl o45 sp8_22_8 ho (fun w => absurd w (by decide)) (Or.inl rfl) (plo hN hlt) ?_
  refine r_aload_n (pc' := 16) d45_15 rfl rfl rfl ?_
  refine r_iconst (v := 0) (pc' := 17) d45_16 rfl (by decide) ?_
  refine r_putI (pc' := 20) d45_17 rfl o45 sp8_25_8 ho (fun w => absurd w (by decide)) (Or.inl rfl) (plo hN hlt) ?_
  refine r_aload_n (pc' := 21) d45_20 rfl rfl rfl ?_
  refine r_iconst (v := 0) (pc' := 22) d45_21 rfl (by decide) ?_
  refine r_putI (pc' := 25) d45_22 rfl o45 sp8_28_8 ho (fun w => absurd w (by decide)) (Or.inl rfl) (plo hN hlt) ?_
  refine r_aload_n (pc' := 26) d45_25 rfl rfl rfl ?_
  refine r_iconst (v := 0) (pc' := 27) d45_26 rfl (by decide) ?_
  refine r_putI (pc' := 30) d45_27 rfl o45 sp8_31_8 ho (fun w => absurd w (by decide)) (Or.inl rfl) (plo hN hlt) ?_
  refine r_aload_n (pc' := 31) d45_30 rfl rfl rfl ?_
  refine r_iconst (v := 0) (pc' := 32) d45_31 rfl (by decide) ?_
  refine r_putI (pc' := 35) d45_32 rfl o45 sp8_34_8 ho (fun w => absurd w (by decide)) (Or.inr ⟨rfl, Or.inl rfl⟩) (plo hN hlt) ?_
  exact r_ret d45_35 rfl (qh (by simp only [seti_w, hi_setw_row, setw_w]; rfl) k)
def becV (f g : Nat → Int32) : Nat → Int32 := upd (upd (upd (upd (upd (upd f 2 (g 2)) 3 (g 3)) 4 (g 4)) 5 (g 5)) 6 (g 6)) 7 (g 7)
theorem t_become {d : Nat} {h : Hp} {Q : Option AV → Hp → Prop} {o t q : Nat} (hN : hn h = 65) (ho : SH o = (0, 8)) (hlt : o < 65) (ht8 : SH t = (0, 8)) (htl : t < 65) (hne : t ≠ o) (hq : hr h t 1 = some (10 + q)) (hbz : hi h t 7 = 0 ∨ hi h t 7 = 1) (k : Q none (setw (setr h o 1 (some (10 + q))) o (becV (hi h o) (hi h t)))) : Spec d 46 [vR (some o), vR (some t)] h Q := by
  refine spec_intro (by decide +kernel) rfl (Nat.le_of_ble_eq_true rfl) ?_
  refine r_aload_n (pc' := 1) d46_0 rfl rfl rfl ?_
  refine r_aload_n (pc' := 2) d46_1 rfl rfl rfl ?_
  refine r_getS (pc' := 5) d46_2 rfl o46 sf8_15_8 ht8 (plo hN htl) hq ?_
  refine r_putR (pc' := 8) d46_5 rfl o46 sp8_15_8 ho (fun w => absurd w (by decide)) (Or.inl ⟨_, rfl⟩) (plo hN hlt) ?_
  refine r_aload_n (pc' := 9) d46_8 rfl rfl rfl ?_
  refine r_aload_n (pc' := 10) d46_9 rfl rfl rfl ?_
  refine r_getI (pc' := 13) d46_10 rfl o46 sf8_19_8 ht8 (plo hN htl) ?_
  refine wp_v (y := hi h t 2) (by first | rfl | (simp only [seti_w, hi_setw_ne _ o _ t hne]; done) | (simp only [seti_w, hi_setw_ne _ o _ t hne]; rfl)) ?_
  refine r_putI (pc' := 16) d46_13 rfl o46 sp8_19_8 ho (fun w => absurd w (by decide)) (Or.inl rfl) (plo hN hlt) ?_
  refine r_aload_n (pc' := 17) d46_16 rfl rfl rfl ?_
  refine r_aload_n (pc' := 18) d46_17 rfl rfl rfl ?_
  refine r_getI (pc' := 21) d46_18 rfl o46 sf8_22_8 ht8 (plo hN htl) ?_
  refine wp_v (y := hi h t 3) (by first | rfl | (simp only [seti_w, hi_setw_ne _ o _ t hne]; done) | (simp only [seti_w, hi_setw_ne _ o _ t hne]; rfl)) ?_
  refine r_putI (pc' := 24) d46_21 rfl o46 sp8_22_8 ho (fun w => absurd w (by decide)) (Or.inl rfl) (plo hN hlt) ?_
  refine r_aload_n (pc' := 25) d46_24 rfl rfl rfl ?_
  refine r_aload_n (pc' := 26) d46_25 rfl rfl rfl ?_
  refine r_getI (pc' := 29) d46_26 rfl o46 sf8_25_8 ht8 (plo hN htl) ?_
  refine wp_v (y := hi h t 4) (by first | rfl | (simp only [seti_w, hi_setw_ne _ o _ t hne]; done) | (simp only [seti_w, hi_setw_ne _ o _ t hne]; rfl)) ?_
  refine r_putI (pc' := 32) d46_29 rfl o46 sp8_25_8 ho (fun w => absurd w (by decide)) (Or.inl rfl) (plo hN hlt) ?_
  refine r_aload_n (pc' := 33) d46_32 rfl rfl rfl ?_
  refine r_aload_n (pc' := 34) d46_33 rfl rfl rfl ?_
  refine r_getI (pc' := 37) d46_34 rfl o46 sf8_28_8 ht8 (plo hN htl) ?_
  refine wp_v (y := hi h t 5) (by first | rfl | (simp only [seti_w, hi_setw_ne _ o _ t hne]; done) | (simp only [seti_w, hi_setw_ne _ o _ t hne]; rfl)) ?_
  refine r_putI (pc' := 40) d46_37 rfl o46 sp8_28_8 ho (fun w => absurd w (by decide)) (Or.inl rfl) (plo hN hlt) ?_
  refine r_aload_n (pc' := 41) d46_40 rfl rfl rfl ?_
  refine r_aload_n (pc' := 42) d46_41 rfl rfl rfl ?_
  refine r_getI (pc' := 45) d46_42 rfl o46 sf8_31_8 ht8 (plo hN htl) ?_
  refine wp_v (y := hi h t 6) (by first | rfl | (simp only [seti_w, hi_setw_ne _ o _ t hne]; done) | (simp only [seti_w, hi_setw_ne _ o _ t hne]; rfl)) ?_
  refine r_putI (pc' := 48) d46_45 rfl o46 sp8_31_8 ho (fun w => absurd w (by decide)) (Or.inl rfl) (plo hN hlt) ?_
  refine r_aload_n (pc' := 49) d46_48 rfl rfl rfl ?_
  refine r_aload_n (pc' := 50) d46_49 rfl rfl rfl ?_
  refine r_getI (pc' := 53) d46_50 rfl o46 sf8_34_8 ht8 (plo hN htl) ?_
  refine wp_v (y := hi h t 7) (by first | rfl | (simp only [seti_w, hi_setw_ne _ o _ t hne]; done) | (simp only [seti_w, hi_setw_ne _ o _ t hne]; rfl)) ?_
  refine r_putI (pc' := 56) d46_53 rfl o46 sp8_34_8 ho (fun w => absurd w (by decide)) (Or.inr ⟨rfl, hbz⟩) (plo hN hlt) ?_
  exact r_ret d46_56 rfl (qh (by simp only [seti_w, hi_setw_row, setw_w]; rfl) k)
theorem t_asBit {d : Nat} {h : Hp} {Q : Option AV → Hp → Prop} {x : Int32} (k : Q (some (vI (if x = 0 then 0 else 1))) h) : Spec d 108 [vI x] h Q := by
  refine spec_intro (by decide +kernel) rfl (Nat.le_of_ble_eq_true rfl) ?_
  refine r_iload_n (pc' := 1) d108_0 rfl rfl rfl ?_
  refine r_if_eq 8 (pc' := 4) d108_1 rfl rfl (fun c1 => ?_) (fun c1 => ?_)
  · refine r_iconst (v := 0) (pc' := 9) d108_8 rfl (by decide) ?_
    exact r_iretI d108_9 rfl (qv (by simp only [c1, if_true, if_false]) k)
  · refine r_iconst (v := 1) (pc' := 5) d108_4 rfl (by decide) ?_
    refine r_goto 9 d108_5 rfl ?_
    exact r_iretI d108_9 rfl (qv (by simp only [c1, if_true, if_false]) k)
theorem t_asBitB {d : Nat} {h : Hp} {Q : Option AV → Hp → Prop} {p : Prop} [Decidable p] (k : Q (some (vI (bI p))) h) : Spec d 108 [vI (bI p)] h Q := t_asBit (qv (by by_cases z : p <;> simp [bI, z]) k)
theorem cel1 {x : Int32} (h1 : ¬ x < 0) (h2 : ¬ 12 ≤ x) : 0 ≤ x ∧ x ≤ 11 := by
  simp only [Int32.le_iff_toInt_le, Int32.lt_iff_toInt_lt] at *
  rw [show (12 : Int32).toInt = 12 from rfl] at h2
  rw [show (11 : Int32).toInt = 11 from rfl]
  omega
theorem cel0 {x : Int32} (h1 : x < 0) : ¬ (0 ≤ x ∧ x ≤ 11) := fun w => absurd w.1 (Int32.not_le.mpr h1)
theorem cel2 {x : Int32} (h2 : 12 ≤ x) : ¬ (0 ≤ x ∧ x ≤ 11) := fun w => by
  have w2 := w.2
  simp only [Int32.le_iff_toInt_le] at *
  rw [show (12 : Int32).toInt = 12 from rfl] at h2
  rw [show (11 : Int32).toInt = 11 from rfl] at w2
  omega
theorem t_isCell {d : Nat} {h : Hp} {Q : Option AV → Hp → Prop} {x : Int32} (k : Q (some (vI (bI (0 ≤ x ∧ x ≤ 11)))) h) : Spec d 109 [vI x] h Q := by
  refine spec_intro (by decide +kernel) rfl (Nat.le_of_ble_eq_true rfl) ?_
  refine r_iload_n (pc' := 1) d109_0 rfl rfl rfl ?_
  refine r_if_lt 14 (pc' := 4) d109_1 rfl rfl (fun c1 => ?_) (fun c1 => ?_)
  · refine r_iconst (v := 0) (pc' := 15) d109_14 rfl (by decide) ?_
    exact r_iretZ0 d109_15 rfl (qv (b0 (by first | exact cel0 c1 | exact cel2 c7)) k)
  · refine r_iload_n (pc' := 5) d109_4 rfl rfl rfl ?_
    refine r_bipush (v := 12) (pc' := 7) d109_5 rfl (by decide) ?_
    refine r_icmp_ge 14 (pc' := 10) d109_7 rfl rfl (fun c7 => ?_) (fun c7 => ?_)
    · refine r_iconst (v := 0) (pc' := 15) d109_14 rfl (by decide) ?_
      exact r_iretZ0 d109_15 rfl (qv (b0 (by first | exact cel0 c1 | exact cel2 c7)) k)
    · refine r_iconst (v := 1) (pc' := 11) d109_10 rfl (by decide) ?_
      refine r_goto 15 d109_11 rfl ?_
      exact r_iretZ1 d109_15 rfl (qv (b1 (cel1 c1 c7)) k)
def savV (f : Nat → Int32) (j q : Nat) (g : Nat → Int32) : Nat → Int32 := upd (upd (upd (upd (upd (upd (upd f j (nI q)) (j + 1) (g 2)) (j + 2) (g 3)) (j + 3) (g 4)) (j + 4) (g 5)) (j + 5) (g 6)) (j + 6) (if g 7 = 0 then 0 else 1)
theorem ne_sh {o a N : Nat} (ho : SH o = (0, 8)) (ha : SH a = (1, N)) : o ≠ a := fun z => by
  subst z
  rw [ho] at ha
  exact absurd (congrArg Prod.fst ha) (show ¬ (0 : Nat) = 1 by decide)
theorem KC.a {h : Hp} {a N : Nat} {f : Nat → Int32} (hK : KC h) (ha : SH a = (1, N)) : KC (setw h a f) := by
  intro q hq
  have e : hi (setw h a f) (10 + q) = hi h (10 + q) := by
    refine hi_setw_ne _ _ _ _ (fun z => ?_)
    subst z
    rw [shK hq] at ha
    exact absurd (congrArg Prod.fst ha) (show ¬ (0 : Nat) = 1 by decide)
  rw [e]
  exact hK q hq
theorem t_saveIn {d : Nat} {h : Hp} {Q : Option AV → Hp → Prop} {o q a N j : Nat} (hN : hn h = 65) (ho : SH o = (0, 8)) (hlt : o < 65) (hK : KC h) (hq : hr h o 1 = some (10 + q)) (hq6 : q < 6) (ha : SH a = (1, N)) (hal : a < 65) (hjN : j + 7 ≤ N) (hNN : N < 3000) (k : Q none (setw h a (savV (hi h a) j q (hi h o)))) : Spec (d + 1) 55 [vR (some o), vR (some a), vI (nI j)] h Q := by
  have hne := ne_sh ho ha
  refine spec_intro (by decide +kernel) rfl (Nat.le_of_ble_eq_true rfl) ?_
  refine r_iload_n (pc' := 1) d55_0 rfl rfl rfl ?_
  refine r_if_lt 13 (pc' := 4) d55_1 rfl rfl (fun c1 => absurd c1 (nI_pos (by omega))) (fun c1 => ?_)
  refine r_iload_n (pc' := 5) d55_4 rfl rfl rfl ?_
  refine r_aload_n (pc' := 6) d55_5 rfl rfl rfl ?_
  refine r_alen (pc' := 7) d55_6 rfl ha (by decide) (plo hN hal) ?_
  refine r_bipush (v := 7) (pc' := 9) d55_7 rfl (by decide) ?_
  refine r_isub (pc' := 10) d55_9 rfl ?_
  refine r_icmp_le 14 (pc' := 13) d55_10 rfl rfl (fun c10 => ?_) (fun c10 => absurd (by show nI j ≤ nI N - nI 7; rw [pk_sub (by omega)]; exact nI_le (by omega) (by omega)) c10)
  refine r_aload_n (pc' := 15) d55_14 rfl rfl rfl ?_
  refine r_iload_n (pc' := 16) d55_15 rfl rfl rfl ?_
  refine r_aload_n (pc' := 17) d55_16 rfl rfl rfl ?_
  refine r_getS (pc' := 20) d55_17 rfl o55 sf8_15_8 ho (plo hN hlt) hq ?_
  refine r_getI (pc' := 23) d55_20 rfl o55 (sfK8_66 hq6) (shK hq6) (plK hN hq6) ?_
  refine wp_v (hK q hq6).1 ?_
  refine r_iastN (pc' := 24) (j := j) d55_23 rfl ha (plo hN hal) rfl (by omega) (by omega) ?_
  refine r_aload_n (pc' := 25) d55_24 rfl rfl rfl ?_
  refine r_iload_n (pc' := 26) d55_25 rfl rfl rfl ?_
  refine r_iconst (v := 1) (pc' := 27) d55_26 rfl (by decide) ?_
  refine r_iadd (pc' := 28) d55_27 rfl ?_
  refine r_aload_n (pc' := 29) d55_28 rfl rfl rfl ?_
  refine r_getI (pc' := 32) d55_29 rfl o55 sf8_19_8 ho (plo hN hlt) ?_
  refine wp_v (y := hi h o 2) (by first | rfl | (simp only [seti_w, hi_setw_ne _ a _ o hne]; done) | (simp only [seti_w, hi_setw_ne _ a _ o hne]; rfl)) ?_
  refine r_iastN (pc' := 33) (j := (j + 1)) d55_32 rfl ha (plo hN hal) (by simp only [lit, nI_add, pk_mul]) (by omega) (by omega) ?_
  refine r_aload_n (pc' := 34) d55_33 rfl rfl rfl ?_
  refine r_iload_n (pc' := 35) d55_34 rfl rfl rfl ?_
  refine r_iconst (v := 2) (pc' := 36) d55_35 rfl (by decide) ?_
  refine r_iadd (pc' := 37) d55_36 rfl ?_
  refine r_aload_n (pc' := 38) d55_37 rfl rfl rfl ?_
  refine r_getI (pc' := 41) d55_38 rfl o55 sf8_22_8 ho (plo hN hlt) ?_
  refine wp_v (y := hi h o 3) (by first | rfl | (simp only [seti_w, hi_setw_ne _ a _ o hne]; done) | (simp only [seti_w, hi_setw_ne _ a _ o hne]; rfl)) ?_
  refine r_iastN (pc' := 42) (j := (j + 2)) d55_41 rfl ha (plo hN hal) (by simp only [lit, nI_add, pk_mul]) (by omega) (by omega) ?_
  refine r_aload_n (pc' := 43) d55_42 rfl rfl rfl ?_
  refine r_iload_n (pc' := 44) d55_43 rfl rfl rfl ?_
  refine r_iconst (v := 3) (pc' := 45) d55_44 rfl (by decide) ?_
  refine r_iadd (pc' := 46) d55_45 rfl ?_
  refine r_aload_n (pc' := 47) d55_46 rfl rfl rfl ?_
  refine r_getI (pc' := 50) d55_47 rfl o55 sf8_25_8 ho (plo hN hlt) ?_
  refine wp_v (y := hi h o 4) (by first | rfl | (simp only [seti_w, hi_setw_ne _ a _ o hne]; done) | (simp only [seti_w, hi_setw_ne _ a _ o hne]; rfl)) ?_
  refine r_iastN (pc' := 51) (j := (j + 3)) d55_50 rfl ha (plo hN hal) (by simp only [lit, nI_add, pk_mul]) (by omega) (by omega) ?_
  refine r_aload_n (pc' := 52) d55_51 rfl rfl rfl ?_
  refine r_iload_n (pc' := 53) d55_52 rfl rfl rfl ?_
  refine r_iconst (v := 4) (pc' := 54) d55_53 rfl (by decide) ?_
  refine r_iadd (pc' := 55) d55_54 rfl ?_
  refine r_aload_n (pc' := 56) d55_55 rfl rfl rfl ?_
  refine r_getI (pc' := 59) d55_56 rfl o55 sf8_28_8 ho (plo hN hlt) ?_
  refine wp_v (y := hi h o 5) (by first | rfl | (simp only [seti_w, hi_setw_ne _ a _ o hne]; done) | (simp only [seti_w, hi_setw_ne _ a _ o hne]; rfl)) ?_
  refine r_iastN (pc' := 60) (j := (j + 4)) d55_59 rfl ha (plo hN hal) (by simp only [lit, nI_add, pk_mul]) (by omega) (by omega) ?_
  refine r_aload_n (pc' := 61) d55_60 rfl rfl rfl ?_
  refine r_iload_n (pc' := 62) d55_61 rfl rfl rfl ?_
  refine r_iconst (v := 5) (pc' := 63) d55_62 rfl (by decide) ?_
  refine r_iadd (pc' := 64) d55_63 rfl ?_
  refine r_aload_n (pc' := 65) d55_64 rfl rfl rfl ?_
  refine r_getI (pc' := 68) d55_65 rfl o55 sf8_31_8 ho (plo hN hlt) ?_
  refine wp_v (y := hi h o 6) (by first | rfl | (simp only [seti_w, hi_setw_ne _ a _ o hne]; done) | (simp only [seti_w, hi_setw_ne _ a _ o hne]; rfl)) ?_
  refine r_iastN (pc' := 69) (j := (j + 5)) d55_68 rfl ha (plo hN hal) (by simp only [lit, nI_add, pk_mul]) (by omega) (by omega) ?_
  refine r_aload_n (pc' := 70) d55_69 rfl rfl rfl ?_
  refine r_iload_n (pc' := 71) d55_70 rfl rfl rfl ?_
  refine r_bipush (v := 6) (pc' := 73) d55_71 rfl (by decide) ?_
  refine r_iadd (pc' := 74) d55_73 rfl ?_
  refine r_aload_n (pc' := 75) d55_74 rfl rfl rfl ?_
  refine r_getI (pc' := 78) d55_75 rfl o55 sf8_34_8 ho (plo hN hlt) ?_
  refine wp_v (y := hi h o 7) (by first | rfl | (simp only [seti_w, hi_setw_ne _ a _ o hne]; done) | (simp only [seti_w, hi_setw_ne _ a _ o hne]; rfl)) ?_
  refine r_call (pc' := 81) [vI _] [vI _, vR (some a)] d55_78 rfl o55 st8_67 rcv0 rfl (by decide) ⟨rfl, rfl⟩ (Nat.le_of_ble_eq_true rfl) rfl (t_asBit ?_)
  refine r_iastN (pc' := 82) (j := (j + 6)) d55_81 rfl ha (plo hN hal) (by simp only [lit, nI_add, pk_mul]) (by omega) (by omega) ?_
  exact r_ret d55_82 rfl (qh (by simp only [seti_w, hi_setw_row, setw_w]; rfl) k)
def ldV (f g : Nat → Int32) (j : Nat) : Nat → Int32 := upd (upd (upd (upd (upd (upd f 2 (g (j + 1))) 3 (g (j + 2))) 4 (g (j + 3))) 5 (g (j + 4))) 6 (g (j + 5))) 7 (if g (j + 6) = 0 then 0 else 1)
theorem t_loadFrom {d : Nat} {h : Hp} {Q : Option AV → Hp → Prop} {o p a N j : Nat} (hN : hn h = 65) (ho : SH o = (0, 8)) (hlt : o < 65) (ha : SH a = (1, N)) (hal : a < 65) (hjN : j + 7 ≤ N) (hNN : N < 3000) (k : Q none (setw (setr h o 1 (some p)) o (ldV (hi h o) (hi h a) j))) : Spec d 56 [vR (some o), vR (some a), vI (nI j), vR (some p)] h Q := by
  have hne := (ne_sh ho ha).symm
  refine spec_intro (by decide +kernel) rfl (Nat.le_of_ble_eq_true rfl) ?_
  refine r_iload_n (pc' := 1) d56_0 rfl rfl rfl ?_
  refine r_if_lt 13 (pc' := 4) d56_1 rfl rfl (fun c1 => absurd c1 (nI_pos (by omega))) (fun c1 => ?_)
  refine r_iload_n (pc' := 5) d56_4 rfl rfl rfl ?_
  refine r_aload_n (pc' := 6) d56_5 rfl rfl rfl ?_
  refine r_alen (pc' := 7) d56_6 rfl ha (by decide) (plo hN hal) ?_
  refine r_bipush (v := 7) (pc' := 9) d56_7 rfl (by decide) ?_
  refine r_isub (pc' := 10) d56_9 rfl ?_
  refine r_icmp_le 14 (pc' := 13) d56_10 rfl rfl (fun c10 => ?_) (fun c10 => absurd (by show nI j ≤ nI N - nI 7; rw [pk_sub (by omega)]; exact nI_le (by omega) (by omega)) c10)
  refine r_aload_n (pc' := 15) d56_14 rfl rfl rfl ?_
  refine r_aload_n (pc' := 16) d56_15 rfl rfl rfl ?_
  refine r_putR (pc' := 19) d56_16 rfl o56 sp8_15_8 ho (fun w => absurd w (by decide)) (Or.inl ⟨_, rfl⟩) (plo hN hlt) ?_
  refine r_aload_n (pc' := 20) d56_19 rfl rfl rfl ?_
  refine r_aload_n (pc' := 21) d56_20 rfl rfl rfl ?_
  refine r_iload_n (pc' := 22) d56_21 rfl rfl rfl ?_
  refine r_iconst (v := 1) (pc' := 23) d56_22 rfl (by decide) ?_
  refine r_iadd (pc' := 24) d56_23 rfl ?_
  refine r_ialdN (pc' := 25) (j := (j + 1)) d56_24 rfl ha (plo hN hal) (by simp only [lit, nI_add, pk_mul]) (by omega) (by omega) ?_
  refine wp_v (y := hi h a (j + 1)) (by first | rfl | (simp only [seti_w, hi_setw_ne _ o _ a hne]; done) | (simp only [seti_w, hi_setw_ne _ o _ a hne]; rfl)) ?_
  refine r_putI (pc' := 28) d56_25 rfl o56 sp8_19_8 ho (fun w => absurd w (by decide)) (Or.inl rfl) (plo hN hlt) ?_
  refine r_aload_n (pc' := 29) d56_28 rfl rfl rfl ?_
  refine r_aload_n (pc' := 30) d56_29 rfl rfl rfl ?_
  refine r_iload_n (pc' := 31) d56_30 rfl rfl rfl ?_
  refine r_iconst (v := 2) (pc' := 32) d56_31 rfl (by decide) ?_
  refine r_iadd (pc' := 33) d56_32 rfl ?_
  refine r_ialdN (pc' := 34) (j := (j + 2)) d56_33 rfl ha (plo hN hal) (by simp only [lit, nI_add, pk_mul]) (by omega) (by omega) ?_
  refine wp_v (y := hi h a (j + 2)) (by first | rfl | (simp only [seti_w, hi_setw_ne _ o _ a hne]; done) | (simp only [seti_w, hi_setw_ne _ o _ a hne]; rfl)) ?_
  refine r_putI (pc' := 37) d56_34 rfl o56 sp8_22_8 ho (fun w => absurd w (by decide)) (Or.inl rfl) (plo hN hlt) ?_
  refine r_aload_n (pc' := 38) d56_37 rfl rfl rfl ?_
  refine r_aload_n (pc' := 39) d56_38 rfl rfl rfl ?_
  refine r_iload_n (pc' := 40) d56_39 rfl rfl rfl ?_
  refine r_iconst (v := 3) (pc' := 41) d56_40 rfl (by decide) ?_
  refine r_iadd (pc' := 42) d56_41 rfl ?_
  refine r_ialdN (pc' := 43) (j := (j + 3)) d56_42 rfl ha (plo hN hal) (by simp only [lit, nI_add, pk_mul]) (by omega) (by omega) ?_
  refine wp_v (y := hi h a (j + 3)) (by first | rfl | (simp only [seti_w, hi_setw_ne _ o _ a hne]; done) | (simp only [seti_w, hi_setw_ne _ o _ a hne]; rfl)) ?_
  refine r_putI (pc' := 46) d56_43 rfl o56 sp8_25_8 ho (fun w => absurd w (by decide)) (Or.inl rfl) (plo hN hlt) ?_
  refine r_aload_n (pc' := 47) d56_46 rfl rfl rfl ?_
  refine r_aload_n (pc' := 48) d56_47 rfl rfl rfl ?_
  refine r_iload_n (pc' := 49) d56_48 rfl rfl rfl ?_
  refine r_iconst (v := 4) (pc' := 50) d56_49 rfl (by decide) ?_
  refine r_iadd (pc' := 51) d56_50 rfl ?_
  refine r_ialdN (pc' := 52) (j := (j + 4)) d56_51 rfl ha (plo hN hal) (by simp only [lit, nI_add, pk_mul]) (by omega) (by omega) ?_
  refine wp_v (y := hi h a (j + 4)) (by first | rfl | (simp only [seti_w, hi_setw_ne _ o _ a hne]; done) | (simp only [seti_w, hi_setw_ne _ o _ a hne]; rfl)) ?_
  refine r_putI (pc' := 55) d56_52 rfl o56 sp8_28_8 ho (fun w => absurd w (by decide)) (Or.inl rfl) (plo hN hlt) ?_
  refine r_aload_n (pc' := 56) d56_55 rfl rfl rfl ?_
  refine r_aload_n (pc' := 57) d56_56 rfl rfl rfl ?_
  refine r_iload_n (pc' := 58) d56_57 rfl rfl rfl ?_
  refine r_iconst (v := 5) (pc' := 59) d56_58 rfl (by decide) ?_
  refine r_iadd (pc' := 60) d56_59 rfl ?_
  refine r_ialdN (pc' := 61) (j := (j + 5)) d56_60 rfl ha (plo hN hal) (by simp only [lit, nI_add, pk_mul]) (by omega) (by omega) ?_
  refine wp_v (y := hi h a (j + 5)) (by first | rfl | (simp only [seti_w, hi_setw_ne _ o _ a hne]; done) | (simp only [seti_w, hi_setw_ne _ o _ a hne]; rfl)) ?_
  refine r_putI (pc' := 64) d56_61 rfl o56 sp8_31_8 ho (fun w => absurd w (by decide)) (Or.inl rfl) (plo hN hlt) ?_
  refine r_aload_n (pc' := 65) d56_64 rfl rfl rfl ?_
  refine r_aload_n (pc' := 66) d56_65 rfl rfl rfl ?_
  refine r_iload_n (pc' := 67) d56_66 rfl rfl rfl ?_
  refine r_bipush (v := 6) (pc' := 69) d56_67 rfl (by decide) ?_
  refine r_iadd (pc' := 70) d56_69 rfl ?_
  refine r_ialdN (pc' := 71) (j := (j + 6)) d56_70 rfl ha (plo hN hal) (by simp only [lit, nI_add, pk_mul]) (by omega) (by omega) ?_
  refine wp_v (y := hi h a (j + 6)) (by first | rfl | (simp only [seti_w, hi_setw_ne _ o _ a hne]; done) | (simp only [seti_w, hi_setw_ne _ o _ a hne]; rfl)) ?_
  refine r_if_eq 78 (pc' := 74) d56_71 rfl rfl (fun c71 => ?_) (fun c71 => ?_)
  · refine r_iconst (v := 0) (pc' := 79) d56_78 rfl (by decide) ?_
    refine r_putI (pc' := 82) d56_79 rfl o56 sp8_34_8 ho (fun w => absurd w (by decide)) (Or.inr ⟨rfl, Or.inl rfl⟩) (plo hN hlt) ?_
    exact r_ret d56_82 rfl (qh (by unfold ldV; rw [if_pos c71]; simp only [seti_w, hi_setw_row, setw_w]; rfl) k)
  · refine r_iconst (v := 1) (pc' := 75) d56_74 rfl (by decide) ?_
    refine r_goto 79 d56_75 rfl ?_
    refine r_putI (pc' := 82) d56_79 rfl o56 sp8_34_8 ho (fun w => absurd w (by decide)) (Or.inr ⟨rfl, Or.inr rfl⟩) (plo hN hlt) ?_
    exact r_ret d56_82 rfl (qh (by unfold ldV; rw [if_neg c71]; simp only [seti_w, hi_setw_row, setw_w]; rfl) k)
def trL (h : Hp) (a : Nat) : List Nat → Hp
  | [] => h
  | b :: t => trL (seti (seti h 8 a (nI b)) 7 1 (nI (a + 1))) (a + 1) t
theorem t_leave {d : Nat} {h : Hp} {Q : Option AV → Hp → Prop} {a b : Nat} (hN : hn h = 65) (hC : RC h) (ha : hi h 7 1 = nI a) (ha16 : a < 16) (k : Q none (trL h a [b])) : Spec d 58 [vR (some 7), vI (nI b)] h Q := by
  refine spec_intro (by decide +kernel) rfl (Nat.le_of_ble_eq_true rfl) ?_
  refine r_aload_n (pc' := 1) d58_0 rfl rfl rfl ?_
  refine r_getI (pc' := 4) d58_1 rfl o58 sf9_13_9 sh7 (pl hN rfl) ?_
  refine wp_v ha ?_
  refine r_aload_n (pc' := 5) d58_4 rfl rfl rfl ?_
  refine r_getS (pc' := 8) d58_5 rfl o58 sf9_7_9 sh7 (pl hN rfl) (rfc7_0 hC) ?_
  refine r_alen (pc' := 9) d58_8 rfl sh8 (by decide) (pl hN rfl) ?_
  refine r_icmp_ge 32 (pc' := 12) d58_9 rfl rfl (fun c9 => absurd c9 (nI_ge (a := a) (b := 16) (by omega) (by decide))) (fun c9 => ?_)
  refine r_aload_n (pc' := 13) d58_12 rfl rfl rfl ?_
  refine r_getS (pc' := 16) d58_13 rfl o58 sf9_7_9 sh7 (pl hN rfl) (rfc7_0 hC) ?_
  refine r_aload_n (pc' := 17) d58_16 rfl rfl rfl ?_
  refine r_getI (pc' := 20) d58_17 rfl o58 sf9_13_9 sh7 (pl hN rfl) ?_
  refine wp_v ha ?_
  refine r_iload_n (pc' := 21) d58_20 rfl rfl rfl ?_
  refine r_iastN (pc' := 22) (j := a) d58_21 rfl sh8 (pl hN rfl) rfl (by omega) (by decide) ?_
  refine r_aload_n (pc' := 23) d58_22 rfl rfl rfl ?_
  refine r_dupR (pc' := 24) d58_23 rfl ?_
  refine r_getI (pc' := 27) d58_24 rfl o58 sf9_13_9 sh7 (pl hN rfl) ?_
  refine wp_v ha ?_
  refine r_iconst (v := 1) (pc' := 28) d58_27 rfl (by decide) ?_
  refine r_iadd (pc' := 29) d58_28 rfl ?_
  refine r_putI (pc' := 32) d58_29 rfl o58 sp9_13_9 sh7 (fun w => absurd w (by decide)) (Or.inl rfl) (pl hN rfl) ?_
  exact r_ret d58_32 rfl (qh (congrArg (seti _ 7 1) (nI_1 a).symm) k)
